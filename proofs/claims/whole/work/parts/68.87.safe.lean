/-! SAFETY of methods: printed by wip/safe (vc.py, decl.py) -/
theorem abv_w {S U : sS} {n : Nat} {v : Int} (e : U = uI S 917 n (Int32.ofInt v)) (hB : ABV S) (hn : n < 16) (hv : v < n) (hr : rg v) : ABV U := fun k hk => by
  by_cases q : k = n
  · rw [q, e, Xi_same hr]; exact hv
  · rw [e, Xi_ne (by omega)]; exact hB k hk
theorem txm_k2 {S T : sS} (hX : TXM S) (hc : Xi T 904 16 = Xi S 904 16 + 1) (o : ∀ j : Nat, (j : Int) < 12 * Xi S 904 16 → Xi T 933 j = Xi S 933 j) (z : ∀ p : Int, 0 ≤ p → p < 12 → Xi T 933 (12 * Xi S 904 16 + p).toNat = 0) (e18 : ∀ j, Xi T 918 j = Xi S 918 j) (e28 : ∀ j, Xi T 928 j = Xi S 928 j) (e30 : ∀ j, Xi T 930 j = Xi S 930 j) (e31 : ∀ j, Xi T 931 j = Xi S 931 j) (e32 : ∀ j, Xi T 932 j = Xi S 932 j) (e34 : ∀ j, Xi T 934 j = Xi S 934 j) (e35 : ∀ j, Xi T 935 j = Xi S 935 j) (e19 : Xi T 904 19 = Xi S 904 19) (ep : Xi T 904 32 = Xi S 904 32) : TXM T := by
  refine ⟨fun a h1 h2 => ?_, fun a b h1 h2 h3 h4 h5 => ?_, fun a b h1 h2 h3 h4 h5 => ?_⟩
  · rw [e19] at h2
    rw [e18, hc]
    have := hX.1 a h1 h2
    omega
  · rw [e19] at h2
    rw [e30] at h5
    rw [ep, e28, e31, e32]
    exact hX.2.1 a b h1 h2 h3 h4 h5
  · rw [ep, e28, e34, e35]
    rcases (by omega : a < Xi S 904 16 ∨ a = Xi S 904 16) with q | q
    · rw [o (12 * a + b).toNat (by omega)] at h5; exact hX.2.2 a b h1 q h3 h4 h5
    · rw [q, z b h3 h4] at h5; exact absurd rfl h5
def md_mo_addKind : List rec := [(904, 905, 16, 17), (917, 918, 0, 100000), (926, 927, 0, 100000), (929, 930, 0, 100000), (933, 934, 0, 100000)]
abbrev Q_mo_addKind (S : sS) (par : Int) : pst := fun r S1 => HI S1 ∧ FR md_mo_addKind S S1 ∧ (∃ z : Int, r = some (iv z) ∧ (0 ≤ z ∧ z ≤ 15) ∧ (z = Xi S 904 16) ∧ (Xi S1 904 16 = Xi S 904 16 + 1) ∧ (ABV S1) ∧ (TXM S1))
set_option maxRecDepth 100000 in
theorem t_mo_addKind {S : sS} (hH : HI S) (par : Int) (hpar : -1 ≤ par ∧ par ≤ 15) (h : Xi S 904 16 ≤ 15) (hp : par < Xi S 904 16) (hB : ABV S) (hX : TXM S) (d : Nat) : Mt lay0 (d + 1) m_mo_addKind [.ref 904, iv par] S (Q_mo_addKind S par) := by
  refine Mt_R rfl rfl ?_
  have hF : FR md_mo_addKind S S := FR.rf
  have w1 : 0 ≤ Xi S 904 16 ∧ Xi S 904 16 ≤ 16 := hH.c _ _
  have hc16 : 0 ≤ Xi S 904 16 ∧ Xi S 904 16 ≤ 16 := hH.c _ _
  have C12 : ∀ (n12 : Nat) (T1 : sS) (_ : HI T1) (_ : FR md_mo_addKind S T1) (v2 : Int), (0 ≤ v2 ∧ v2 ≤ 12) → (Xi T1 904 16 = Xi S 904 16) → (ABV T1) → (∀ j : Nat, (j : Int) < 12 * Xi S 904 16 → Xi T1 933 j = Xi S 933 j) → (∀ p : Int, 0 ≤ p → p < v2 → Xi T1 933 (12 * Xi S 904 16 + p).toNat = 0) → n12 = (13 - v2).toNat → Rl lay0 (d + 0) m_mo_addKind 12 [(0, .ref 904), (2, iv v2)] [] T1 (Q_mo_addKind S par) := by
    intro n12
    induction n12 using Nat.strongRecOn with
    | ind n12 ih12 =>
      intro T1 hHT1 hFT1 v2 w2 w3 B12 O12 Z12 hm12
      have w4 : 0 ≤ Xi T1 904 16 ∧ Xi T1 904 16 ≤ 16 := hHT1.c _ _
      have C56 : ∀ (n56 : Nat) (T2 : sS) (_ : HI T2) (_ : FR md_mo_addKind S T2) (v2 : Int), (0 ≤ v2 ∧ v2 ≤ 24) → (Xi T2 904 16 = Xi S 904 16) → (ABV T2) → (∀ j : Nat, (j : Int) < 12 * Xi S 904 16 → Xi T2 933 j = Xi S 933 j) → (∀ p : Int, 0 ≤ p → p < 12 → Xi T2 933 (12 * Xi S 904 16 + p).toNat = 0) → n56 = (25 - v2).toNat → Rl lay0 (d + 0) m_mo_addKind 56 [(0, .ref 904), (2, iv v2)] [] T2 (Q_mo_addKind S par) := by
        intro n56
        induction n56 using Nat.strongRecOn with
        | ind n56 ih56 =>
          intro T2 hHT2 hFT2 v2 w5 w6 B56 O56 Z56 hm56
          have w7 : 0 ≤ Xi T2 904 16 ∧ Xi T2 904 16 ≤ 16 := hHT2.c _ _
          refine l_iload_n rfl rfl ?_
          refine l_bipush rfl rfl ?_
          refine l_icmp_ge rfl rfl (by unfold rg; omega) (by unfold rg; omega) (fun w8 => ?_) (fun w9 => ?_)
          · refine l_aload_n rfl rfl ?_
            refine l_dup rfl rfl ?_
            refine l_gfi rfl rfl rfl rfl rfl ?_
            refine l_iconst rfl ?_
            refine l_iadd rfl ?_
            refine l_pfi rfl rfl rfl rfl ?_
            obtain ⟨U3, eU3⟩ : ∃ T : sS, T = uI T2 904 16 (Int32.ofInt ((Xi T2 904 16) + 1)) := ⟨_, rfl⟩
            rw [← eU3]
            have hHU3 : HI U3 := by rw [eU3]; exact HI_w hHT2 (show 0 ≤ ((Xi T2 904 16) + 1) by omega) (show ((Xi T2 904 16) + 1) ≤ 16 by omega)
            have hFU3 : FR md_mo_addKind S U3 := by rw [eU3]; exact FR.wI hFT2 (mdf_i (r := (904, 905, 16, 17)) (List.mem_of_getElem? (i := 0) rfl) (inR_i (by omega) (by omega) (by omega) (by omega)))
            have w10 : Xi U3 904 16 = ((Xi T2 904 16) + 1) := by rw [eU3]; exact Xi_same (by unfold rg; omega)
            have b90 : ABV U3 := ABV_FR (FR_e eU3) rfl B56
            have x90 : TXM U3 := txm_k2 hX (by omega) (fun j hj => by rw [eU3, Xi_ne (by omega)]; exact O56 j hj) (fun p a b => by rw [eU3, Xi_ne (by omega)]; exact Z56 p a b) (fun j => (hFU3.cx 918 rfl j).1) (fun j => (hFU3.cx 928 rfl j).1) (fun j => (hFU3.cx 930 rfl j).1) (fun j => (hFU3.cx 931 rfl j).1) (fun j => (hFU3.cx 932 rfl j).1) (fun j => (hFU3.cx 934 rfl j).1) (fun j => (hFU3.cx 935 rfl j).1) (hFU3.x 904 19 rfl) (hFU3.x 904 32 rfl)
            refine l_aload_n rfl rfl ?_
            refine l_gfi rfl rfl rfl rfl rfl ?_
            refine l_iconst rfl ?_
            refine l_isub rfl ?_
            refine l_ireturn rfl rfl ?_
            have w11 : 0 ≤ Xi U3 904 16 ∧ Xi U3 904 16 ≤ 16 := hHU3.c _ _
            exact ⟨hHU3, hFU3, _, rfl, ⟨by omega, by omega⟩, (by omega), (by omega), (b90), (x90)⟩
          · refine l_aload_n rfl rfl ?_
            refine l_gfr rfl rfl rfl rfl rfl (hHT2.r 904 29 926 rfl) ?_
            refine l_bipush rfl rfl ?_
            refine l_aload_n rfl rfl ?_
            refine l_gfi rfl rfl rfl rfl rfl ?_
            refine l_imul rfl ?_
            refine l_iload_n rfl rfl ?_
            refine l_iadd rfl ?_
            refine l_iconst rfl ?_
            refine l_iastore (n := 384) rfl rfl (by omega) (by omega) (by unfold rg; omega) ?_
            obtain ⟨U4, eU4⟩ : ∃ T : sS, T = uI T2 926 ((((24 * (Xi T2 904 16)) + v2)).toNat) (Int32.ofInt 0) := ⟨_, rfl⟩
            rw [← eU4]
            have hHU4 : HI U4 := by rw [eU4]; exact HI_w hHT2 (show 0 ≤ 0 by omega) (show 0 ≤ 2 by omega)
            have hFU4 : FR md_mo_addKind S U4 := by rw [eU4]; exact FR.wI hFT2 (mdf_i (r := (926, 927, 0, 100000)) (List.mem_of_getElem? (i := 2) rfl) (inR_i (by omega) (by omega) (by omega) (by omega)))
            have w12 : Xi U4 926 ((((24 * (Xi T2 904 16)) + v2)).toNat) = 0 := by rw [eU4]; exact Xi_same (by unfold rg; omega)
            have b76 : ABV U4 := ABV_FR (FR_e eU4) rfl B56
            have o76 : ∀ j : Nat, (j : Int) < 12 * Xi S 904 16 → Xi U4 933 j = Xi S 933 j := fun j hj => by rw [eU4, Xi_ne (by omega)]; exact O56 j hj
            have z76 : ∀ p : Int, 0 ≤ p → p < 12 → Xi U4 933 (12 * Xi S 904 16 + p).toNat = 0 := fun p a b => by rw [eU4, Xi_ne (by omega)]; exact Z56 p a b
            refine l_iinc rfl rfl rfl rfl ?_
            refine l_goto rfl rfl ?_
            have w13 : Xi U4 904 16 = Xi T2 904 16 := (show Xi U4 904 16 = Xi T2 904 16 from by rw [eU4]; exact Xi_ne (by omega))
            exact Rl_weak (ih56 _ (by omega) U4 hHU4 hFU4 ((v2 + 1)) (by omega) (by omega) (by first | exact b76 | exact B12) (by first | exact o76 | exact O12) (by first | exact z76 | exact fun p a b => Z12 p a (by omega)) rfl) (And.intro rfl (And.intro rfl (True.intro)))
      refine l_iload_n rfl rfl ?_
      refine l_bipush rfl rfl ?_
      refine l_icmp_ge rfl rfl (by unfold rg; omega) (by unfold rg; omega) (fun w15 => ?_) (fun w16 => ?_)
      · refine l_iconst rfl ?_
        refine l_istore_n rfl rfl rfl ?_
        exact Rl_weak (C56 _ T1 hHT1 hFT1 (0) (by omega) (by omega) (by first | exact b76 | exact B12) (by first | exact o76 | exact O12) (by first | exact z76 | exact fun p a b => Z12 p a (by omega)) rfl) (And.intro rfl (And.intro rfl (True.intro)))
      · refine l_aload_n rfl rfl ?_
        refine l_gfr rfl rfl rfl rfl rfl (hHT1.r 904 34 929 rfl) ?_
        refine l_bipush rfl rfl ?_
        refine l_aload_n rfl rfl ?_
        refine l_gfi rfl rfl rfl rfl rfl ?_
        refine l_imul rfl ?_
        refine l_iload_n rfl rfl ?_
        refine l_iadd rfl ?_
        refine l_iconst rfl ?_
        refine l_bastoreZ1 (n := 192) rfl rfl (by omega) (by omega) (by unfold rg; omega) ⟨by omega, by omega⟩ ?_
        obtain ⟨U5, eU5⟩ : ∃ T : sS, T = uI T1 929 ((((12 * (Xi T1 904 16)) + v2)).toNat) (Int32.ofInt 0) := ⟨_, rfl⟩
        rw [← eU5]
        have hHU5 : HI U5 := by rw [eU5]; exact HI_w hHT1 (show 0 ≤ 0 by omega) (show 0 ≤ 1 by omega)
        have hFU5 : FR md_mo_addKind S U5 := by rw [eU5]; exact FR.wI hFT1 (mdf_i (r := (929, 930, 0, 100000)) (List.mem_of_getElem? (i := 3) rfl) (inR_i (by omega) (by omega) (by omega) (by omega)))
        have w18 : Xi U5 929 ((((12 * (Xi T1 904 16)) + v2)).toNat) = 0 := by rw [eU5]; exact Xi_same (by unfold rg; omega)
        have b32 : ABV U5 := ABV_FR (FR_e eU5) rfl B12
        have o32 : ∀ j : Nat, (j : Int) < 12 * Xi S 904 16 → Xi U5 933 j = Xi S 933 j := fun j hj => by rw [eU5, Xi_ne (by omega)]; exact O12 j hj
        have z32 : ∀ p : Int, 0 ≤ p → p < v2 → Xi U5 933 (12 * Xi S 904 16 + p).toNat = 0 := fun p a b => by rw [eU5, Xi_ne (by omega)]; exact Z12 p a b
        refine l_aload_n rfl rfl ?_
        refine l_gfr rfl rfl rfl rfl rfl (hHU5.r 904 38 933 rfl) ?_
        refine l_bipush rfl rfl ?_
        refine l_aload_n rfl rfl ?_
        refine l_gfi rfl rfl rfl rfl rfl ?_
        have w19 : (Xi U5 904 16) = (Xi T1 904 16) := (show Xi U5 904 16 = Xi T1 904 16 from by rw [eU5]; exact Xi_ne (by omega))
        rw [w19]
        refine l_imul rfl ?_
        refine l_iload_n rfl rfl ?_
        refine l_iadd rfl ?_
        refine l_iconst rfl ?_
        refine l_bastoreZ1 (n := 192) rfl rfl (by omega) (by omega) (by unfold rg; omega) ⟨by omega, by omega⟩ ?_
        obtain ⟨U6, eU6⟩ : ∃ T : sS, T = uI U5 933 ((((12 * (Xi T1 904 16)) + v2)).toNat) (Int32.ofInt 0) := ⟨_, rfl⟩
        rw [← eU6]
        have hHU6 : HI U6 := by rw [eU6]; exact HI_w hHU5 (show 0 ≤ 0 by omega) (show 0 ≤ 1 by omega)
        have hFU6 : FR md_mo_addKind S U6 := by rw [eU6]; exact FR.wI hFU5 (mdf_i (r := (933, 934, 0, 100000)) (List.mem_of_getElem? (i := 4) rfl) (inR_i (by omega) (by omega) (by omega) (by omega)))
        have w20 : Xi U6 933 ((((12 * (Xi T1 904 16)) + v2)).toNat) = 0 := by rw [eU6]; exact Xi_same (by unfold rg; omega)
        have b47 : ABV U6 := ABV_FR (FR_e eU6) rfl b32
        have o47 : ∀ j : Nat, (j : Int) < 12 * Xi S 904 16 → Xi U6 933 j = Xi S 933 j := fun j hj => by rw [eU6, Xi_ne (by omega)]; exact o32 j hj
        have z47 : ∀ p : Int, 0 ≤ p → p < v2 + 1 → Xi U6 933 (12 * Xi S 904 16 + p).toNat = 0 := fun p a b => (by by_cases g : p = v2; (rw [g, show (12 * Xi S 904 16 + v2).toNat = (12 * Xi U5 904 16 + v2).toNat by omega]; first | assumption | (rw [show (12 * Xi U5 904 16 + v2).toNat = (12 * Xi T1 904 16 + v2).toNat by omega]; assumption)); (rw [eU6, Xi_ne (by omega)]; exact z32 p a (by omega)))
        refine l_iinc rfl rfl rfl rfl ?_
        refine l_goto rfl rfl ?_
        have w21 : Xi U6 904 16 = Xi T1 904 16 := (show Xi U6 904 16 = Xi U5 904 16 from by rw [eU6]; exact Xi_ne (by omega)).trans ((show Xi U5 904 16 = Xi T1 904 16 from by rw [eU5]; exact Xi_ne (by omega)))
        exact Rl_weak (ih12 _ (by omega) U6 hHU6 hFU6 ((v2 + 1)) (by omega) (by omega) (by first | exact b47 | exact b9) (by first | exact o47 | exact o9) (by first | exact z47 | exact fun p a b => absurd b (by omega)) rfl) (And.intro rfl (And.intro rfl (True.intro)))
  refine l_aload_n rfl rfl ?_
  refine l_gfr rfl rfl rfl rfl rfl (hH.r 904 17 917 rfl) ?_
  refine l_aload_n rfl rfl ?_
  refine l_gfi rfl rfl rfl rfl rfl ?_
  refine l_iload_n rfl rfl ?_
  refine l_iastore (n := 16) rfl rfl (by omega) (by omega) (by unfold rg; omega) ?_
  obtain ⟨U7, eU7⟩ : ∃ T : sS, T = uI S 917 (((Xi S 904 16)).toNat) (Int32.ofInt par) := ⟨_, rfl⟩
  rw [← eU7]
  have hHU7 : HI U7 := by rw [eU7]; exact HI_w hH (show -1 ≤ par by omega) (show par ≤ 15 by omega)
  have hFU7 : FR md_mo_addKind S U7 := by rw [eU7]; exact FR.wI hF (mdf_i (r := (917, 918, 0, 100000)) (List.mem_of_getElem? (i := 1) rfl) (inR_i (by omega) (by omega) (by omega) (by omega)))
  have w23 : Xi U7 917 (((Xi S 904 16)).toNat) = par := by rw [eU7]; exact Xi_same (by unfold rg; omega)
  have b9 : ABV U7 := abv_w eU7 hB (by omega) (by omega) (by unfold rg; omega)
  have o9 : ∀ j : Nat, (j : Int) < 12 * Xi S 904 16 → Xi U7 933 j = Xi S 933 j := fun j hj => by rw [eU7, Xi_ne (by omega)]
  refine l_iconst rfl ?_
  refine l_istore_n rfl rfl rfl ?_
  have w24 : Xi U7 904 16 = Xi S 904 16 := (show Xi U7 904 16 = Xi S 904 16 from by rw [eU7]; exact Xi_ne (by omega))
  exact Rl_weak (C12 _ U7 hHU7 hFU7 (0) (by omega) (by omega) (by first | exact b47 | exact b9) (by first | exact o47 | exact o9) (by first | exact z47 | exact fun p a b => absurd b (by omega)) rfl) (And.intro rfl (And.intro rfl (True.intro)))
def md_mo_doSaying : List rec := [(904, 905, 105, 106), (904, 905, 106, 107), (940, 941, 0, 100000)]
abbrev Q_mo_doSaying (S : sS) (first : Int) : pst := fun r S1 => HI S1 ∧ FR md_mo_doSaying S S1 ∧ (r = none)
set_option maxRecDepth 100000 in
theorem t_mo_doSaying {S : sS} (hH : HI S) (first : Int) (hfirst : 0 ≤ first ∧ first ≤ 5001) (d : Nat) : Mt lay0 (d + 2) m_mo_doSaying [.ref 904, iv first] S (Q_mo_doSaying S first) := by
  refine Mt_R rfl rfl ?_
  have hF : FR md_mo_doSaying S S := FR.rf
  have C2 : ∀ (n2 : Nat) (T1 : sS) (_ : HI T1) (_ : FR md_mo_doSaying S T1) (v2 : Int), (0 ≤ v2 ∧ v2 ≤ 2600) → n2 = (2601 - v2).toNat → Rl lay0 (d + 1) m_mo_doSaying 2 [(0, .ref 904), (1, iv first), (2, iv v2)] [] T1 (Q_mo_doSaying S first) := by
    intro n2
    induction n2 using Nat.strongRecOn with
    | ind n2 ih2 =>
      intro T1 hHT1 hFT1 v2 w1 hm2
      have C19 : ∀ (n19 : Nat) (T2 : sS) (_ : HI T2) (_ : FR md_mo_doSaying S T2) (v2 : Int) (v3 : Int), (0 ≤ v2 ∧ v2 ≤ 2599) → (0 ≤ v3 ∧ v3 ≤ 2600) → ((2601 - v2).toNat ≤ n2) → n19 = (2601 - v3).toNat → Rl lay0 (d + 1) m_mo_doSaying 19 [(0, .ref 904), (1, iv first), (2, iv v2), (3, iv v3)] [] T2 (Q_mo_doSaying S first) := by
        intro n19
        induction n19 using Nat.strongRecOn with
        | ind n19 ih19 =>
          intro T2 hHT2 hFT2 v2 v3 w2 w3 w4 hm19
          have C69 : ∀  (T3 : sS) (_ : HI T3) (_ : FR md_mo_doSaying S T3) (v2 : Int), (0 ≤ v2 ∧ v2 ≤ 2599) → ((2601 - v2).toNat ≤ n2) → Rl lay0 (d + 1) m_mo_doSaying 69 [(0, .ref 904), (1, iv first), (2, iv v2)] [] T3 (Q_mo_doSaying S first) := by
            intro T3 hHT3 hFT3 v2 w5 w6
            refine l_iinc rfl rfl rfl rfl ?_
            refine l_goto rfl rfl ?_
            exact Rl_weak (ih2 _ (by omega) T3 hHT3 hFT3 ((v2 + 1)) (by omega) rfl) (And.intro rfl (And.intro rfl (And.intro rfl (True.intro))))
          refine l_iload_n rfl rfl ?_
          refine l_aload_n rfl rfl ?_
          refine l_gfi rfl rfl rfl rfl rfl ?_
          have w7 : 0 ≤ (Xi T2 904 146) ∧ (Xi T2 904 146) ≤ 2600 := hHT2.c _ _
          refine l_icmp_ge rfl rfl (by unfold rg; omega) (by unfold rg; omega) (fun w8 => ?_) (fun w9 => ?_)
          · exact Rl_weak (C69 T2 hHT2 hFT2 (v2) (by omega) (by omega)) (And.intro rfl (And.intro rfl (And.intro rfl (True.intro))))
          · refine l_aload_n rfl rfl ?_
            refine l_gfi rfl rfl rfl rfl rfl ?_
            have w10 : 0 ≤ (Xi T2 904 106) ∧ (Xi T2 904 106) ≤ 9 := hHT2.c _ _
            refine l_if_ne rfl rfl (by unfold rg; omega) (fun w11 => ?_) (fun w12 => ?_)
            · exact Rl_weak (C69 T2 hHT2 hFT2 (v2) (by omega) (by omega)) (And.intro rfl (And.intro rfl (And.intro rfl (True.intro))))
            · refine l_aload_n rfl rfl ?_
              refine l_aload_n rfl rfl ?_
              refine l_gfi rfl rfl rfl rfl rfl ?_
              have w13 : 0 ≤ (Xi T2 904 147) ∧ (Xi T2 904 147) ≤ 5 := hHT2.c _ _
              refine l_aload_n rfl rfl ?_
              refine l_gfr rfl rfl rfl rfl rfl (hHT2.r 904 143 988 rfl) ?_
              refine l_iload_n rfl rfl ?_
              refine l_iaload (n := 2600) rfl rfl (by omega) (by omega) (by unfold rg; omega) ?_
              have w14 : 0 ≤ (Xi T2 988 ((v2).toNat)) ∧ (Xi T2 988 ((v2).toNat)) ≤ 23 := hHT2.c _ _
              refine l_aload_n rfl rfl ?_
              refine l_gfr rfl rfl rfl rfl rfl (hHT2.r 904 145 989 rfl) ?_
              refine l_iload_n rfl rfl ?_
              refine l_iaload (n := 2600) rfl rfl (by omega) (by omega) (by unfold rg; omega) ?_
              have w15 : 0 ≤ (Xi T2 989 ((v3).toNat)) ∧ (Xi T2 989 ((v3).toNat)) ≤ 23 := hHT2.c _ _
              refine l_callV rfl rfl rfl (t_mo_relate hHT2 (Xi T2 904 147) (Xi T2 988 ((v2).toNat)) (Xi T2 989 ((v3).toNat)) ⟨by omega, by omega⟩ ⟨by omega, by omega⟩ ⟨by omega, by omega⟩ _) ?_
              rintro _ T4 ⟨hHT4, w17, z16, rfl, w16⟩
              have hFT4 : FR md_mo_doSaying S T4 := FR.tr hFT2 w17 rfl
              show Rl _ _ _ _ _ [iv z16] _ _
              refine l_if_ne rfl rfl (by unfold rg; omega) (fun w18 => ?_) (fun w19 => ?_)
              · refine l_iinc rfl rfl rfl rfl ?_
                refine l_goto rfl rfl ?_
                exact Rl_weak (ih19 _ (by omega) T4 hHT4 hFT4 (v2) ((v3 + 1)) (by omega) (by omega) (by omega) rfl) (And.intro rfl (And.intro rfl (And.intro rfl (And.intro rfl (True.intro)))))
              · refine l_aload_n rfl rfl ?_
                refine l_iconst rfl ?_
                refine l_iload_n rfl rfl ?_
                refine l_callV rfl rfl rfl (t_mo_wrong hHT4 5 first ⟨by omega, by omega⟩ ⟨by omega, by omega⟩ _) ?_
                rintro _ T5 ⟨hHT5, w22, rfl, w20⟩
                have hFT5 : FR md_mo_doSaying S T5 := FR.tr hFT4 w22 rfl
                show Rl _ _ _ _ _ [] _ _
                refine l_iinc rfl rfl rfl rfl ?_
                refine l_goto rfl rfl ?_
                exact Rl_weak (ih19 _ (by omega) T5 hHT5 hFT5 (v2) ((v3 + 1)) (by omega) (by omega) (by omega) rfl) (And.intro rfl (And.intro rfl (And.intro rfl (And.intro rfl (True.intro)))))
      have C75 : ∀  (T6 : sS) (_ : HI T6) (_ : FR md_mo_doSaying S T6), Rl lay0 (d + 1) m_mo_doSaying 75 [] [] T6 (Q_mo_doSaying S first) := by
        intro T6 hHT6 hFT6
        refine l_return rfl rfl ?_
        exact ⟨hHT6, hFT6, rfl⟩
      refine l_iload_n rfl rfl ?_
      refine l_aload_n rfl rfl ?_
      refine l_gfi rfl rfl rfl rfl rfl ?_
      have w23 : 0 ≤ (Xi T1 904 144) ∧ (Xi T1 904 144) ≤ 2600 := hHT1.c _ _
      refine l_icmp_ge rfl rfl (by unfold rg; omega) (by unfold rg; omega) (fun w24 => ?_) (fun w25 => ?_)
      · exact Rl_weak (C75 T1 hHT1 hFT1  ) (True.intro)
      · refine l_aload_n rfl rfl ?_
        refine l_gfi rfl rfl rfl rfl rfl ?_
        have w26 : 0 ≤ (Xi T1 904 106) ∧ (Xi T1 904 106) ≤ 9 := hHT1.c _ _
        refine l_if_ne rfl rfl (by unfold rg; omega) (fun w27 => ?_) (fun w28 => ?_)
        · exact Rl_weak (C75 T1 hHT1 hFT1  ) (True.intro)
        · refine l_iconst rfl ?_
          refine l_istore_n rfl rfl rfl ?_
          exact Rl_weak (C19 _ T1 hHT1 hFT1 (v2) (0) (by omega) (by omega) (by omega) rfl) (And.intro rfl (And.intro rfl (And.intro rfl (And.intro rfl (True.intro)))))
  refine l_iconst rfl ?_
  refine l_istore_n rfl rfl rfl ?_
  exact Rl_weak (C2 _ S hH hF (0) (by omega) rfl) (And.intro rfl (And.intro rfl (And.intro rfl (True.intro))))
def md_mo_tellIs : List rec := [(925, 926, 0, 100000), (926, 927, 0, 100000)]
abbrev Q_mo_tellIs (S : sS) (base : Int) (a : Int) (iss : Int) : pst := fun r S1 => HI S1 ∧ FR md_mo_tellIs S S1 ∧ (∃ z : Int, r = some (iv z) ∧ (0 ≤ z ∧ z ≤ 1))
set_option maxRecDepth 100000 in
theorem t_mo_tellIs {S : sS} (hH : HI S) (base : Int) (a : Int) (iss : Int) (hbase : 0 ≤ base ∧ base ≤ 552) (ha : 0 ≤ a ∧ a ≤ 23) (hiss : 0 ≤ iss ∧ iss ≤ 1) (hb : base ≤ 552) (d : Nat) : Mt lay0 (d + 1) m_mo_tellIs [.ref 904, .ref 925, iv base, iv a, iv iss] S (Q_mo_tellIs S base a iss) := by
  refine Mt_R rfl rfl ?_
  have hF : FR md_mo_tellIs S S := FR.rf
  refine l_iload_n rfl rfl ?_
  refine l_iload_n rfl rfl ?_
  refine l_iadd rfl ?_
  refine l_istore rfl rfl rfl ?_
  refine l_aload_n rfl rfl ?_
  refine l_iload rfl rfl ?_
  refine l_iaload (n := 576) rfl rfl (by omega) (by omega) (by unfold rg; omega) ?_
  have w1 : 0 ≤ (Xi S 925 (((base + a)).toNat)) ∧ (Xi S 925 (((base + a)).toNat)) ≤ 2 := hH.c _ _
  refine l_iload rfl rfl ?_
  refine l_if_eq rfl rfl (by unfold rg; omega) (fun w2 => ?_) (fun w3 => ?_)
  · refine l_iconst rfl ?_
    refine l_icmp_ne rfl rfl (by unfold rg; omega) (by unfold rg; omega) (fun w4 => ?_) (fun w5 => ?_)
    · refine l_aload_n rfl rfl ?_
      refine l_iload rfl rfl ?_
      refine l_iload rfl rfl ?_
      refine l_if_eq rfl rfl (by unfold rg; omega) (fun w6 => ?_) (fun w7 => ?_)
      · refine l_iconst rfl ?_
        refine l_iastore (n := 576) rfl rfl (by omega) (by omega) (by unfold rg; omega) ?_
        obtain ⟨U1, eU1⟩ : ∃ T : sS, T = uI S 925 (((base + a)).toNat) (Int32.ofInt 2) := ⟨_, rfl⟩
        rw [← eU1]
        have hHU1 : HI U1 := by rw [eU1]; exact HI_w hH (show 0 ≤ 2 by omega) (show 2 ≤ 2 by omega)
        have hFU1 : FR md_mo_tellIs S U1 := by rw [eU1]; exact FR.wI hF (mdf_i (r := (925, 926, 0, 100000)) (List.mem_of_getElem? (i := 0) rfl) (inR_i (by omega) (by omega) (by omega) (by omega)))
        have w8 : Xi U1 925 (((base + a)).toNat) = 2 := by rw [eU1]; exact Xi_same (by unfold rg; omega)
        refine l_aload_n rfl rfl ?_
        refine l_gfr rfl rfl rfl rfl rfl (hHU1.r 904 25 922 rfl) ?_
        refine l_iload_n rfl rfl ?_
        refine l_iaload (n := 24) rfl rfl (by omega) (by omega) (by unfold rg; omega) ?_
        have w9 : -1 ≤ (Xi U1 922 ((a).toNat)) ∧ (Xi U1 922 ((a).toNat)) ≤ 23 := hHU1.c _ _
        refine l_iconst rfl ?_
        refine l_icmp_eq rfl rfl (by unfold rg; omega) (by unfold rg; omega) (fun w10 => ?_) (fun w11 => ?_)
        · refine l_iconst rfl ?_
          refine l_ireturn rfl rfl ?_
          exact ⟨hHU1, hFU1, _, rfl, ⟨by omega, by omega⟩⟩
        · refine l_aload_n rfl rfl ?_
          refine l_iload_n rfl rfl ?_
          refine l_aload_n rfl rfl ?_
          refine l_gfr rfl rfl rfl rfl rfl (hHU1.r 904 25 922 rfl) ?_
          refine l_iload_n rfl rfl ?_
          refine l_iaload (n := 24) rfl rfl (by omega) (by omega) (by unfold rg; omega) ?_
          refine l_iadd rfl ?_
          refine l_iload rfl rfl ?_
          refine l_if_eq rfl rfl (by unfold rg; omega) (fun w12 => ?_) (fun w13 => ?_)
          · refine l_iconst rfl ?_
            refine l_iastore (n := 576) rfl rfl (by omega) (by omega) (by unfold rg; omega) ?_
            obtain ⟨U2, eU2⟩ : ∃ T : sS, T = uI U1 925 (((base + (Xi U1 922 ((a).toNat)))).toNat) (Int32.ofInt 1) := ⟨_, rfl⟩
            rw [← eU2]
            have hHU2 : HI U2 := by rw [eU2]; exact HI_w hHU1 (show 0 ≤ 1 by omega) (show 1 ≤ 2 by omega)
            have hFU2 : FR md_mo_tellIs S U2 := by rw [eU2]; exact FR.wI hFU1 (mdf_i (r := (925, 926, 0, 100000)) (List.mem_of_getElem? (i := 0) rfl) (inR_i (by omega) (by omega) (by omega) (by omega)))
            have w14 : Xi U2 925 (((base + (Xi U1 922 ((a).toNat)))).toNat) = 1 := by rw [eU2]; exact Xi_same (by unfold rg; omega)
            refine l_iconst rfl ?_
            refine l_ireturn rfl rfl ?_
            exact ⟨hHU2, hFU2, _, rfl, ⟨by omega, by omega⟩⟩
          · refine l_iconst rfl ?_
            refine l_goto rfl rfl ?_
            refine l_iastore (n := 576) rfl rfl (by omega) (by omega) (by unfold rg; omega) ?_
            obtain ⟨U3, eU3⟩ : ∃ T : sS, T = uI U1 925 (((base + (Xi U1 922 ((a).toNat)))).toNat) (Int32.ofInt 2) := ⟨_, rfl⟩
            rw [← eU3]
            have hHU3 : HI U3 := by rw [eU3]; exact HI_w hHU1 (show 0 ≤ 2 by omega) (show 2 ≤ 2 by omega)
            have hFU3 : FR md_mo_tellIs S U3 := by rw [eU3]; exact FR.wI hFU1 (mdf_i (r := (925, 926, 0, 100000)) (List.mem_of_getElem? (i := 0) rfl) (inR_i (by omega) (by omega) (by omega) (by omega)))
            have w15 : Xi U3 925 (((base + (Xi U1 922 ((a).toNat)))).toNat) = 2 := by rw [eU3]; exact Xi_same (by unfold rg; omega)
            refine l_iconst rfl ?_
            refine l_ireturn rfl rfl ?_
            exact ⟨hHU3, hFU3, _, rfl, ⟨by omega, by omega⟩⟩
      · refine l_iconst rfl ?_
        refine l_goto rfl rfl ?_
        refine l_iastore (n := 576) rfl rfl (by omega) (by omega) (by unfold rg; omega) ?_
        obtain ⟨U4, eU4⟩ : ∃ T : sS, T = uI S 925 (((base + a)).toNat) (Int32.ofInt 1) := ⟨_, rfl⟩
        rw [← eU4]
        have hHU4 : HI U4 := by rw [eU4]; exact HI_w hH (show 0 ≤ 1 by omega) (show 1 ≤ 2 by omega)
        have hFU4 : FR md_mo_tellIs S U4 := by rw [eU4]; exact FR.wI hF (mdf_i (r := (925, 926, 0, 100000)) (List.mem_of_getElem? (i := 0) rfl) (inR_i (by omega) (by omega) (by omega) (by omega)))
        have w16 : Xi U4 925 (((base + a)).toNat) = 1 := by rw [eU4]; exact Xi_same (by unfold rg; omega)
        refine l_aload_n rfl rfl ?_
        refine l_gfr rfl rfl rfl rfl rfl (hHU4.r 904 25 922 rfl) ?_
        refine l_iload_n rfl rfl ?_
        refine l_iaload (n := 24) rfl rfl (by omega) (by omega) (by unfold rg; omega) ?_
        have w17 : -1 ≤ (Xi U4 922 ((a).toNat)) ∧ (Xi U4 922 ((a).toNat)) ≤ 23 := hHU4.c _ _
        refine l_iconst rfl ?_
        refine l_icmp_eq rfl rfl (by unfold rg; omega) (by unfold rg; omega) (fun w18 => ?_) (fun w19 => ?_)
        · refine l_iconst rfl ?_
          refine l_ireturn rfl rfl ?_
          exact ⟨hHU4, hFU4, _, rfl, ⟨by omega, by omega⟩⟩
        · refine l_aload_n rfl rfl ?_
          refine l_iload_n rfl rfl ?_
          refine l_aload_n rfl rfl ?_
          refine l_gfr rfl rfl rfl rfl rfl (hHU4.r 904 25 922 rfl) ?_
          refine l_iload_n rfl rfl ?_
          refine l_iaload (n := 24) rfl rfl (by omega) (by omega) (by unfold rg; omega) ?_
          refine l_iadd rfl ?_
          refine l_iload rfl rfl ?_
          refine l_if_eq rfl rfl (by unfold rg; omega) (fun w20 => ?_) (fun w21 => ?_)
          · refine l_iconst rfl ?_
            refine l_iastore (n := 576) rfl rfl (by omega) (by omega) (by unfold rg; omega) ?_
            obtain ⟨U5, eU5⟩ : ∃ T : sS, T = uI U4 925 (((base + (Xi U4 922 ((a).toNat)))).toNat) (Int32.ofInt 1) := ⟨_, rfl⟩
            rw [← eU5]
            have hHU5 : HI U5 := by rw [eU5]; exact HI_w hHU4 (show 0 ≤ 1 by omega) (show 1 ≤ 2 by omega)
            have hFU5 : FR md_mo_tellIs S U5 := by rw [eU5]; exact FR.wI hFU4 (mdf_i (r := (925, 926, 0, 100000)) (List.mem_of_getElem? (i := 0) rfl) (inR_i (by omega) (by omega) (by omega) (by omega)))
            have w22 : Xi U5 925 (((base + (Xi U4 922 ((a).toNat)))).toNat) = 1 := by rw [eU5]; exact Xi_same (by unfold rg; omega)
            refine l_iconst rfl ?_
            refine l_ireturn rfl rfl ?_
            exact ⟨hHU5, hFU5, _, rfl, ⟨by omega, by omega⟩⟩
          · refine l_iconst rfl ?_
            refine l_goto rfl rfl ?_
            refine l_iastore (n := 576) rfl rfl (by omega) (by omega) (by unfold rg; omega) ?_
            obtain ⟨U6, eU6⟩ : ∃ T : sS, T = uI U4 925 (((base + (Xi U4 922 ((a).toNat)))).toNat) (Int32.ofInt 2) := ⟨_, rfl⟩
            rw [← eU6]
            have hHU6 : HI U6 := by rw [eU6]; exact HI_w hHU4 (show 0 ≤ 2 by omega) (show 2 ≤ 2 by omega)
            have hFU6 : FR md_mo_tellIs S U6 := by rw [eU6]; exact FR.wI hFU4 (mdf_i (r := (925, 926, 0, 100000)) (List.mem_of_getElem? (i := 0) rfl) (inR_i (by omega) (by omega) (by omega) (by omega)))
            have w23 : Xi U6 925 (((base + (Xi U4 922 ((a).toNat)))).toNat) = 2 := by rw [eU6]; exact Xi_same (by unfold rg; omega)
            refine l_iconst rfl ?_
            refine l_ireturn rfl rfl ?_
            exact ⟨hHU6, hFU6, _, rfl, ⟨by omega, by omega⟩⟩
    · refine l_iconst rfl ?_
      refine l_ireturn rfl rfl ?_
      exact ⟨hH, hF, _, rfl, ⟨by omega, by omega⟩⟩
  · refine l_iconst rfl ?_
    refine l_goto rfl rfl ?_
    refine l_icmp_ne rfl rfl (by unfold rg; omega) (by unfold rg; omega) (fun w24 => ?_) (fun w25 => ?_)
    · refine l_aload_n rfl rfl ?_
      refine l_iload rfl rfl ?_
      refine l_iload rfl rfl ?_
      refine l_if_eq rfl rfl (by unfold rg; omega) (fun w26 => ?_) (fun w27 => ?_)
      · refine l_iconst rfl ?_
        refine l_iastore (n := 576) rfl rfl (by omega) (by omega) (by unfold rg; omega) ?_
        obtain ⟨U7, eU7⟩ : ∃ T : sS, T = uI S 925 (((base + a)).toNat) (Int32.ofInt 2) := ⟨_, rfl⟩
        rw [← eU7]
        have hHU7 : HI U7 := by rw [eU7]; exact HI_w hH (show 0 ≤ 2 by omega) (show 2 ≤ 2 by omega)
        have hFU7 : FR md_mo_tellIs S U7 := by rw [eU7]; exact FR.wI hF (mdf_i (r := (925, 926, 0, 100000)) (List.mem_of_getElem? (i := 0) rfl) (inR_i (by omega) (by omega) (by omega) (by omega)))
        have w28 : Xi U7 925 (((base + a)).toNat) = 2 := by rw [eU7]; exact Xi_same (by unfold rg; omega)
        refine l_aload_n rfl rfl ?_
        refine l_gfr rfl rfl rfl rfl rfl (hHU7.r 904 25 922 rfl) ?_
        refine l_iload_n rfl rfl ?_
        refine l_iaload (n := 24) rfl rfl (by omega) (by omega) (by unfold rg; omega) ?_
        have w29 : -1 ≤ (Xi U7 922 ((a).toNat)) ∧ (Xi U7 922 ((a).toNat)) ≤ 23 := hHU7.c _ _
        refine l_iconst rfl ?_
        refine l_icmp_eq rfl rfl (by unfold rg; omega) (by unfold rg; omega) (fun w30 => ?_) (fun w31 => ?_)
        · refine l_iconst rfl ?_
          refine l_ireturn rfl rfl ?_
          exact ⟨hHU7, hFU7, _, rfl, ⟨by omega, by omega⟩⟩
        · refine l_aload_n rfl rfl ?_
          refine l_iload_n rfl rfl ?_
          refine l_aload_n rfl rfl ?_
          refine l_gfr rfl rfl rfl rfl rfl (hHU7.r 904 25 922 rfl) ?_
          refine l_iload_n rfl rfl ?_
          refine l_iaload (n := 24) rfl rfl (by omega) (by omega) (by unfold rg; omega) ?_
          refine l_iadd rfl ?_
          refine l_iload rfl rfl ?_
          refine l_if_eq rfl rfl (by unfold rg; omega) (fun w32 => ?_) (fun w33 => ?_)
          · refine l_iconst rfl ?_
            refine l_iastore (n := 576) rfl rfl (by omega) (by omega) (by unfold rg; omega) ?_
            obtain ⟨U8, eU8⟩ : ∃ T : sS, T = uI U7 925 (((base + (Xi U7 922 ((a).toNat)))).toNat) (Int32.ofInt 1) := ⟨_, rfl⟩
            rw [← eU8]
            have hHU8 : HI U8 := by rw [eU8]; exact HI_w hHU7 (show 0 ≤ 1 by omega) (show 1 ≤ 2 by omega)
            have hFU8 : FR md_mo_tellIs S U8 := by rw [eU8]; exact FR.wI hFU7 (mdf_i (r := (925, 926, 0, 100000)) (List.mem_of_getElem? (i := 0) rfl) (inR_i (by omega) (by omega) (by omega) (by omega)))
            have w34 : Xi U8 925 (((base + (Xi U7 922 ((a).toNat)))).toNat) = 1 := by rw [eU8]; exact Xi_same (by unfold rg; omega)
            refine l_iconst rfl ?_
            refine l_ireturn rfl rfl ?_
            exact ⟨hHU8, hFU8, _, rfl, ⟨by omega, by omega⟩⟩
          · refine l_iconst rfl ?_
            refine l_goto rfl rfl ?_
            refine l_iastore (n := 576) rfl rfl (by omega) (by omega) (by unfold rg; omega) ?_
            obtain ⟨U9, eU9⟩ : ∃ T : sS, T = uI U7 925 (((base + (Xi U7 922 ((a).toNat)))).toNat) (Int32.ofInt 2) := ⟨_, rfl⟩
            rw [← eU9]
            have hHU9 : HI U9 := by rw [eU9]; exact HI_w hHU7 (show 0 ≤ 2 by omega) (show 2 ≤ 2 by omega)
            have hFU9 : FR md_mo_tellIs S U9 := by rw [eU9]; exact FR.wI hFU7 (mdf_i (r := (925, 926, 0, 100000)) (List.mem_of_getElem? (i := 0) rfl) (inR_i (by omega) (by omega) (by omega) (by omega)))
            have w35 : Xi U9 925 (((base + (Xi U7 922 ((a).toNat)))).toNat) = 2 := by rw [eU9]; exact Xi_same (by unfold rg; omega)
            refine l_iconst rfl ?_
            refine l_ireturn rfl rfl ?_
            exact ⟨hHU9, hFU9, _, rfl, ⟨by omega, by omega⟩⟩
      · refine l_iconst rfl ?_
        refine l_goto rfl rfl ?_
        refine l_iastore (n := 576) rfl rfl (by omega) (by omega) (by unfold rg; omega) ?_
        obtain ⟨U10, eU10⟩ : ∃ T : sS, T = uI S 925 (((base + a)).toNat) (Int32.ofInt 1) := ⟨_, rfl⟩
        rw [← eU10]
        have hHU10 : HI U10 := by rw [eU10]; exact HI_w hH (show 0 ≤ 1 by omega) (show 1 ≤ 2 by omega)
        have hFU10 : FR md_mo_tellIs S U10 := by rw [eU10]; exact FR.wI hF (mdf_i (r := (925, 926, 0, 100000)) (List.mem_of_getElem? (i := 0) rfl) (inR_i (by omega) (by omega) (by omega) (by omega)))
        have w36 : Xi U10 925 (((base + a)).toNat) = 1 := by rw [eU10]; exact Xi_same (by unfold rg; omega)
        refine l_aload_n rfl rfl ?_
        refine l_gfr rfl rfl rfl rfl rfl (hHU10.r 904 25 922 rfl) ?_
        refine l_iload_n rfl rfl ?_
        refine l_iaload (n := 24) rfl rfl (by omega) (by omega) (by unfold rg; omega) ?_
        have w37 : -1 ≤ (Xi U10 922 ((a).toNat)) ∧ (Xi U10 922 ((a).toNat)) ≤ 23 := hHU10.c _ _
        refine l_iconst rfl ?_
        refine l_icmp_eq rfl rfl (by unfold rg; omega) (by unfold rg; omega) (fun w38 => ?_) (fun w39 => ?_)
        · refine l_iconst rfl ?_
          refine l_ireturn rfl rfl ?_
          exact ⟨hHU10, hFU10, _, rfl, ⟨by omega, by omega⟩⟩
        · refine l_aload_n rfl rfl ?_
          refine l_iload_n rfl rfl ?_
          refine l_aload_n rfl rfl ?_
          refine l_gfr rfl rfl rfl rfl rfl (hHU10.r 904 25 922 rfl) ?_
          refine l_iload_n rfl rfl ?_
          refine l_iaload (n := 24) rfl rfl (by omega) (by omega) (by unfold rg; omega) ?_
          refine l_iadd rfl ?_
          refine l_iload rfl rfl ?_
          refine l_if_eq rfl rfl (by unfold rg; omega) (fun w40 => ?_) (fun w41 => ?_)
          · refine l_iconst rfl ?_
            refine l_iastore (n := 576) rfl rfl (by omega) (by omega) (by unfold rg; omega) ?_
            obtain ⟨U11, eU11⟩ : ∃ T : sS, T = uI U10 925 (((base + (Xi U10 922 ((a).toNat)))).toNat) (Int32.ofInt 1) := ⟨_, rfl⟩
            rw [← eU11]
            have hHU11 : HI U11 := by rw [eU11]; exact HI_w hHU10 (show 0 ≤ 1 by omega) (show 1 ≤ 2 by omega)
            have hFU11 : FR md_mo_tellIs S U11 := by rw [eU11]; exact FR.wI hFU10 (mdf_i (r := (925, 926, 0, 100000)) (List.mem_of_getElem? (i := 0) rfl) (inR_i (by omega) (by omega) (by omega) (by omega)))
            have w42 : Xi U11 925 (((base + (Xi U10 922 ((a).toNat)))).toNat) = 1 := by rw [eU11]; exact Xi_same (by unfold rg; omega)
            refine l_iconst rfl ?_
            refine l_ireturn rfl rfl ?_
            exact ⟨hHU11, hFU11, _, rfl, ⟨by omega, by omega⟩⟩
          · refine l_iconst rfl ?_
            refine l_goto rfl rfl ?_
            refine l_iastore (n := 576) rfl rfl (by omega) (by omega) (by unfold rg; omega) ?_
            obtain ⟨U12, eU12⟩ : ∃ T : sS, T = uI U10 925 (((base + (Xi U10 922 ((a).toNat)))).toNat) (Int32.ofInt 2) := ⟨_, rfl⟩
            rw [← eU12]
            have hHU12 : HI U12 := by rw [eU12]; exact HI_w hHU10 (show 0 ≤ 2 by omega) (show 2 ≤ 2 by omega)
            have hFU12 : FR md_mo_tellIs S U12 := by rw [eU12]; exact FR.wI hFU10 (mdf_i (r := (925, 926, 0, 100000)) (List.mem_of_getElem? (i := 0) rfl) (inR_i (by omega) (by omega) (by omega) (by omega)))
            have w43 : Xi U12 925 (((base + (Xi U10 922 ((a).toNat)))).toNat) = 2 := by rw [eU12]; exact Xi_same (by unfold rg; omega)
            refine l_iconst rfl ?_
            refine l_ireturn rfl rfl ?_
            exact ⟨hHU12, hFU12, _, rfl, ⟨by omega, by omega⟩⟩
    · refine l_iconst rfl ?_
      refine l_ireturn rfl rfl ?_
      exact ⟨hH, hF, _, rfl, ⟨by omega, by omega⟩⟩
def md_mo_tellIs__2 : List rec := [(925, 926, 0, 100000), (926, 927, 0, 100000)]
abbrev Q_mo_tellIs__2 (S : sS) (base : Int) (a : Int) (iss : Int) : pst := fun r S1 => HI S1 ∧ FR md_mo_tellIs__2 S S1 ∧ (∃ z : Int, r = some (iv z) ∧ (0 ≤ z ∧ z ≤ 1))
set_option maxRecDepth 100000 in
theorem t_mo_tellIs__2 {S : sS} (hH : HI S) (base : Int) (a : Int) (iss : Int) (hbase : 0 ≤ base ∧ base ≤ 360) (ha : 0 ≤ a ∧ a ≤ 23) (hiss : 0 ≤ iss ∧ iss ≤ 1) (hb : base ≤ 360) (d : Nat) : Mt lay0 (d + 1) m_mo_tellIs [.ref 904, .ref 926, iv base, iv a, iv iss] S (Q_mo_tellIs__2 S base a iss) := by
  refine Mt_R rfl rfl ?_
  have hF : FR md_mo_tellIs__2 S S := FR.rf
  refine l_iload_n rfl rfl ?_
  refine l_iload_n rfl rfl ?_
  refine l_iadd rfl ?_
  refine l_istore rfl rfl rfl ?_
  refine l_aload_n rfl rfl ?_
  refine l_iload rfl rfl ?_
  refine l_iaload (n := 384) rfl rfl (by omega) (by omega) (by unfold rg; omega) ?_
  have w1 : 0 ≤ (Xi S 926 (((base + a)).toNat)) ∧ (Xi S 926 (((base + a)).toNat)) ≤ 2 := hH.c _ _
  refine l_iload rfl rfl ?_
  refine l_if_eq rfl rfl (by unfold rg; omega) (fun w2 => ?_) (fun w3 => ?_)
  · refine l_iconst rfl ?_
    refine l_icmp_ne rfl rfl (by unfold rg; omega) (by unfold rg; omega) (fun w4 => ?_) (fun w5 => ?_)
    · refine l_aload_n rfl rfl ?_
      refine l_iload rfl rfl ?_
      refine l_iload rfl rfl ?_
      refine l_if_eq rfl rfl (by unfold rg; omega) (fun w6 => ?_) (fun w7 => ?_)
      · refine l_iconst rfl ?_
        refine l_iastore (n := 384) rfl rfl (by omega) (by omega) (by unfold rg; omega) ?_
        obtain ⟨U1, eU1⟩ : ∃ T : sS, T = uI S 926 (((base + a)).toNat) (Int32.ofInt 2) := ⟨_, rfl⟩
        rw [← eU1]
        have hHU1 : HI U1 := by rw [eU1]; exact HI_w hH (show 0 ≤ 2 by omega) (show 2 ≤ 2 by omega)
        have hFU1 : FR md_mo_tellIs__2 S U1 := by rw [eU1]; exact FR.wI hF (mdf_i (r := (926, 927, 0, 100000)) (List.mem_of_getElem? (i := 1) rfl) (inR_i (by omega) (by omega) (by omega) (by omega)))
        have w8 : Xi U1 926 (((base + a)).toNat) = 2 := by rw [eU1]; exact Xi_same (by unfold rg; omega)
        refine l_aload_n rfl rfl ?_
        refine l_gfr rfl rfl rfl rfl rfl (hHU1.r 904 25 922 rfl) ?_
        refine l_iload_n rfl rfl ?_
        refine l_iaload (n := 24) rfl rfl (by omega) (by omega) (by unfold rg; omega) ?_
        have w9 : -1 ≤ (Xi U1 922 ((a).toNat)) ∧ (Xi U1 922 ((a).toNat)) ≤ 23 := hHU1.c _ _
        refine l_iconst rfl ?_
        refine l_icmp_eq rfl rfl (by unfold rg; omega) (by unfold rg; omega) (fun w10 => ?_) (fun w11 => ?_)
        · refine l_iconst rfl ?_
          refine l_ireturn rfl rfl ?_
          exact ⟨hHU1, hFU1, _, rfl, ⟨by omega, by omega⟩⟩
        · refine l_aload_n rfl rfl ?_
          refine l_iload_n rfl rfl ?_
          refine l_aload_n rfl rfl ?_
          refine l_gfr rfl rfl rfl rfl rfl (hHU1.r 904 25 922 rfl) ?_
          refine l_iload_n rfl rfl ?_
          refine l_iaload (n := 24) rfl rfl (by omega) (by omega) (by unfold rg; omega) ?_
          refine l_iadd rfl ?_
          refine l_iload rfl rfl ?_
          refine l_if_eq rfl rfl (by unfold rg; omega) (fun w12 => ?_) (fun w13 => ?_)
          · refine l_iconst rfl ?_
            refine l_iastore (n := 384) rfl rfl (by omega) (by omega) (by unfold rg; omega) ?_
            obtain ⟨U2, eU2⟩ : ∃ T : sS, T = uI U1 926 (((base + (Xi U1 922 ((a).toNat)))).toNat) (Int32.ofInt 1) := ⟨_, rfl⟩
            rw [← eU2]
            have hHU2 : HI U2 := by rw [eU2]; exact HI_w hHU1 (show 0 ≤ 1 by omega) (show 1 ≤ 2 by omega)
            have hFU2 : FR md_mo_tellIs__2 S U2 := by rw [eU2]; exact FR.wI hFU1 (mdf_i (r := (926, 927, 0, 100000)) (List.mem_of_getElem? (i := 1) rfl) (inR_i (by omega) (by omega) (by omega) (by omega)))
            have w14 : Xi U2 926 (((base + (Xi U1 922 ((a).toNat)))).toNat) = 1 := by rw [eU2]; exact Xi_same (by unfold rg; omega)
            refine l_iconst rfl ?_
            refine l_ireturn rfl rfl ?_
            exact ⟨hHU2, hFU2, _, rfl, ⟨by omega, by omega⟩⟩
          · refine l_iconst rfl ?_
            refine l_goto rfl rfl ?_
            refine l_iastore (n := 384) rfl rfl (by omega) (by omega) (by unfold rg; omega) ?_
            obtain ⟨U3, eU3⟩ : ∃ T : sS, T = uI U1 926 (((base + (Xi U1 922 ((a).toNat)))).toNat) (Int32.ofInt 2) := ⟨_, rfl⟩
            rw [← eU3]
            have hHU3 : HI U3 := by rw [eU3]; exact HI_w hHU1 (show 0 ≤ 2 by omega) (show 2 ≤ 2 by omega)
            have hFU3 : FR md_mo_tellIs__2 S U3 := by rw [eU3]; exact FR.wI hFU1 (mdf_i (r := (926, 927, 0, 100000)) (List.mem_of_getElem? (i := 1) rfl) (inR_i (by omega) (by omega) (by omega) (by omega)))
            have w15 : Xi U3 926 (((base + (Xi U1 922 ((a).toNat)))).toNat) = 2 := by rw [eU3]; exact Xi_same (by unfold rg; omega)
            refine l_iconst rfl ?_
            refine l_ireturn rfl rfl ?_
            exact ⟨hHU3, hFU3, _, rfl, ⟨by omega, by omega⟩⟩
      · refine l_iconst rfl ?_
        refine l_goto rfl rfl ?_
        refine l_iastore (n := 384) rfl rfl (by omega) (by omega) (by unfold rg; omega) ?_
        obtain ⟨U4, eU4⟩ : ∃ T : sS, T = uI S 926 (((base + a)).toNat) (Int32.ofInt 1) := ⟨_, rfl⟩
        rw [← eU4]
        have hHU4 : HI U4 := by rw [eU4]; exact HI_w hH (show 0 ≤ 1 by omega) (show 1 ≤ 2 by omega)
        have hFU4 : FR md_mo_tellIs__2 S U4 := by rw [eU4]; exact FR.wI hF (mdf_i (r := (926, 927, 0, 100000)) (List.mem_of_getElem? (i := 1) rfl) (inR_i (by omega) (by omega) (by omega) (by omega)))
        have w16 : Xi U4 926 (((base + a)).toNat) = 1 := by rw [eU4]; exact Xi_same (by unfold rg; omega)
        refine l_aload_n rfl rfl ?_
        refine l_gfr rfl rfl rfl rfl rfl (hHU4.r 904 25 922 rfl) ?_
        refine l_iload_n rfl rfl ?_
        refine l_iaload (n := 24) rfl rfl (by omega) (by omega) (by unfold rg; omega) ?_
        have w17 : -1 ≤ (Xi U4 922 ((a).toNat)) ∧ (Xi U4 922 ((a).toNat)) ≤ 23 := hHU4.c _ _
        refine l_iconst rfl ?_
        refine l_icmp_eq rfl rfl (by unfold rg; omega) (by unfold rg; omega) (fun w18 => ?_) (fun w19 => ?_)
        · refine l_iconst rfl ?_
          refine l_ireturn rfl rfl ?_
          exact ⟨hHU4, hFU4, _, rfl, ⟨by omega, by omega⟩⟩
        · refine l_aload_n rfl rfl ?_
          refine l_iload_n rfl rfl ?_
          refine l_aload_n rfl rfl ?_
          refine l_gfr rfl rfl rfl rfl rfl (hHU4.r 904 25 922 rfl) ?_
          refine l_iload_n rfl rfl ?_
          refine l_iaload (n := 24) rfl rfl (by omega) (by omega) (by unfold rg; omega) ?_
          refine l_iadd rfl ?_
          refine l_iload rfl rfl ?_
          refine l_if_eq rfl rfl (by unfold rg; omega) (fun w20 => ?_) (fun w21 => ?_)
          · refine l_iconst rfl ?_
            refine l_iastore (n := 384) rfl rfl (by omega) (by omega) (by unfold rg; omega) ?_
            obtain ⟨U5, eU5⟩ : ∃ T : sS, T = uI U4 926 (((base + (Xi U4 922 ((a).toNat)))).toNat) (Int32.ofInt 1) := ⟨_, rfl⟩
            rw [← eU5]
            have hHU5 : HI U5 := by rw [eU5]; exact HI_w hHU4 (show 0 ≤ 1 by omega) (show 1 ≤ 2 by omega)
            have hFU5 : FR md_mo_tellIs__2 S U5 := by rw [eU5]; exact FR.wI hFU4 (mdf_i (r := (926, 927, 0, 100000)) (List.mem_of_getElem? (i := 1) rfl) (inR_i (by omega) (by omega) (by omega) (by omega)))
            have w22 : Xi U5 926 (((base + (Xi U4 922 ((a).toNat)))).toNat) = 1 := by rw [eU5]; exact Xi_same (by unfold rg; omega)
            refine l_iconst rfl ?_
            refine l_ireturn rfl rfl ?_
            exact ⟨hHU5, hFU5, _, rfl, ⟨by omega, by omega⟩⟩
          · refine l_iconst rfl ?_
            refine l_goto rfl rfl ?_
            refine l_iastore (n := 384) rfl rfl (by omega) (by omega) (by unfold rg; omega) ?_
            obtain ⟨U6, eU6⟩ : ∃ T : sS, T = uI U4 926 (((base + (Xi U4 922 ((a).toNat)))).toNat) (Int32.ofInt 2) := ⟨_, rfl⟩
            rw [← eU6]
            have hHU6 : HI U6 := by rw [eU6]; exact HI_w hHU4 (show 0 ≤ 2 by omega) (show 2 ≤ 2 by omega)
            have hFU6 : FR md_mo_tellIs__2 S U6 := by rw [eU6]; exact FR.wI hFU4 (mdf_i (r := (926, 927, 0, 100000)) (List.mem_of_getElem? (i := 1) rfl) (inR_i (by omega) (by omega) (by omega) (by omega)))
            have w23 : Xi U6 926 (((base + (Xi U4 922 ((a).toNat)))).toNat) = 2 := by rw [eU6]; exact Xi_same (by unfold rg; omega)
            refine l_iconst rfl ?_
            refine l_ireturn rfl rfl ?_
            exact ⟨hHU6, hFU6, _, rfl, ⟨by omega, by omega⟩⟩
    · refine l_iconst rfl ?_
      refine l_ireturn rfl rfl ?_
      exact ⟨hH, hF, _, rfl, ⟨by omega, by omega⟩⟩
  · refine l_iconst rfl ?_
    refine l_goto rfl rfl ?_
    refine l_icmp_ne rfl rfl (by unfold rg; omega) (by unfold rg; omega) (fun w24 => ?_) (fun w25 => ?_)
    · refine l_aload_n rfl rfl ?_
      refine l_iload rfl rfl ?_
      refine l_iload rfl rfl ?_
      refine l_if_eq rfl rfl (by unfold rg; omega) (fun w26 => ?_) (fun w27 => ?_)
      · refine l_iconst rfl ?_
        refine l_iastore (n := 384) rfl rfl (by omega) (by omega) (by unfold rg; omega) ?_
        obtain ⟨U7, eU7⟩ : ∃ T : sS, T = uI S 926 (((base + a)).toNat) (Int32.ofInt 2) := ⟨_, rfl⟩
        rw [← eU7]
        have hHU7 : HI U7 := by rw [eU7]; exact HI_w hH (show 0 ≤ 2 by omega) (show 2 ≤ 2 by omega)
        have hFU7 : FR md_mo_tellIs__2 S U7 := by rw [eU7]; exact FR.wI hF (mdf_i (r := (926, 927, 0, 100000)) (List.mem_of_getElem? (i := 1) rfl) (inR_i (by omega) (by omega) (by omega) (by omega)))
        have w28 : Xi U7 926 (((base + a)).toNat) = 2 := by rw [eU7]; exact Xi_same (by unfold rg; omega)
        refine l_aload_n rfl rfl ?_
        refine l_gfr rfl rfl rfl rfl rfl (hHU7.r 904 25 922 rfl) ?_
        refine l_iload_n rfl rfl ?_
        refine l_iaload (n := 24) rfl rfl (by omega) (by omega) (by unfold rg; omega) ?_
        have w29 : -1 ≤ (Xi U7 922 ((a).toNat)) ∧ (Xi U7 922 ((a).toNat)) ≤ 23 := hHU7.c _ _
        refine l_iconst rfl ?_
        refine l_icmp_eq rfl rfl (by unfold rg; omega) (by unfold rg; omega) (fun w30 => ?_) (fun w31 => ?_)
        · refine l_iconst rfl ?_
          refine l_ireturn rfl rfl ?_
          exact ⟨hHU7, hFU7, _, rfl, ⟨by omega, by omega⟩⟩
        · refine l_aload_n rfl rfl ?_
          refine l_iload_n rfl rfl ?_
          refine l_aload_n rfl rfl ?_
          refine l_gfr rfl rfl rfl rfl rfl (hHU7.r 904 25 922 rfl) ?_
          refine l_iload_n rfl rfl ?_
          refine l_iaload (n := 24) rfl rfl (by omega) (by omega) (by unfold rg; omega) ?_
          refine l_iadd rfl ?_
          refine l_iload rfl rfl ?_
          refine l_if_eq rfl rfl (by unfold rg; omega) (fun w32 => ?_) (fun w33 => ?_)
          · refine l_iconst rfl ?_
            refine l_iastore (n := 384) rfl rfl (by omega) (by omega) (by unfold rg; omega) ?_
            obtain ⟨U8, eU8⟩ : ∃ T : sS, T = uI U7 926 (((base + (Xi U7 922 ((a).toNat)))).toNat) (Int32.ofInt 1) := ⟨_, rfl⟩
            rw [← eU8]
            have hHU8 : HI U8 := by rw [eU8]; exact HI_w hHU7 (show 0 ≤ 1 by omega) (show 1 ≤ 2 by omega)
            have hFU8 : FR md_mo_tellIs__2 S U8 := by rw [eU8]; exact FR.wI hFU7 (mdf_i (r := (926, 927, 0, 100000)) (List.mem_of_getElem? (i := 1) rfl) (inR_i (by omega) (by omega) (by omega) (by omega)))
            have w34 : Xi U8 926 (((base + (Xi U7 922 ((a).toNat)))).toNat) = 1 := by rw [eU8]; exact Xi_same (by unfold rg; omega)
            refine l_iconst rfl ?_
            refine l_ireturn rfl rfl ?_
            exact ⟨hHU8, hFU8, _, rfl, ⟨by omega, by omega⟩⟩
          · refine l_iconst rfl ?_
            refine l_goto rfl rfl ?_
            refine l_iastore (n := 384) rfl rfl (by omega) (by omega) (by unfold rg; omega) ?_
            obtain ⟨U9, eU9⟩ : ∃ T : sS, T = uI U7 926 (((base + (Xi U7 922 ((a).toNat)))).toNat) (Int32.ofInt 2) := ⟨_, rfl⟩
            rw [← eU9]
            have hHU9 : HI U9 := by rw [eU9]; exact HI_w hHU7 (show 0 ≤ 2 by omega) (show 2 ≤ 2 by omega)
            have hFU9 : FR md_mo_tellIs__2 S U9 := by rw [eU9]; exact FR.wI hFU7 (mdf_i (r := (926, 927, 0, 100000)) (List.mem_of_getElem? (i := 1) rfl) (inR_i (by omega) (by omega) (by omega) (by omega)))
            have w35 : Xi U9 926 (((base + (Xi U7 922 ((a).toNat)))).toNat) = 2 := by rw [eU9]; exact Xi_same (by unfold rg; omega)
            refine l_iconst rfl ?_
            refine l_ireturn rfl rfl ?_
            exact ⟨hHU9, hFU9, _, rfl, ⟨by omega, by omega⟩⟩
      · refine l_iconst rfl ?_
        refine l_goto rfl rfl ?_
        refine l_iastore (n := 384) rfl rfl (by omega) (by omega) (by unfold rg; omega) ?_
        obtain ⟨U10, eU10⟩ : ∃ T : sS, T = uI S 926 (((base + a)).toNat) (Int32.ofInt 1) := ⟨_, rfl⟩
        rw [← eU10]
        have hHU10 : HI U10 := by rw [eU10]; exact HI_w hH (show 0 ≤ 1 by omega) (show 1 ≤ 2 by omega)
        have hFU10 : FR md_mo_tellIs__2 S U10 := by rw [eU10]; exact FR.wI hF (mdf_i (r := (926, 927, 0, 100000)) (List.mem_of_getElem? (i := 1) rfl) (inR_i (by omega) (by omega) (by omega) (by omega)))
        have w36 : Xi U10 926 (((base + a)).toNat) = 1 := by rw [eU10]; exact Xi_same (by unfold rg; omega)
        refine l_aload_n rfl rfl ?_
        refine l_gfr rfl rfl rfl rfl rfl (hHU10.r 904 25 922 rfl) ?_
        refine l_iload_n rfl rfl ?_
        refine l_iaload (n := 24) rfl rfl (by omega) (by omega) (by unfold rg; omega) ?_
        have w37 : -1 ≤ (Xi U10 922 ((a).toNat)) ∧ (Xi U10 922 ((a).toNat)) ≤ 23 := hHU10.c _ _
        refine l_iconst rfl ?_
        refine l_icmp_eq rfl rfl (by unfold rg; omega) (by unfold rg; omega) (fun w38 => ?_) (fun w39 => ?_)
        · refine l_iconst rfl ?_
          refine l_ireturn rfl rfl ?_
          exact ⟨hHU10, hFU10, _, rfl, ⟨by omega, by omega⟩⟩
        · refine l_aload_n rfl rfl ?_
          refine l_iload_n rfl rfl ?_
          refine l_aload_n rfl rfl ?_
          refine l_gfr rfl rfl rfl rfl rfl (hHU10.r 904 25 922 rfl) ?_
          refine l_iload_n rfl rfl ?_
          refine l_iaload (n := 24) rfl rfl (by omega) (by omega) (by unfold rg; omega) ?_
          refine l_iadd rfl ?_
          refine l_iload rfl rfl ?_
          refine l_if_eq rfl rfl (by unfold rg; omega) (fun w40 => ?_) (fun w41 => ?_)
          · refine l_iconst rfl ?_
            refine l_iastore (n := 384) rfl rfl (by omega) (by omega) (by unfold rg; omega) ?_
            obtain ⟨U11, eU11⟩ : ∃ T : sS, T = uI U10 926 (((base + (Xi U10 922 ((a).toNat)))).toNat) (Int32.ofInt 1) := ⟨_, rfl⟩
            rw [← eU11]
            have hHU11 : HI U11 := by rw [eU11]; exact HI_w hHU10 (show 0 ≤ 1 by omega) (show 1 ≤ 2 by omega)
            have hFU11 : FR md_mo_tellIs__2 S U11 := by rw [eU11]; exact FR.wI hFU10 (mdf_i (r := (926, 927, 0, 100000)) (List.mem_of_getElem? (i := 1) rfl) (inR_i (by omega) (by omega) (by omega) (by omega)))
            have w42 : Xi U11 926 (((base + (Xi U10 922 ((a).toNat)))).toNat) = 1 := by rw [eU11]; exact Xi_same (by unfold rg; omega)
            refine l_iconst rfl ?_
            refine l_ireturn rfl rfl ?_
            exact ⟨hHU11, hFU11, _, rfl, ⟨by omega, by omega⟩⟩
          · refine l_iconst rfl ?_
            refine l_goto rfl rfl ?_
            refine l_iastore (n := 384) rfl rfl (by omega) (by omega) (by unfold rg; omega) ?_
            obtain ⟨U12, eU12⟩ : ∃ T : sS, T = uI U10 926 (((base + (Xi U10 922 ((a).toNat)))).toNat) (Int32.ofInt 2) := ⟨_, rfl⟩
            rw [← eU12]
            have hHU12 : HI U12 := by rw [eU12]; exact HI_w hHU10 (show 0 ≤ 2 by omega) (show 2 ≤ 2 by omega)
            have hFU12 : FR md_mo_tellIs__2 S U12 := by rw [eU12]; exact FR.wI hFU10 (mdf_i (r := (926, 927, 0, 100000)) (List.mem_of_getElem? (i := 1) rfl) (inR_i (by omega) (by omega) (by omega) (by omega)))
            have w43 : Xi U12 926 (((base + (Xi U10 922 ((a).toNat)))).toNat) = 2 := by rw [eU12]; exact Xi_same (by unfold rg; omega)
            refine l_iconst rfl ?_
            refine l_ireturn rfl rfl ?_
            exact ⟨hHU12, hFU12, _, rfl, ⟨by omega, by omega⟩⟩
    · refine l_iconst rfl ?_
      refine l_ireturn rfl rfl ?_
      exact ⟨hH, hF, _, rfl, ⟨by omega, by omega⟩⟩
def md_mo_tellRead : List rec := [(925, 926, 0, 100000), (926, 927, 0, 100000), (930, 931, 0, 100000), (931, 932, 0, 100000), (932, 933, 0, 100000)]
abbrev Q_mo_tellRead (S : sS) (o : Int) (a : Int) (iss : Int) : pst := fun r S1 => HI S1 ∧ FR md_mo_tellRead S S1 ∧ (∃ z : Int, r = some (iv z) ∧ (0 ≤ z ∧ z ≤ 1) ∧ (TXM S1))
set_option maxRecDepth 100000 in
theorem t_mo_tellRead {S : sS} (hH : HI S) (o : Int) (a : Int) (iss : Int) (ho : 0 ≤ o ∧ o ≤ 23) (ha : 0 ≤ a ∧ a ≤ 6411) (hiss : 0 ≤ iss ∧ iss ≤ 1) (haa : (0 ≤ a ∧ a < Xi S 904 23) ∨ (100 ≤ a ∧ a % 100 < Xi S 904 32 ∧ a ≤ 6411)) (hoo : o < Xi S 904 19) (hX : TXM S) (d : Nat) : Mt lay0 (d + 4) m_mo_tellRead [.ref 904, iv o, iv a, iv iss] S (Q_mo_tellRead S o a iss) := by
  refine Mt_R rfl rfl ?_
  have hF : FR md_mo_tellRead S S := FR.rf
  have w1 : 0 ≤ Xi S 904 19 ∧ Xi S 904 19 ≤ 24 := hH.c _ _
  have w2 : 0 ≤ Xi S 904 23 ∧ Xi S 904 23 ≤ 24 := hH.c _ _
  have w3 : 0 ≤ Xi S 904 32 ∧ Xi S 904 32 ≤ 12 := hH.c _ _
  have hc3 : 0 ≤ Xi S 904 23 ∧ Xi S 904 23 ≤ 24 := hH.c _ _
  have hc19 : 0 ≤ Xi S 904 19 ∧ Xi S 904 19 ≤ 24 := hH.c _ _
  have hc32 : 0 ≤ Xi S 904 32 ∧ Xi S 904 32 ≤ 12 := hH.c _ _
  refine l_iload_n rfl rfl ?_
  refine l_bipush rfl rfl ?_
  refine l_icmp_ge rfl rfl (by unfold rg; omega) (by unfold rg; omega) (fun w4 => ?_) (fun w5 => ?_)
  · refine l_aload_n rfl rfl ?_
    refine l_iload_n rfl rfl ?_
    refine l_iload_n rfl rfl ?_
    refine l_bipush rfl rfl ?_
    refine l_iremP rfl (by omega) (by omega) (by unfold rg; omega) (by unfold rg; omega) ?_
    refine l_iload_n rfl rfl ?_
    refine l_bipush rfl rfl ?_
    refine l_idivP rfl (by omega) (by omega) (by unfold rg; omega) (by unfold rg; omega) ?_
    refine l_iconst rfl ?_
    refine l_isub rfl ?_
    refine l_iconst rfl ?_
    refine l_callV rfl rfl rfl (t_mo_tellObject hH o (a % 100) ((a / 100) - 1) 0 ⟨by omega, by omega⟩ ⟨by omega, by omega⟩ ⟨by omega, by omega⟩ ⟨by omega, by omega⟩ (by first | assumption | exact (by assumption : TXM S)) (by first | assumption | omega) (by first | assumption | omega) (fun _ => Or.inl rfl) _) ?_
    rintro _ T1 ⟨hHT1, w12, z11, rfl, w11, w10⟩
    have hFT1 : FR md_mo_tellRead S T1 := FR.tr hF w12 rfl
    show Rl _ _ _ _ _ [iv z11] _ _
    refine l_ireturn rfl (retI_z (by omega)) ?_
    exact ⟨hHT1, hFT1, _, rfl, ⟨by omega, by omega⟩, (by first | assumption | exact TXM_FR (by assumption : FR md_mo_tellIs S T1) rfl hX)⟩
  · refine l_aload_n rfl rfl ?_
    refine l_aload_n rfl rfl ?_
    refine l_gfr rfl rfl rfl rfl rfl (hH.r 904 28 925 rfl) ?_
    refine l_bipush rfl rfl ?_
    refine l_iload_n rfl rfl ?_
    refine l_imul rfl ?_
    refine l_iload_n rfl rfl ?_
    refine l_iload_n rfl rfl ?_
    refine l_callV rfl rfl rfl (t_mo_tellIs hH (24 * o) a iss ⟨by omega, by omega⟩ ⟨by omega, by omega⟩ ⟨by omega, by omega⟩ (by first | assumption | omega) _) ?_
    rintro _ T2 ⟨hHT2, w14, z13, rfl, w13⟩
    have hFT2 : FR md_mo_tellRead S T2 := FR.tr hF w14 rfl
    show Rl _ _ _ _ _ [iv z13] _ _
    refine l_goto rfl rfl ?_
    refine l_ireturn rfl (retI_z (by omega)) ?_
    exact ⟨hHT2, hFT2, _, rfl, ⟨by omega, by omega⟩, (by first | assumption | exact TXM_FR (by assumption : FR md_mo_tellIs S T2) rfl hX)⟩
def md_mo_placeObject : List rec := [(904, 905, 105, 106), (904, 905, 106, 107), (919, 920, 0, 100000), (920, 921, 0, 100000)]
abbrev Q_mo_placeObject (S : sS) (n : Nat) (o : Int) (t : Int) : pst := fun r S1 => HI S1 ∧ FR md_mo_placeObject S S1 ∧ (r = none ∧ (WYM S1))
set_option maxRecDepth 100000 in
theorem t_mo_placeObject {S : sS} (hH : HI S) (n : Nat) (o : Int) (t : Int) (ho : 0 ≤ o ∧ o ≤ 23) (ht : 0 ≤ t ∧ t ≤ 5001) (hT : TK S n) (hv : RNV S n) (hM : LXM S) (hB : ABV S) (hW : WYM S) (hp : Xi S 904 74 < Xi S 904 69) (hn : rnR S (Xi S 904 74) 4 ≠ -1) (d : Nat) : Mt lay0 (d + 5) m_mo_placeObject [.ref 904, iv o, iv t] S (Q_mo_placeObject S n o t) := by
  refine Mt_R rfl rfl ?_
  have hF : FR md_mo_placeObject S S := FR.rf
  have w1 : 0 ≤ Xi S 904 69 ∧ Xi S 904 69 ≤ 2600 := hH.c _ _
  have w2 : 0 ≤ Xi S 904 74 ∧ Xi S 904 74 ≤ 2600 := hH.c _ _
  have hn5 := hT.1
  have hc69 : 0 ≤ Xi S 904 69 ∧ Xi S 904 69 ≤ 2600 := hH.c _ _
  have hc74 : 0 ≤ Xi S 904 74 ∧ Xi S 904 74 ≤ 2600 := hH.c _ _
  have hc19 : 0 ≤ Xi S 904 19 ∧ Xi S 904 19 ≤ 24 := hH.c _ _
  refine l_aload_n rfl rfl ?_
  refine l_aload_n rfl rfl ?_
  refine l_gfi rfl rfl rfl rfl rfl ?_
  refine l_iconst rfl ?_
  refine l_callV rfl rfl rfl (t_mo_meansRun__2 hH n (Xi S 904 74) 4 ⟨by omega, by omega⟩ ⟨by omega, by omega⟩ (by first | assumption | exact (TK_FR hF rfl (by assumption : TK S _))) (by first | assumption | exact (RNV_FR hF rfl (by assumption : RNV S _))) (by first | assumption | omega) (by first | assumption | exact (LXM_FR hF rfl (by assumption : LXM S))) _) ?_
  rintro _ _ ⟨rfl, z6, rfl, w6, w4, w5⟩
  show Rl _ _ _ _ _ [iv z6] _ _
  have x6 : z6 ≠ -1 → z6 < Xi S 904 19 := fun q => by have t := (by assumption : z6 ≠ -1 → z6 < cM S 4) q; rw [cM4] at t; exact t
  have r6 : z6 = rnR S (Xi S 904 74) 4 := (by assumption : z6 = rnR S _ _).trans (rnR_FR hF rfl rfl)
  refine l_istore_n rfl rfl rfl ?_
  refine l_aload_n rfl rfl ?_
  refine l_aload_n rfl rfl ?_
  refine l_gfr rfl rfl rfl rfl rfl (hH.r 904 20 918 rfl) ?_
  refine l_iload_n rfl rfl ?_
  refine l_iaload (n := 24) rfl rfl (by omega) (by omega) (by unfold rg; omega) ?_
  have w7 : 0 ≤ (Xi S 918 ((o).toNat)) ∧ (Xi S 918 ((o).toNat)) ≤ 15 := hH.c _ _
  refine l_iconst rfl ?_
  refine l_callV rfl rfl rfl (t_mo_isBelow hH (Xi S 918 ((o).toNat)) 0 ⟨by omega, by omega⟩ ⟨by omega, by omega⟩ (by first | assumption | exact (ABV_FR hF rfl (by assumption : ABV S))) _) ?_
  rintro _ _ ⟨rfl, z9, rfl, w9, w8⟩
  show Rl _ _ _ _ _ [iv z9] _ _
  refine l_if_eq rfl rfl (by unfold rg; omega) (fun w10 => ?_) (fun w11 => ?_)
  · refine l_aload_n rfl rfl ?_
    refine l_iconst rfl ?_
    refine l_iload_n rfl rfl ?_
    refine l_callV rfl rfl rfl (t_mo_wrong hH 5 t ⟨by omega, by omega⟩ ⟨by omega, by omega⟩ _) ?_
    rintro _ T1 ⟨hHT1, w14, rfl, w12⟩
    have hFT1 : FR md_mo_placeObject S T1 := FR.tr hF w14 rfl
    show Rl _ _ _ _ _ [] _ _
    refine l_goto rfl rfl ?_
    refine l_return rfl rfl ?_
    exact ⟨hHT1, hFT1, rfl, (by first | exact W100 | exact WYM_FR (by assumption : FR md_mo_wrong S T1) rfl hW)⟩
  · refine l_aload_n rfl rfl ?_
    refine l_gfr rfl rfl rfl rfl rfl (hH.r 904 21 919 rfl) ?_
    refine l_iload_n rfl rfl ?_
    refine l_iaload (n := 24) rfl rfl (by omega) (by omega) (by unfold rg; omega) ?_
    have w15 : 0 ≤ (Xi S 919 ((o).toNat)) ∧ (Xi S 919 ((o).toNat)) ≤ 5 := hH.c _ _
    refine l_if_eq rfl rfl (by unfold rg; omega) (fun w16 => ?_) (fun w17 => ?_)
    · refine l_aload_n rfl rfl ?_
      refine l_iload_n rfl rfl ?_
      refine l_iload_n rfl rfl ?_
      refine l_callV rfl rfl rfl (t_mo_isWithin hH z6 o ⟨by omega, by omega⟩ ⟨by omega, by omega⟩ _) ?_
      rintro _ _ ⟨rfl, z18, rfl, w18⟩
      show Rl _ _ _ _ _ [iv z18] _ _
      refine l_if_eq rfl rfl (by unfold rg; omega) (fun w19 => ?_) (fun w20 => ?_)
      · refine l_aload_n rfl rfl ?_
        refine l_gfr rfl rfl rfl rfl rfl (hH.r 904 21 919 rfl) ?_
        refine l_iload_n rfl rfl ?_
        refine l_aload_n rfl rfl ?_
        refine l_gfi rfl rfl rfl rfl rfl ?_
        have w21 : 0 ≤ (Xi S 904 73) ∧ (Xi S 904 73) ≤ 5 := hH.c _ _
        refine l_iastore (n := 24) rfl rfl (by omega) (by omega) (by unfold rg; omega) ?_
        obtain ⟨U2, eU2⟩ : ∃ T : sS, T = uI S 919 ((o).toNat) (Int32.ofInt (Xi S 904 73)) := ⟨_, rfl⟩
        rw [← eU2]
        have hHU2 : HI U2 := by rw [eU2]; exact HI_w hH (show 0 ≤ (Xi S 904 73) by omega) (show (Xi S 904 73) ≤ 5 by omega)
        have hFU2 : FR md_mo_placeObject S U2 := by rw [eU2]; exact FR.wI hF (mdf_i (r := (919, 920, 0, 100000)) (List.mem_of_getElem? (i := 2) rfl) (inR_i (by omega) (by omega) (by omega) (by omega)))
        have w22 : Xi U2 919 ((o).toNat) = (Xi S 904 73) := by rw [eU2]; exact Xi_same (by unfold rg; omega)
        refine l_aload_n rfl rfl ?_
        refine l_gfr rfl rfl rfl rfl rfl (hHU2.r 904 22 920 rfl) ?_
        refine l_iload_n rfl rfl ?_
        refine l_iload_n rfl rfl ?_
        refine l_iastore (n := 24) rfl rfl (by omega) (by omega) (by unfold rg; omega) ?_
        obtain ⟨U3, eU3⟩ : ∃ T : sS, T = uI U2 920 ((o).toNat) (Int32.ofInt z6) := ⟨_, rfl⟩
        rw [← eU3]
        have hHU3 : HI U3 := by rw [eU3]; exact HI_w hHU2 (show -1 ≤ z6 by omega) (show z6 ≤ 23 by omega)
        have hFU3 : FR md_mo_placeObject S U3 := by rw [eU3]; exact FR.wI hFU2 (mdf_i (r := (920, 921, 0, 100000)) (List.mem_of_getElem? (i := 3) rfl) (inR_i (by omega) (by omega) (by omega) (by omega)))
        have w23 : Xi U3 920 ((o).toNat) = z6 := by rw [eU3]; exact Xi_same (by unfold rg; omega)
        have W100 : WYM U3 := wym_w eU2 eU3 (fun _ => by rw [eU3, Xi_same (by unfold rg; omega)]; omega) hW
        refine l_return rfl rfl ?_
        exact ⟨hHU3, hFU3, rfl, (by first | exact W100 | exact WYM_FR (by assumption : FR md_mo_wrong U2 U3) rfl hW)⟩
      · refine l_aload_n rfl rfl ?_
        refine l_bipush rfl rfl ?_
        refine l_iload_n rfl rfl ?_
        refine l_callV rfl rfl rfl (t_mo_wrong hH 6 t ⟨by omega, by omega⟩ ⟨by omega, by omega⟩ _) ?_
        rintro _ T4 ⟨hHT4, w26, rfl, w24⟩
        have hFT4 : FR md_mo_placeObject S T4 := FR.tr hF w26 rfl
        show Rl _ _ _ _ _ [] _ _
        refine l_goto rfl rfl ?_
        refine l_return rfl rfl ?_
        exact ⟨hHT4, hFT4, rfl, (by first | exact W100 | exact WYM_FR (by assumption : FR md_mo_wrong S T4) rfl hW)⟩
    · refine l_aload_n rfl rfl ?_
      refine l_gfr rfl rfl rfl rfl rfl (hH.r 904 21 919 rfl) ?_
      refine l_iload_n rfl rfl ?_
      refine l_iaload (n := 24) rfl rfl (by omega) (by omega) (by unfold rg; omega) ?_
      refine l_aload_n rfl rfl ?_
      refine l_gfi rfl rfl rfl rfl rfl ?_
      have w27 : 0 ≤ (Xi S 904 73) ∧ (Xi S 904 73) ≤ 5 := hH.c _ _
      refine l_icmp_ne rfl rfl (by unfold rg; omega) (by unfold rg; omega) (fun w28 => ?_) (fun w29 => ?_)
      · refine l_aload_n rfl rfl ?_
        refine l_iconst rfl ?_
        refine l_iload_n rfl rfl ?_
        refine l_callV rfl rfl rfl (t_mo_wrong hH 5 t ⟨by omega, by omega⟩ ⟨by omega, by omega⟩ _) ?_
        rintro _ T5 ⟨hHT5, w32, rfl, w30⟩
        have hFT5 : FR md_mo_placeObject S T5 := FR.tr hF w32 rfl
        show Rl _ _ _ _ _ [] _ _
        refine l_goto rfl rfl ?_
        refine l_return rfl rfl ?_
        exact ⟨hHT5, hFT5, rfl, (by first | exact W100 | exact WYM_FR (by assumption : FR md_mo_wrong S T5) rfl hW)⟩
      · refine l_aload_n rfl rfl ?_
        refine l_gfr rfl rfl rfl rfl rfl (hH.r 904 22 920 rfl) ?_
        refine l_iload_n rfl rfl ?_
        refine l_iaload (n := 24) rfl rfl (by omega) (by omega) (by unfold rg; omega) ?_
        have w33 : -1 ≤ (Xi S 920 ((o).toNat)) ∧ (Xi S 920 ((o).toNat)) ≤ 23 := hH.c _ _
        refine l_iload_n rfl rfl ?_
        refine l_icmp_eq rfl rfl (by unfold rg; omega) (by unfold rg; omega) (fun w34 => ?_) (fun w35 => ?_)
        · refine l_aload_n rfl rfl ?_
          refine l_iload_n rfl rfl ?_
          refine l_iload_n rfl rfl ?_
          refine l_callV rfl rfl rfl (t_mo_isWithin hH z6 o ⟨by omega, by omega⟩ ⟨by omega, by omega⟩ _) ?_
          rintro _ _ ⟨rfl, z36, rfl, w36⟩
          show Rl _ _ _ _ _ [iv z36] _ _
          refine l_if_eq rfl rfl (by unfold rg; omega) (fun w37 => ?_) (fun w38 => ?_)
          · refine l_aload_n rfl rfl ?_
            refine l_gfr rfl rfl rfl rfl rfl (hH.r 904 21 919 rfl) ?_
            refine l_iload_n rfl rfl ?_
            refine l_aload_n rfl rfl ?_
            refine l_gfi rfl rfl rfl rfl rfl ?_
            refine l_iastore (n := 24) rfl rfl (by omega) (by omega) (by unfold rg; omega) ?_
            obtain ⟨U6, eU6⟩ : ∃ T : sS, T = uI S 919 ((o).toNat) (Int32.ofInt (Xi S 904 73)) := ⟨_, rfl⟩
            rw [← eU6]
            have hHU6 : HI U6 := by rw [eU6]; exact HI_w hH (show 0 ≤ (Xi S 904 73) by omega) (show (Xi S 904 73) ≤ 5 by omega)
            have hFU6 : FR md_mo_placeObject S U6 := by rw [eU6]; exact FR.wI hF (mdf_i (r := (919, 920, 0, 100000)) (List.mem_of_getElem? (i := 2) rfl) (inR_i (by omega) (by omega) (by omega) (by omega)))
            have w39 : Xi U6 919 ((o).toNat) = (Xi S 904 73) := by rw [eU6]; exact Xi_same (by unfold rg; omega)
            refine l_aload_n rfl rfl ?_
            refine l_gfr rfl rfl rfl rfl rfl (hHU6.r 904 22 920 rfl) ?_
            refine l_iload_n rfl rfl ?_
            refine l_iload_n rfl rfl ?_
            refine l_iastore (n := 24) rfl rfl (by omega) (by omega) (by unfold rg; omega) ?_
            obtain ⟨U7, eU7⟩ : ∃ T : sS, T = uI U6 920 ((o).toNat) (Int32.ofInt z6) := ⟨_, rfl⟩
            rw [← eU7]
            have hHU7 : HI U7 := by rw [eU7]; exact HI_w hHU6 (show -1 ≤ z6 by omega) (show z6 ≤ 23 by omega)
            have hFU7 : FR md_mo_placeObject S U7 := by rw [eU7]; exact FR.wI hFU6 (mdf_i (r := (920, 921, 0, 100000)) (List.mem_of_getElem? (i := 3) rfl) (inR_i (by omega) (by omega) (by omega) (by omega)))
            have w40 : Xi U7 920 ((o).toNat) = z6 := by rw [eU7]; exact Xi_same (by unfold rg; omega)
            have W100 : WYM U7 := wym_w eU6 eU7 (fun _ => by rw [eU7, Xi_same (by unfold rg; omega)]; omega) hW
            refine l_return rfl rfl ?_
            exact ⟨hHU7, hFU7, rfl, (by first | exact W100 | exact WYM_FR (by assumption : FR md_mo_wrong U6 U7) rfl hW)⟩
          · refine l_aload_n rfl rfl ?_
            refine l_bipush rfl rfl ?_
            refine l_iload_n rfl rfl ?_
            refine l_callV rfl rfl rfl (t_mo_wrong hH 6 t ⟨by omega, by omega⟩ ⟨by omega, by omega⟩ _) ?_
            rintro _ T8 ⟨hHT8, w43, rfl, w41⟩
            have hFT8 : FR md_mo_placeObject S T8 := FR.tr hF w43 rfl
            show Rl _ _ _ _ _ [] _ _
            refine l_goto rfl rfl ?_
            refine l_return rfl rfl ?_
            exact ⟨hHT8, hFT8, rfl, (by first | exact W100 | exact WYM_FR (by assumption : FR md_mo_wrong S T8) rfl hW)⟩
        · refine l_aload_n rfl rfl ?_
          refine l_iconst rfl ?_
          refine l_iload_n rfl rfl ?_
          refine l_callV rfl rfl rfl (t_mo_wrong hH 5 t ⟨by omega, by omega⟩ ⟨by omega, by omega⟩ _) ?_
          rintro _ T9 ⟨hHT9, w46, rfl, w44⟩
          have hFT9 : FR md_mo_placeObject S T9 := FR.tr hF w46 rfl
          show Rl _ _ _ _ _ [] _ _
          refine l_goto rfl rfl ?_
          refine l_return rfl rfl ?_
          exact ⟨hHT9, hFT9, rfl, (by first | exact W100 | exact WYM_FR (by assumption : FR md_mo_wrong S T9) rfl hW)⟩
def md_mo_askCommand : List rec := [(904, 905, 104, 105), (904, 905, 105, 106), (904, 905, 106, 107), (904, 905, 150, 151), (904, 905, 151, 152), (904, 905, 153, 154), (991, 992, 0, 100000), (992, 993, 0, 100000)]
abbrev Q_mo_askCommand (S : sS) (n : Nat) : pst := fun r S1 => HI S1 ∧ FR md_mo_askCommand S S1 ∧ (r = none ∧ (Xi S1 904 106 = 0 → Xi S 904 55 < 20 ∧ rnR S 0 11 ≠ -1))
set_option maxRecDepth 100000 in
set_option maxHeartbeats 4000000 in
theorem c295_mo_askCommand {S : sS} (hH : HI S) (n : Nat) (hT : TK S n) (hv : RNV S n) (hM : LXM S) (hB : ABV S) (hK : TXK S n) (h1 : 1 ≤ Xi S 904 69) (ht : Xi S 904 81 < n ∧ Xi S 907 (Xi S 904 81).toNat = 5) (d : Nat) : ∀  (T1 : sS) (_ : HI T1) (_ : FR md_mo_askCommand S T1) (v1 : Int), (0 ≤ v1 ∧ v1 ≤ 1) → (Xi T1 904 106 = 0 → Xi S 904 55 < 20 ∧ rnR S 0 11 ≠ -1) → (Xi T1 904 81 = Xi S 904 81) → Rl lay0 (d + 5) m_mo_askCommand 295 [(0, .ref 904), (1, iv v1)] [] T1 (Q_mo_askCommand S n) := by
  have hF : FR md_mo_askCommand S S := FR.rf
  have w1 : 0 ≤ Xi S 904 106 ∧ Xi S 904 106 ≤ 9 := hH.c _ _
  have w2 : 0 ≤ Xi S 904 15 ∧ Xi S 904 15 ≤ 300 := hH.c _ _
  have w3 : 0 ≤ Xi S 904 49 ∧ Xi S 904 49 ≤ 12 := hH.c _ _
  have w4 : 0 ≤ Xi S 904 55 ∧ Xi S 904 55 ≤ 20 := hH.c _ _
  have w5 : 0 ≤ Xi S 904 69 ∧ Xi S 904 69 ≤ 2600 := hH.c _ _
  have w6 : 0 ≤ Xi S 904 81 ∧ Xi S 904 81 ≤ 5010 := hH.c _ _
  have hn5 := hT.1
  have hc69 : 0 ≤ Xi S 904 69 ∧ Xi S 904 69 ≤ 2600 := hH.c _ _
  have q0 := hv 0 (by omega)
  have g0 : 0 ≤ Xi S 950 0 ∧ Xi S 950 0 ≤ 5010 := hH.c 950 0
  have hc81 : 0 ≤ Xi S 904 81 ∧ Xi S 904 81 ≤ 5010 := hH.c _ _
  have hc16 : 0 ≤ Xi S 904 16 ∧ Xi S 904 16 ≤ 16 := hH.c _ _
  have hc49 : 0 ≤ Xi S 904 49 ∧ Xi S 904 49 ≤ 12 := hH.c _ _
  have tx : Xi S 908 (Xi S 904 81).toNat + 1 + Xi S 909 (Xi S 904 81).toNat ≤ 5000 := hK (Xi S 904 81).toNat (by omega) ht.2
  have g8 : 0 ≤ Xi S 908 (Xi S 904 81).toNat ∧ 0 ≤ Xi S 909 (Xi S 904 81).toNat := ⟨(hH.c 908 _).1, (hH.c 909 _).1⟩
  intro T1 hHT1 hFT1 v1 w7 w8 w9
  have w10 : Xi T1 904 15 = Xi S 904 15 := hFT1.x _ _ rfl
  have w11 : Xi T1 904 49 = Xi S 904 49 := hFT1.x _ _ rfl
  have w12 : Xi T1 904 55 = Xi S 904 55 := hFT1.x _ _ rfl
  have w13 : Xi T1 904 69 = Xi S 904 69 := hFT1.x _ _ rfl
  have w14 : Xi T1 904 81 = Xi S 904 81 := hFT1.x _ _ rfl
  have w15 : 0 ≤ Xi T1 904 106 ∧ Xi T1 904 106 ≤ 9 := hHT1.c _ _
  have w16 : 0 ≤ Xi T1 904 81 ∧ Xi T1 904 81 ≤ 5010 := hHT1.c _ _
  refine l_aload_n rfl rfl ?_
  refine l_iload_n rfl rfl ?_
  refine l_bipush rfl rfl ?_
  refine l_aload_n rfl rfl ?_
  refine l_gfi rfl rfl rfl rfl rfl ?_
  refine l_callV rfl rfl rfl (t_mo_need hHT1 v1 8 (Xi T1 904 81) ⟨by omega, by omega⟩ ⟨by omega, by omega⟩ ⟨by omega, by omega⟩ _) ?_
  rintro _ T2 ⟨hHT2, w23, rfl, w20, w21⟩
  have hFT2 : FR md_mo_askCommand S T2 := FR.tr hFT1 w23 rfl
  show Rl _ _ _ _ _ [] _ _
  refine l_return rfl rfl ?_
  have w24 : 0 ≤ Xi T2 904 106 ∧ Xi T2 904 106 ≤ 9 := hHT2.c _ _
  exact ⟨hHT2, hFT2, rfl, (by first | assumption | omega)⟩
set_option maxRecDepth 100000 in
set_option maxHeartbeats 4000000 in
theorem c238_mo_askCommand {S : sS} (hH : HI S) (n : Nat) (hT : TK S n) (hv : RNV S n) (hM : LXM S) (hB : ABV S) (hK : TXK S n) (h1 : 1 ≤ Xi S 904 69) (ht : Xi S 904 81 < n ∧ Xi S 907 (Xi S 904 81).toNat = 5) (d : Nat) : ∀  (T3 : sS) (_ : HI T3) (_ : FR md_mo_askCommand S T3) (v2 : Int) (v3 : Int), (0 ≤ v2 ∧ v2 ≤ 11) → (-1 ≤ v3 ∧ v3 ≤ 299) → (0 ≤ v2 ∧ v2 < Xi S 904 49) → (v3 ≠ -1 → v3 < Xi S 904 15) → (Xi T3 904 106 = 0 → Xi S 904 55 < 20 ∧ rnR S 0 11 ≠ -1) → (Xi T3 904 81 = Xi S 904 81) → Rl lay0 (d + 5) m_mo_askCommand 238 [(0, .ref 904), (2, iv v2), (3, iv v3)] [] T3 (Q_mo_askCommand S n) := by
  have C295 := c295_mo_askCommand hH n hT hv hM hB hK h1 ht d 
  have hF : FR md_mo_askCommand S S := FR.rf
  have w1 : 0 ≤ Xi S 904 106 ∧ Xi S 904 106 ≤ 9 := hH.c _ _
  have w2 : 0 ≤ Xi S 904 15 ∧ Xi S 904 15 ≤ 300 := hH.c _ _
  have w3 : 0 ≤ Xi S 904 49 ∧ Xi S 904 49 ≤ 12 := hH.c _ _
  have w4 : 0 ≤ Xi S 904 55 ∧ Xi S 904 55 ≤ 20 := hH.c _ _
  have w5 : 0 ≤ Xi S 904 69 ∧ Xi S 904 69 ≤ 2600 := hH.c _ _
  have w6 : 0 ≤ Xi S 904 81 ∧ Xi S 904 81 ≤ 5010 := hH.c _ _
  have hn5 := hT.1
  have hc69 : 0 ≤ Xi S 904 69 ∧ Xi S 904 69 ≤ 2600 := hH.c _ _
  have q0 := hv 0 (by omega)
  have g0 : 0 ≤ Xi S 950 0 ∧ Xi S 950 0 ≤ 5010 := hH.c 950 0
  have hc81 : 0 ≤ Xi S 904 81 ∧ Xi S 904 81 ≤ 5010 := hH.c _ _
  have hc16 : 0 ≤ Xi S 904 16 ∧ Xi S 904 16 ≤ 16 := hH.c _ _
  have hc49 : 0 ≤ Xi S 904 49 ∧ Xi S 904 49 ≤ 12 := hH.c _ _
  have tx : Xi S 908 (Xi S 904 81).toNat + 1 + Xi S 909 (Xi S 904 81).toNat ≤ 5000 := hK (Xi S 904 81).toNat (by omega) ht.2
  have g8 : 0 ≤ Xi S 908 (Xi S 904 81).toNat ∧ 0 ≤ Xi S 909 (Xi S 904 81).toNat := ⟨(hH.c 908 _).1, (hH.c 909 _).1⟩
  intro T3 hHT3 hFT3 v2 v3 w29 w30 w31 w32 w33 w34
  have w35 : Xi T3 904 15 = Xi S 904 15 := hFT3.x _ _ rfl
  have w36 : Xi T3 904 49 = Xi S 904 49 := hFT3.x _ _ rfl
  have w37 : Xi T3 904 55 = Xi S 904 55 := hFT3.x _ _ rfl
  have w38 : Xi T3 904 69 = Xi S 904 69 := hFT3.x _ _ rfl
  have w39 : Xi T3 904 81 = Xi S 904 81 := hFT3.x _ _ rfl
  have w40 : 0 ≤ Xi T3 904 106 ∧ Xi T3 904 106 ≤ 9 := hHT3.c _ _
  have w41 : 0 ≤ Xi T3 904 81 ∧ Xi T3 904 81 ≤ 5010 := hHT3.c _ _
  refine l_iload_n rfl rfl ?_
  refine l_iconst rfl ?_
  refine l_icmp_eq rfl rfl (by unfold rg; omega) (by unfold rg; omega) (fun w42 => ?_) (fun w43 => ?_)
  · refine l_iconst rfl ?_
    refine l_istore_n rfl rfl rfl ?_
    refine l_aload_n rfl rfl ?_
    refine l_iload_n rfl rfl ?_
    refine l_if_eq rfl rfl (by unfold rg; omega) (fun w44 => ?_) (fun w45 => absurd w45 (by omega))
    · refine l_iconst rfl ?_
      refine l_pfi rfl rfl rfl rfl ?_
      obtain ⟨U4, eU4⟩ : ∃ T : sS, T = uI T3 904 153 (Int32.ofInt (-1)) := ⟨_, rfl⟩
      rw [← eU4]
      have hHU4 : HI U4 := by rw [eU4]; exact HI_w hHT3 (show -2 ≤ (-1) by omega) (show (-1) ≤ 15 by omega)
      have hFU4 : FR md_mo_askCommand S U4 := by rw [eU4]; exact FR.wI hFT3 (mdf_i (r := (904, 905, 153, 154)) (List.mem_of_getElem? (i := 5) rfl) (inR_i (by omega) (by omega) (by omega) (by omega)))
      have w46 : Xi U4 904 153 = (-1) := by rw [eU4]; exact Xi_same (by unfold rg; omega)
      have w47 : Xi U4 904 106 = Xi T3 904 106 := (show Xi U4 904 106 = Xi T3 904 106 from by rw [eU4]; exact Xi_ne (by omega))
      have w49 : Xi U4 904 150 = Xi T3 904 150 := (show Xi U4 904 150 = Xi T3 904 150 from by rw [eU4]; exact Xi_ne (by omega))
      have w50 : 0 ≤ Xi T3 904 150 ∧ Xi T3 904 150 ≤ 5000 := hHT3.c _ _
      have w51 : Xi U4 904 81 = Xi T3 904 81 := (show Xi U4 904 81 = Xi T3 904 81 from by rw [eU4]; exact Xi_ne (by omega))
      exact Rl_weak (C295 U4 hHU4 hFU4 (0) (by omega) (by omega) (by omega)) (And.intro rfl (And.intro rfl (True.intro)))
  · refine l_aload_n rfl rfl ?_
    refine l_gfr rfl rfl rfl rfl rfl (hHT3.r 904 12 914 rfl) ?_
    refine l_iload_n rfl rfl ?_
    refine l_iaload (n := 300) rfl rfl (by omega) (by omega) (by unfold rg; omega) ?_
    have w53 : 0 ≤ (Xi T3 914 ((v3).toNat)) ∧ (Xi T3 914 ((v3).toNat)) ≤ 12 := hHT3.c _ _
    refine l_if_ne rfl rfl (by unfold rg; omega) (fun w54 => ?_) (fun w55 => ?_)
    · refine l_iconst rfl ?_
      refine l_istore_n rfl rfl rfl ?_
      refine l_aload_n rfl rfl ?_
      refine l_iload_n rfl rfl ?_
      refine l_if_eq rfl rfl (by unfold rg; omega) (fun w56 => ?_) (fun w57 => absurd w57 (by omega))
      · refine l_iconst rfl ?_
        refine l_pfi rfl rfl rfl rfl ?_
        obtain ⟨U5, eU5⟩ : ∃ T : sS, T = uI T3 904 153 (Int32.ofInt (-1)) := ⟨_, rfl⟩
        rw [← eU5]
        have hHU5 : HI U5 := by rw [eU5]; exact HI_w hHT3 (show -2 ≤ (-1) by omega) (show (-1) ≤ 15 by omega)
        have hFU5 : FR md_mo_askCommand S U5 := by rw [eU5]; exact FR.wI hFT3 (mdf_i (r := (904, 905, 153, 154)) (List.mem_of_getElem? (i := 5) rfl) (inR_i (by omega) (by omega) (by omega) (by omega)))
        have w58 : Xi U5 904 153 = (-1) := by rw [eU5]; exact Xi_same (by unfold rg; omega)
        have w59 : Xi U5 904 106 = Xi T3 904 106 := (show Xi U5 904 106 = Xi T3 904 106 from by rw [eU5]; exact Xi_ne (by omega))
        have w61 : Xi U5 904 150 = Xi T3 904 150 := (show Xi U5 904 150 = Xi T3 904 150 from by rw [eU5]; exact Xi_ne (by omega))
        have w62 : 0 ≤ Xi T3 904 150 ∧ Xi T3 904 150 ≤ 5000 := hHT3.c _ _
        have w63 : Xi U5 904 81 = Xi T3 904 81 := (show Xi U5 904 81 = Xi T3 904 81 from by rw [eU5]; exact Xi_ne (by omega))
        exact Rl_weak (C295 U5 hHU5 hFU5 (0) (by omega) (by omega) (by omega)) (And.intro rfl (And.intro rfl (True.intro)))
    · refine l_aload_n rfl rfl ?_
      refine l_aload_n rfl rfl ?_
      refine l_gfr rfl rfl rfl rfl rfl (hHT3.r 904 13 915 rfl) ?_
      refine l_iload_n rfl rfl ?_
      refine l_iaload (n := 300) rfl rfl (by omega) (by omega) (by unfold rg; omega) ?_
      have w65 : 0 ≤ (Xi T3 915 ((v3).toNat)) ∧ (Xi T3 915 ((v3).toNat)) ≤ 63 := hHT3.c _ _
      have x258 : Xi T3 914 (v3).toNat = 0 → (Xi T3 915 ((v3).toNat)) < 16 := fun q => by have t := lxm (s := 0) (LXM_FR hFT3 rfl hM) (k := v3) (by omega) (by rw [hFT3.x 904 15 rfl]; omega) q; rw [cM0, hFT3.x 904 16 rfl] at t; omega
      refine l_aload_n rfl rfl ?_
      refine l_gfr rfl rfl rfl rfl rfl (hHT3.r 904 50 942 rfl) ?_
      refine l_iload_n rfl rfl ?_
      refine l_iaload (n := 12) rfl rfl (by omega) (by omega) (by unfold rg; omega) ?_
      have w66 : -2 ≤ (Xi T3 942 ((v2).toNat)) ∧ (Xi T3 942 ((v2).toNat)) ≤ 15 := hHT3.c _ _
      refine l_callV rfl rfl rfl (t_mo_isBelow hHT3 (Xi T3 915 ((v3).toNat)) (Xi T3 942 ((v2).toNat)) ⟨by omega, by omega⟩ ⟨by omega, by omega⟩ (by first | assumption | exact (ABV_FR hFT3 rfl (by assumption : ABV S))) _) ?_
      rintro _ _ ⟨rfl, z71, rfl, w71, w70⟩
      show Rl _ _ _ _ _ [iv z71] _ _
      refine l_if_eq rfl rfl (by unfold rg; omega) (fun w72 => ?_) (fun w73 => ?_)
      · refine l_iconst rfl ?_
        refine l_istore_n rfl rfl rfl ?_
        refine l_aload_n rfl rfl ?_
        refine l_iload_n rfl rfl ?_
        refine l_if_eq rfl rfl (by unfold rg; omega) (fun w74 => ?_) (fun w75 => absurd w75 (by omega))
        · refine l_iconst rfl ?_
          refine l_pfi rfl rfl rfl rfl ?_
          obtain ⟨U6, eU6⟩ : ∃ T : sS, T = uI T3 904 153 (Int32.ofInt (-1)) := ⟨_, rfl⟩
          rw [← eU6]
          have hHU6 : HI U6 := by rw [eU6]; exact HI_w hHT3 (show -2 ≤ (-1) by omega) (show (-1) ≤ 15 by omega)
          have hFU6 : FR md_mo_askCommand S U6 := by rw [eU6]; exact FR.wI hFT3 (mdf_i (r := (904, 905, 153, 154)) (List.mem_of_getElem? (i := 5) rfl) (inR_i (by omega) (by omega) (by omega) (by omega)))
          have w76 : Xi U6 904 153 = (-1) := by rw [eU6]; exact Xi_same (by unfold rg; omega)
          have w77 : Xi U6 904 106 = Xi T3 904 106 := (show Xi U6 904 106 = Xi T3 904 106 from by rw [eU6]; exact Xi_ne (by omega))
          have w79 : Xi U6 904 150 = Xi T3 904 150 := (show Xi U6 904 150 = Xi T3 904 150 from by rw [eU6]; exact Xi_ne (by omega))
          have w80 : 0 ≤ Xi T3 904 150 ∧ Xi T3 904 150 ≤ 5000 := hHT3.c _ _
          have w81 : Xi U6 904 81 = Xi T3 904 81 := (show Xi U6 904 81 = Xi T3 904 81 from by rw [eU6]; exact Xi_ne (by omega))
          exact Rl_weak (C295 U6 hHU6 hFU6 (0) (by omega) (by omega) (by omega)) (And.intro rfl (And.intro rfl (True.intro)))
      · refine l_iconst rfl ?_
        refine l_goto rfl rfl ?_
        refine l_istore_n rfl rfl rfl ?_
        refine l_aload_n rfl rfl ?_
        refine l_iload_n rfl rfl ?_
        refine l_if_eq rfl rfl (by unfold rg; omega) (fun w83 => absurd w83 (by omega)) (fun w84 => ?_)
        · refine l_aload_n rfl rfl ?_
          refine l_gfr rfl rfl rfl rfl rfl (hHT3.r 904 13 915 rfl) ?_
          refine l_iload_n rfl rfl ?_
          refine l_iaload (n := 300) rfl rfl (by omega) (by omega) (by unfold rg; omega) ?_
          have x287 : Xi T3 914 (v3).toNat = 0 → (Xi T3 915 ((v3).toNat)) < 16 := fun q => by have t := lxm (s := 0) (LXM_FR hFT3 rfl hM) (k := v3) (by omega) (by rw [hFT3.x 904 15 rfl]; omega) q; rw [cM0, hFT3.x 904 16 rfl] at t; omega
          refine l_goto rfl rfl ?_
          refine l_pfi rfl rfl rfl rfl ?_
          obtain ⟨U7, eU7⟩ : ∃ T : sS, T = uI T3 904 153 (Int32.ofInt (Xi T3 915 ((v3).toNat))) := ⟨_, rfl⟩
          rw [← eU7]
          have hHU7 : HI U7 := by rw [eU7]; exact HI_w hHT3 (show -2 ≤ (Xi T3 915 ((v3).toNat)) by omega) (show (Xi T3 915 ((v3).toNat)) ≤ 15 by omega)
          have hFU7 : FR md_mo_askCommand S U7 := by rw [eU7]; exact FR.wI hFT3 (mdf_i (r := (904, 905, 153, 154)) (List.mem_of_getElem? (i := 5) rfl) (inR_i (by omega) (by omega) (by omega) (by omega)))
          have w85 : Xi U7 904 153 = (Xi T3 915 ((v3).toNat)) := by rw [eU7]; exact Xi_same (by unfold rg; omega)
          have w86 : Xi U7 904 106 = Xi T3 904 106 := (show Xi U7 904 106 = Xi T3 904 106 from by rw [eU7]; exact Xi_ne (by omega))
          have w88 : Xi U7 904 150 = Xi T3 904 150 := (show Xi U7 904 150 = Xi T3 904 150 from by rw [eU7]; exact Xi_ne (by omega))
          have w89 : 0 ≤ Xi T3 904 150 ∧ Xi T3 904 150 ≤ 5000 := hHT3.c _ _
          have w90 : Xi U7 904 81 = Xi T3 904 81 := (show Xi U7 904 81 = Xi T3 904 81 from by rw [eU7]; exact Xi_ne (by omega))
          exact Rl_weak (C295 U7 hHU7 hFU7 (1) (by omega) (by omega) (by omega)) (And.intro rfl (And.intro rfl (True.intro)))
set_option maxRecDepth 100000 in
set_option maxHeartbeats 4000000 in
theorem c78_mo_askCommand {S : sS} (hH : HI S) (n : Nat) (hT : TK S n) (hv : RNV S n) (hM : LXM S) (hB : ABV S) (hK : TXK S n) (h1 : 1 ≤ Xi S 904 69) (ht : Xi S 904 81 < n ∧ Xi S 907 (Xi S 904 81).toNat = 5) (d : Nat) : ∀  (T8 : sS) (_ : HI T8) (_ : FR md_mo_askCommand S T8) (v1 : Int) (v2 : Int), (0 ≤ v1 ∧ v1 ≤ 1) → (-1 ≤ v2 ∧ v2 ≤ 11) → (v2 ≠ -1 → v2 < Xi S 904 49) → (Xi T8 904 106 = 0 → Xi S 904 55 < 20 ∧ v2 ≠ -1) → (v2 = rnR S 0 11) → (Xi T8 904 81 = Xi S 904 81) → Rl lay0 (d + 5) m_mo_askCommand 78 [(0, .ref 904), (1, iv v1), (2, iv v2)] [] T8 (Q_mo_askCommand S n) := by
  have C295 := c295_mo_askCommand hH n hT hv hM hB hK h1 ht d 
  have C238 := c238_mo_askCommand hH n hT hv hM hB hK h1 ht d 
  have hF : FR md_mo_askCommand S S := FR.rf
  have w1 : 0 ≤ Xi S 904 106 ∧ Xi S 904 106 ≤ 9 := hH.c _ _
  have w2 : 0 ≤ Xi S 904 15 ∧ Xi S 904 15 ≤ 300 := hH.c _ _
  have w3 : 0 ≤ Xi S 904 49 ∧ Xi S 904 49 ≤ 12 := hH.c _ _
  have w4 : 0 ≤ Xi S 904 55 ∧ Xi S 904 55 ≤ 20 := hH.c _ _
  have w5 : 0 ≤ Xi S 904 69 ∧ Xi S 904 69 ≤ 2600 := hH.c _ _
  have w6 : 0 ≤ Xi S 904 81 ∧ Xi S 904 81 ≤ 5010 := hH.c _ _
  have hn5 := hT.1
  have hc69 : 0 ≤ Xi S 904 69 ∧ Xi S 904 69 ≤ 2600 := hH.c _ _
  have q0 := hv 0 (by omega)
  have g0 : 0 ≤ Xi S 950 0 ∧ Xi S 950 0 ≤ 5010 := hH.c 950 0
  have hc81 : 0 ≤ Xi S 904 81 ∧ Xi S 904 81 ≤ 5010 := hH.c _ _
  have hc16 : 0 ≤ Xi S 904 16 ∧ Xi S 904 16 ≤ 16 := hH.c _ _
  have hc49 : 0 ≤ Xi S 904 49 ∧ Xi S 904 49 ≤ 12 := hH.c _ _
  have tx : Xi S 908 (Xi S 904 81).toNat + 1 + Xi S 909 (Xi S 904 81).toNat ≤ 5000 := hK (Xi S 904 81).toNat (by omega) ht.2
  have g8 : 0 ≤ Xi S 908 (Xi S 904 81).toNat ∧ 0 ≤ Xi S 909 (Xi S 904 81).toNat := ⟨(hH.c 908 _).1, (hH.c 909 _).1⟩
  intro T8 hHT8 hFT8 v1 v2 w92 w93 w94 w95 w96 w97
  have w98 : Xi T8 904 15 = Xi S 904 15 := hFT8.x _ _ rfl
  have w99 : Xi T8 904 49 = Xi S 904 49 := hFT8.x _ _ rfl
  have w100 : Xi T8 904 55 = Xi S 904 55 := hFT8.x _ _ rfl
  have w101 : Xi T8 904 69 = Xi S 904 69 := hFT8.x _ _ rfl
  have w102 : Xi T8 904 81 = Xi S 904 81 := hFT8.x _ _ rfl
  have w103 : 0 ≤ Xi T8 904 106 ∧ Xi T8 904 106 ≤ 9 := hHT8.c _ _
  have w104 : 0 ≤ Xi T8 904 81 ∧ Xi T8 904 81 ≤ 5010 := hHT8.c _ _
  refine l_aload_n rfl rfl ?_
  refine l_iconst rfl ?_
  refine l_pfi rfl rfl rfl rfl ?_
  obtain ⟨U9, eU9⟩ : ∃ T : sS, T = uI T8 904 153 (Int32.ofInt (-1)) := ⟨_, rfl⟩
  rw [← eU9]
  have hHU9 : HI U9 := by rw [eU9]; exact HI_w hHT8 (show -2 ≤ (-1) by omega) (show (-1) ≤ 15 by omega)
  have hFU9 : FR md_mo_askCommand S U9 := by rw [eU9]; exact FR.wI hFT8 (mdf_i (r := (904, 905, 153, 154)) (List.mem_of_getElem? (i := 5) rfl) (inR_i (by omega) (by omega) (by omega) (by omega)))
  have w105 : Xi U9 904 153 = (-1) := by rw [eU9]; exact Xi_same (by unfold rg; omega)
  refine l_iload_n rfl rfl ?_
  refine l_if_eq rfl rfl (by unfold rg; omega) (fun w106 => ?_) (fun w107 => ?_)
  · have w108 : Xi U9 904 106 = Xi T8 904 106 := (show Xi U9 904 106 = Xi T8 904 106 from by rw [eU9]; exact Xi_ne (by omega))
    have w110 : Xi U9 904 150 = Xi T8 904 150 := (show Xi U9 904 150 = Xi T8 904 150 from by rw [eU9]; exact Xi_ne (by omega))
    have w111 : 0 ≤ Xi T8 904 150 ∧ Xi T8 904 150 ≤ 5000 := hHT8.c _ _
    have w112 : Xi U9 904 81 = Xi T8 904 81 := (show Xi U9 904 81 = Xi T8 904 81 from by rw [eU9]; exact Xi_ne (by omega))
    exact Rl_weak (C295 U9 hHU9 hFU9 (v1) (by omega) (by omega) (by omega)) (And.intro rfl (And.intro rfl (True.intro)))
  · refine l_iload_n rfl rfl ?_
    refine l_iconst rfl ?_
    refine l_icmp_eq rfl rfl (by unfold rg; omega) (by unfold rg; omega) (fun w114 => ?_) (fun w115 => ?_)
    · have w116 : Xi U9 904 106 = Xi T8 904 106 := (show Xi U9 904 106 = Xi T8 904 106 from by rw [eU9]; exact Xi_ne (by omega))
      have w118 : Xi U9 904 150 = Xi T8 904 150 := (show Xi U9 904 150 = Xi T8 904 150 from by rw [eU9]; exact Xi_ne (by omega))
      have w119 : 0 ≤ Xi T8 904 150 ∧ Xi T8 904 150 ≤ 5000 := hHT8.c _ _
      have w120 : Xi U9 904 81 = Xi T8 904 81 := (show Xi U9 904 81 = Xi T8 904 81 from by rw [eU9]; exact Xi_ne (by omega))
      exact Rl_weak (C295 U9 hHU9 hFU9 (v1) (by omega) (by omega) (by omega)) (And.intro rfl (And.intro rfl (True.intro)))
    · refine l_aload_n rfl rfl ?_
      refine l_gfr rfl rfl rfl rfl rfl (hHU9.r 904 50 942 rfl) ?_
      refine l_iload_n rfl rfl ?_
      refine l_iaload (n := 12) rfl rfl (by omega) (by omega) (by unfold rg; omega) ?_
      have w122 : -2 ≤ (Xi U9 942 ((v2).toNat)) ∧ (Xi U9 942 ((v2).toNat)) ≤ 15 := hHU9.c _ _
      refine l_iconst rfl ?_
      refine l_icmp_ne rfl rfl (by unfold rg; omega) (by unfold rg; omega) (fun w123 => ?_) (fun w124 => ?_)
      · refine l_aload_n rfl rfl ?_
        refine l_gfr rfl rfl rfl rfl rfl (hHU9.r 904 50 942 rfl) ?_
        refine l_iload_n rfl rfl ?_
        refine l_iaload (n := 12) rfl rfl (by omega) (by omega) (by unfold rg; omega) ?_
        refine l_bipush rfl rfl ?_
        refine l_icmp_ne rfl rfl (by unfold rg; omega) (by unfold rg; omega) (fun w125 => ?_) (fun w126 => ?_)
        · refine l_aload_n rfl rfl ?_
          refine l_gfi rfl rfl rfl rfl rfl ?_
          have w127 : 0 ≤ (Xi U9 904 150) ∧ (Xi U9 904 150) ≤ 5000 := hHU9.c _ _
          refine l_iconst rfl ?_
          refine l_icmp_gt rfl rfl (by unfold rg; omega) (by unfold rg; omega) (fun w128 => ?_) (fun w129 => ?_)
          · refine l_iconst rfl ?_
            refine l_goto rfl rfl ?_
            refine l_istore_n rfl rfl rfl ?_
            have w130 : Xi U9 904 106 = Xi T8 904 106 := (show Xi U9 904 106 = Xi T8 904 106 from by rw [eU9]; exact Xi_ne (by omega))
            have w132 : Xi U9 904 150 = Xi T8 904 150 := (show Xi U9 904 150 = Xi T8 904 150 from by rw [eU9]; exact Xi_ne (by omega))
            have w133 : 0 ≤ Xi T8 904 150 ∧ Xi T8 904 150 ≤ 5000 := hHT8.c _ _
            have w134 : Xi U9 904 81 = Xi T8 904 81 := (show Xi U9 904 81 = Xi T8 904 81 from by rw [eU9]; exact Xi_ne (by omega))
            exact Rl_weak (C238 U9 hHU9 hFU9 (v2) ((-1)) (by omega) (by omega) (by omega) (by omega) (by omega) (by omega)) (And.intro rfl (And.intro rfl (And.intro rfl (True.intro))))
          · refine l_aload_n rfl rfl ?_
            refine l_gfi rfl rfl rfl rfl rfl ?_
            refine l_if_ne rfl rfl (by unfold rg; omega) (fun w136 => ?_) (fun w137 => ?_)
            · refine l_aload_n rfl rfl ?_
              refine l_aload_n rfl rfl ?_
              refine l_gfr rfl rfl rfl rfl rfl (hHU9.r 904 149 991 rfl) ?_
              refine l_iconst rfl ?_
              refine l_laload (n := 3) rfl rfl (by omega) (by omega) (by unfold rg; omega) ?_
              have w138 : -9223372036854775808 ≤ (Xj U9 991 ((0 : Int).toNat)) ∧ (Xj U9 991 ((0 : Int).toNat)) < 9223372036854775808 := Xj_rg
              refine l_aload_n rfl rfl ?_
              refine l_gfi rfl rfl rfl rfl rfl ?_
              refine l_iconst rfl ?_
              refine l_icmp_le rfl rfl (by unfold rg; omega) (by unfold rg; omega) (fun w139 => ?_) (fun w140 => ?_)
              · refine l_lconst (z := 0) rfl rfl ?_
                refine l_aload_n rfl rfl ?_
                refine l_gfi rfl rfl rfl rfl rfl ?_
                refine l_iconst rfl ?_
                refine l_icmp_le rfl rfl (by unfold rg; omega) (by unfold rg; omega) (fun w141 => ?_) (fun w142 => ?_)
                · refine l_lconst (z := 0) rfl rfl ?_
                  refine l_aload_n rfl rfl ?_
                  refine l_gfi rfl rfl rfl rfl rfl ?_
                  have w145 : Xi U9 904 15 = Xi T8 904 15 := (show Xi U9 904 15 = Xi T8 904 15 from by rw [eU9]; exact Xi_ne (by omega))
                  have w146 : 0 ≤ Xi T8 904 15 ∧ Xi T8 904 15 ≤ 300 := hHT8.c _ _
                  have w147 : Xi U9 904 150 = Xi T8 904 150 := (show Xi U9 904 150 = Xi T8 904 150 from by rw [eU9]; exact Xi_ne (by omega))
                  have w148 : 0 ≤ Xi T8 904 150 ∧ Xi T8 904 150 ≤ 5000 := hHT8.c _ _
                  refine l_callV rfl rfl rfl (t_mo_find hHU9 (Xj U9 991 ((0 : Int).toNat)) 0 0 (Xi U9 904 150) ⟨by omega, by omega⟩ _) ?_
                  rintro _ _ ⟨rfl, z152, rfl, w152, w151⟩
                  show Rl _ _ _ _ _ [iv z152] _ _
                  refine l_istore_n rfl rfl rfl ?_
                  have w153 : Xi U9 904 106 = Xi T8 904 106 := (show Xi U9 904 106 = Xi T8 904 106 from by rw [eU9]; exact Xi_ne (by omega))
                  have w157 : Xi U9 904 81 = Xi T8 904 81 := (show Xi U9 904 81 = Xi T8 904 81 from by rw [eU9]; exact Xi_ne (by omega))
                  exact Rl_weak (C238 U9 hHU9 hFU9 (v2) (z152) (by omega) (by omega) (by omega) (by omega) (by omega) (by omega)) (And.intro rfl (And.intro rfl (And.intro rfl (True.intro))))
                · refine l_aload_n rfl rfl ?_
                  refine l_gfr rfl rfl rfl rfl rfl (hHU9.r 904 149 991 rfl) ?_
                  refine l_iconst rfl ?_
                  refine l_laload (n := 3) rfl rfl (by omega) (by omega) (by unfold rg; omega) ?_
                  have w159 : -9223372036854775808 ≤ (Xj U9 991 ((2 : Int).toNat)) ∧ (Xj U9 991 ((2 : Int).toNat)) < 9223372036854775808 := Xj_rg
                  refine l_goto rfl rfl ?_
                  refine l_aload_n rfl rfl ?_
                  refine l_gfi rfl rfl rfl rfl rfl ?_
                  have w162 : Xi U9 904 15 = Xi T8 904 15 := (show Xi U9 904 15 = Xi T8 904 15 from by rw [eU9]; exact Xi_ne (by omega))
                  have w163 : 0 ≤ Xi T8 904 15 ∧ Xi T8 904 15 ≤ 300 := hHT8.c _ _
                  have w164 : Xi U9 904 150 = Xi T8 904 150 := (show Xi U9 904 150 = Xi T8 904 150 from by rw [eU9]; exact Xi_ne (by omega))
                  have w165 : 0 ≤ Xi T8 904 150 ∧ Xi T8 904 150 ≤ 5000 := hHT8.c _ _
                  refine l_callV rfl rfl rfl (t_mo_find hHU9 (Xj U9 991 ((0 : Int).toNat)) 0 (Xj U9 991 ((2 : Int).toNat)) (Xi U9 904 150) ⟨by omega, by omega⟩ _) ?_
                  rintro _ _ ⟨rfl, z169, rfl, w169, w168⟩
                  show Rl _ _ _ _ _ [iv z169] _ _
                  refine l_istore_n rfl rfl rfl ?_
                  have w170 : Xi U9 904 106 = Xi T8 904 106 := (show Xi U9 904 106 = Xi T8 904 106 from by rw [eU9]; exact Xi_ne (by omega))
                  have w174 : Xi U9 904 81 = Xi T8 904 81 := (show Xi U9 904 81 = Xi T8 904 81 from by rw [eU9]; exact Xi_ne (by omega))
                  exact Rl_weak (C238 U9 hHU9 hFU9 (v2) (z169) (by omega) (by omega) (by omega) (by omega) (by omega) (by omega)) (And.intro rfl (And.intro rfl (And.intro rfl (True.intro))))
              · refine l_aload_n rfl rfl ?_
                refine l_gfr rfl rfl rfl rfl rfl (hHU9.r 904 149 991 rfl) ?_
                refine l_iconst rfl ?_
                refine l_laload (n := 3) rfl rfl (by omega) (by omega) (by unfold rg; omega) ?_
                have w176 : -9223372036854775808 ≤ (Xj U9 991 ((1 : Int).toNat)) ∧ (Xj U9 991 ((1 : Int).toNat)) < 9223372036854775808 := Xj_rg
                refine l_goto rfl rfl ?_
                refine l_aload_n rfl rfl ?_
                refine l_gfi rfl rfl rfl rfl rfl ?_
                refine l_iconst rfl ?_
                refine l_icmp_le rfl rfl (by unfold rg; omega) (by unfold rg; omega) (fun w177 => ?_) (fun w178 => ?_)
                · refine l_lconst (z := 0) rfl rfl ?_
                  refine l_aload_n rfl rfl ?_
                  refine l_gfi rfl rfl rfl rfl rfl ?_
                  have w181 : Xi U9 904 15 = Xi T8 904 15 := (show Xi U9 904 15 = Xi T8 904 15 from by rw [eU9]; exact Xi_ne (by omega))
                  have w182 : 0 ≤ Xi T8 904 15 ∧ Xi T8 904 15 ≤ 300 := hHT8.c _ _
                  have w183 : Xi U9 904 150 = Xi T8 904 150 := (show Xi U9 904 150 = Xi T8 904 150 from by rw [eU9]; exact Xi_ne (by omega))
                  have w184 : 0 ≤ Xi T8 904 150 ∧ Xi T8 904 150 ≤ 5000 := hHT8.c _ _
                  refine l_callV rfl rfl rfl (t_mo_find hHU9 (Xj U9 991 ((0 : Int).toNat)) (Xj U9 991 ((1 : Int).toNat)) 0 (Xi U9 904 150) ⟨by omega, by omega⟩ _) ?_
                  rintro _ _ ⟨rfl, z188, rfl, w188, w187⟩
                  show Rl _ _ _ _ _ [iv z188] _ _
                  refine l_istore_n rfl rfl rfl ?_
                  have w189 : Xi U9 904 106 = Xi T8 904 106 := (show Xi U9 904 106 = Xi T8 904 106 from by rw [eU9]; exact Xi_ne (by omega))
                  have w193 : Xi U9 904 81 = Xi T8 904 81 := (show Xi U9 904 81 = Xi T8 904 81 from by rw [eU9]; exact Xi_ne (by omega))
                  exact Rl_weak (C238 U9 hHU9 hFU9 (v2) (z188) (by omega) (by omega) (by omega) (by omega) (by omega) (by omega)) (And.intro rfl (And.intro rfl (And.intro rfl (True.intro))))
                · refine l_aload_n rfl rfl ?_
                  refine l_gfr rfl rfl rfl rfl rfl (hHU9.r 904 149 991 rfl) ?_
                  refine l_iconst rfl ?_
                  refine l_laload (n := 3) rfl rfl (by omega) (by omega) (by unfold rg; omega) ?_
                  have w195 : -9223372036854775808 ≤ (Xj U9 991 ((2 : Int).toNat)) ∧ (Xj U9 991 ((2 : Int).toNat)) < 9223372036854775808 := Xj_rg
                  refine l_goto rfl rfl ?_
                  refine l_aload_n rfl rfl ?_
                  refine l_gfi rfl rfl rfl rfl rfl ?_
                  have w198 : Xi U9 904 15 = Xi T8 904 15 := (show Xi U9 904 15 = Xi T8 904 15 from by rw [eU9]; exact Xi_ne (by omega))
                  have w199 : 0 ≤ Xi T8 904 15 ∧ Xi T8 904 15 ≤ 300 := hHT8.c _ _
                  have w200 : Xi U9 904 150 = Xi T8 904 150 := (show Xi U9 904 150 = Xi T8 904 150 from by rw [eU9]; exact Xi_ne (by omega))
                  have w201 : 0 ≤ Xi T8 904 150 ∧ Xi T8 904 150 ≤ 5000 := hHT8.c _ _
                  refine l_callV rfl rfl rfl (t_mo_find hHU9 (Xj U9 991 ((0 : Int).toNat)) (Xj U9 991 ((1 : Int).toNat)) (Xj U9 991 ((2 : Int).toNat)) (Xi U9 904 150) ⟨by omega, by omega⟩ _) ?_
                  rintro _ _ ⟨rfl, z205, rfl, w205, w204⟩
                  show Rl _ _ _ _ _ [iv z205] _ _
                  refine l_istore_n rfl rfl rfl ?_
                  have w206 : Xi U9 904 106 = Xi T8 904 106 := (show Xi U9 904 106 = Xi T8 904 106 from by rw [eU9]; exact Xi_ne (by omega))
                  have w210 : Xi U9 904 81 = Xi T8 904 81 := (show Xi U9 904 81 = Xi T8 904 81 from by rw [eU9]; exact Xi_ne (by omega))
                  exact Rl_weak (C238 U9 hHU9 hFU9 (v2) (z205) (by omega) (by omega) (by omega) (by omega) (by omega) (by omega)) (And.intro rfl (And.intro rfl (And.intro rfl (True.intro))))
            · refine l_iconst rfl ?_
              refine l_goto rfl rfl ?_
              refine l_istore_n rfl rfl rfl ?_
              have w212 : Xi U9 904 106 = Xi T8 904 106 := (show Xi U9 904 106 = Xi T8 904 106 from by rw [eU9]; exact Xi_ne (by omega))
              have w214 : Xi U9 904 150 = Xi T8 904 150 := (show Xi U9 904 150 = Xi T8 904 150 from by rw [eU9]; exact Xi_ne (by omega))
              have w215 : 0 ≤ Xi T8 904 150 ∧ Xi T8 904 150 ≤ 5000 := hHT8.c _ _
              have w216 : Xi U9 904 81 = Xi T8 904 81 := (show Xi U9 904 81 = Xi T8 904 81 from by rw [eU9]; exact Xi_ne (by omega))
              exact Rl_weak (C238 U9 hHU9 hFU9 (v2) ((-1)) (by omega) (by omega) (by omega) (by omega) (by omega) (by omega)) (And.intro rfl (And.intro rfl (And.intro rfl (True.intro))))
        · refine l_aload_n rfl rfl ?_
          refine l_gfi rfl rfl rfl rfl rfl ?_
          have w218 : 0 ≤ (Xi U9 904 150) ∧ (Xi U9 904 150) ≤ 5000 := hHU9.c _ _
          refine l_iconst rfl ?_
          refine l_icmp_ne rfl rfl (by unfold rg; omega) (by unfold rg; omega) (fun w219 => ?_) (fun w220 => ?_)
          · refine l_iconst rfl ?_
            refine l_istore_n rfl rfl rfl ?_
            refine l_aload_n rfl rfl ?_
            refine l_bipush rfl rfl ?_
            refine l_pfi rfl rfl rfl rfl ?_
            obtain ⟨U10, eU10⟩ : ∃ T : sS, T = uI U9 904 153 (Int32.ofInt (-2)) := ⟨_, rfl⟩
            rw [← eU10]
            have hHU10 : HI U10 := by rw [eU10]; exact HI_w hHU9 (show -2 ≤ (-2) by omega) (show (-2) ≤ 15 by omega)
            have hFU10 : FR md_mo_askCommand S U10 := by rw [eU10]; exact FR.wI hFU9 (mdf_i (r := (904, 905, 153, 154)) (List.mem_of_getElem? (i := 5) rfl) (inR_i (by omega) (by omega) (by omega) (by omega)))
            have w221 : Xi U10 904 153 = (-2) := by rw [eU10]; exact Xi_same (by unfold rg; omega)
            refine l_goto rfl rfl ?_
            have w222 : Xi U10 904 106 = Xi T8 904 106 := (show Xi U10 904 106 = Xi U9 904 106 from by rw [eU10]; exact Xi_ne (by omega)).trans ((show Xi U9 904 106 = Xi T8 904 106 from by rw [eU9]; exact Xi_ne (by omega)))
            have w224 : Xi U10 904 150 = Xi T8 904 150 := (show Xi U10 904 150 = Xi U9 904 150 from by rw [eU10]; exact Xi_ne (by omega)).trans ((show Xi U9 904 150 = Xi T8 904 150 from by rw [eU9]; exact Xi_ne (by omega)))
            have w225 : 0 ≤ Xi T8 904 150 ∧ Xi T8 904 150 ≤ 5000 := hHT8.c _ _
            have w226 : Xi U10 904 81 = Xi T8 904 81 := (show Xi U10 904 81 = Xi U9 904 81 from by rw [eU10]; exact Xi_ne (by omega)).trans ((show Xi U9 904 81 = Xi T8 904 81 from by rw [eU9]; exact Xi_ne (by omega)))
            exact Rl_weak (C295 U10 hHU10 hFU10 (0) (by omega) (by omega) (by omega)) (And.intro rfl (And.intro rfl (True.intro)))
          · refine l_aload_n rfl rfl ?_
            refine l_gfr rfl rfl rfl rfl rfl (hHU9.r 904 149 991 rfl) ?_
            refine l_iconst rfl ?_
            refine l_laload (n := 3) rfl rfl (by omega) (by omega) (by unfold rg; omega) ?_
            have w228 : -9223372036854775808 ≤ (Xj U9 991 ((0 : Int).toNat)) ∧ (Xj U9 991 ((0 : Int).toNat)) < 9223372036854775808 := Xj_rg
            refine l_ldcwR (i := 71) rfl rfl ?_
            refine l_callS rfl rfl (by decide) rfl (t_mo_packed hHU9 71 _ rfl _) ?_
            rintro _ _ ⟨rfl, z235, rfl⟩
            show Rl _ _ _ _ _ [jw z235, jw (Xj U9 991 ((0 : Int).toNat))] _ _
            refine l_lcmpA rfl (fun c236 w236 => ?_)
            refine l_if_ne rfl rfl (by unfold rg; omega) (fun w237 => ?_) (fun w238 => ?_)
            · refine l_iconst rfl ?_
              refine l_istore_n rfl rfl rfl ?_
              refine l_aload_n rfl rfl ?_
              refine l_bipush rfl rfl ?_
              refine l_pfi rfl rfl rfl rfl ?_
              obtain ⟨U11, eU11⟩ : ∃ T : sS, T = uI U9 904 153 (Int32.ofInt (-2)) := ⟨_, rfl⟩
              rw [← eU11]
              have hHU11 : HI U11 := by rw [eU11]; exact HI_w hHU9 (show -2 ≤ (-2) by omega) (show (-2) ≤ 15 by omega)
              have hFU11 : FR md_mo_askCommand S U11 := by rw [eU11]; exact FR.wI hFU9 (mdf_i (r := (904, 905, 153, 154)) (List.mem_of_getElem? (i := 5) rfl) (inR_i (by omega) (by omega) (by omega) (by omega)))
              have w239 : Xi U11 904 153 = (-2) := by rw [eU11]; exact Xi_same (by unfold rg; omega)
              refine l_goto rfl rfl ?_
              have w240 : Xi U11 904 106 = Xi T8 904 106 := (show Xi U11 904 106 = Xi U9 904 106 from by rw [eU11]; exact Xi_ne (by omega)).trans ((show Xi U9 904 106 = Xi T8 904 106 from by rw [eU9]; exact Xi_ne (by omega)))
              have w242 : Xi U11 904 150 = Xi T8 904 150 := (show Xi U11 904 150 = Xi U9 904 150 from by rw [eU11]; exact Xi_ne (by omega)).trans ((show Xi U9 904 150 = Xi T8 904 150 from by rw [eU9]; exact Xi_ne (by omega)))
              have w243 : 0 ≤ Xi T8 904 150 ∧ Xi T8 904 150 ≤ 5000 := hHT8.c _ _
              have w244 : Xi U11 904 81 = Xi T8 904 81 := (show Xi U11 904 81 = Xi U9 904 81 from by rw [eU11]; exact Xi_ne (by omega)).trans ((show Xi U9 904 81 = Xi T8 904 81 from by rw [eU9]; exact Xi_ne (by omega)))
              exact Rl_weak (C295 U11 hHU11 hFU11 (0) (by omega) (by omega) (by omega)) (And.intro rfl (And.intro rfl (True.intro)))
            · refine l_iconst rfl ?_
              refine l_goto rfl rfl ?_
              refine l_istore_n rfl rfl rfl ?_
              refine l_aload_n rfl rfl ?_
              refine l_bipush rfl rfl ?_
              refine l_pfi rfl rfl rfl rfl ?_
              obtain ⟨U12, eU12⟩ : ∃ T : sS, T = uI U9 904 153 (Int32.ofInt (-2)) := ⟨_, rfl⟩
              rw [← eU12]
              have hHU12 : HI U12 := by rw [eU12]; exact HI_w hHU9 (show -2 ≤ (-2) by omega) (show (-2) ≤ 15 by omega)
              have hFU12 : FR md_mo_askCommand S U12 := by rw [eU12]; exact FR.wI hFU9 (mdf_i (r := (904, 905, 153, 154)) (List.mem_of_getElem? (i := 5) rfl) (inR_i (by omega) (by omega) (by omega) (by omega)))
              have w246 : Xi U12 904 153 = (-2) := by rw [eU12]; exact Xi_same (by unfold rg; omega)
              refine l_goto rfl rfl ?_
              have w247 : Xi U12 904 106 = Xi T8 904 106 := (show Xi U12 904 106 = Xi U9 904 106 from by rw [eU12]; exact Xi_ne (by omega)).trans ((show Xi U9 904 106 = Xi T8 904 106 from by rw [eU9]; exact Xi_ne (by omega)))
              have w249 : Xi U12 904 150 = Xi T8 904 150 := (show Xi U12 904 150 = Xi U9 904 150 from by rw [eU12]; exact Xi_ne (by omega)).trans ((show Xi U9 904 150 = Xi T8 904 150 from by rw [eU9]; exact Xi_ne (by omega)))
              have w250 : 0 ≤ Xi T8 904 150 ∧ Xi T8 904 150 ≤ 5000 := hHT8.c _ _
              have w251 : Xi U12 904 81 = Xi T8 904 81 := (show Xi U12 904 81 = Xi U9 904 81 from by rw [eU12]; exact Xi_ne (by omega)).trans ((show Xi U9 904 81 = Xi T8 904 81 from by rw [eU9]; exact Xi_ne (by omega)))
              exact Rl_weak (C295 U12 hHU12 hFU12 (1) (by omega) (by omega) (by omega)) (And.intro rfl (And.intro rfl (True.intro)))
      · refine l_aload_n rfl rfl ?_
        refine l_gfi rfl rfl rfl rfl rfl ?_
        have w253 : 0 ≤ (Xi U9 904 150) ∧ (Xi U9 904 150) ≤ 5000 := hHU9.c _ _
        refine l_if_ne rfl rfl (by unfold rg; omega) (fun w254 => ?_) (fun w255 => ?_)
        · refine l_iconst rfl ?_
          refine l_istore_n rfl rfl rfl ?_
          refine l_goto rfl rfl ?_
          have w256 : Xi U9 904 106 = Xi T8 904 106 := (show Xi U9 904 106 = Xi T8 904 106 from by rw [eU9]; exact Xi_ne (by omega))
          have w258 : Xi U9 904 150 = Xi T8 904 150 := (show Xi U9 904 150 = Xi T8 904 150 from by rw [eU9]; exact Xi_ne (by omega))
          have w259 : 0 ≤ Xi T8 904 150 ∧ Xi T8 904 150 ≤ 5000 := hHT8.c _ _
          have w260 : Xi U9 904 81 = Xi T8 904 81 := (show Xi U9 904 81 = Xi T8 904 81 from by rw [eU9]; exact Xi_ne (by omega))
          exact Rl_weak (C295 U9 hHU9 hFU9 (0) (by omega) (by omega) (by omega)) (And.intro rfl (And.intro rfl (True.intro)))
        · refine l_iconst rfl ?_
          refine l_goto rfl rfl ?_
          refine l_istore_n rfl rfl rfl ?_
          refine l_goto rfl rfl ?_
          have w262 : Xi U9 904 106 = Xi T8 904 106 := (show Xi U9 904 106 = Xi T8 904 106 from by rw [eU9]; exact Xi_ne (by omega))
          have w264 : Xi U9 904 150 = Xi T8 904 150 := (show Xi U9 904 150 = Xi T8 904 150 from by rw [eU9]; exact Xi_ne (by omega))
          have w265 : 0 ≤ Xi T8 904 150 ∧ Xi T8 904 150 ≤ 5000 := hHT8.c _ _
          have w266 : Xi U9 904 81 = Xi T8 904 81 := (show Xi U9 904 81 = Xi T8 904 81 from by rw [eU9]; exact Xi_ne (by omega))
          exact Rl_weak (C295 U9 hHU9 hFU9 (1) (by omega) (by omega) (by omega)) (And.intro rfl (And.intro rfl (True.intro)))
set_option maxRecDepth 100000 in
set_option maxHeartbeats 4000000 in
theorem t_mo_askCommand {S : sS} (hH : HI S) (n : Nat) (hT : TK S n) (hv : RNV S n) (hM : LXM S) (hB : ABV S) (hK : TXK S n) (h1 : 1 ≤ Xi S 904 69) (ht : Xi S 904 81 < n ∧ Xi S 907 (Xi S 904 81).toNat = 5) (d : Nat) : Mt lay0 (d + 6) m_mo_askCommand [.ref 904] S (Q_mo_askCommand S n) := by
  refine Mt_R rfl rfl ?_
  have C295 := c295_mo_askCommand hH n hT hv hM hB hK h1 ht d 
  have C238 := c238_mo_askCommand hH n hT hv hM hB hK h1 ht d 
  have C78 := c78_mo_askCommand hH n hT hv hM hB hK h1 ht d 
  have hF : FR md_mo_askCommand S S := FR.rf
  have w1 : 0 ≤ Xi S 904 106 ∧ Xi S 904 106 ≤ 9 := hH.c _ _
  have w2 : 0 ≤ Xi S 904 15 ∧ Xi S 904 15 ≤ 300 := hH.c _ _
  have w3 : 0 ≤ Xi S 904 49 ∧ Xi S 904 49 ≤ 12 := hH.c _ _
  have w4 : 0 ≤ Xi S 904 55 ∧ Xi S 904 55 ≤ 20 := hH.c _ _
  have w5 : 0 ≤ Xi S 904 69 ∧ Xi S 904 69 ≤ 2600 := hH.c _ _
  have w6 : 0 ≤ Xi S 904 81 ∧ Xi S 904 81 ≤ 5010 := hH.c _ _
  have hn5 := hT.1
  have hc69 : 0 ≤ Xi S 904 69 ∧ Xi S 904 69 ≤ 2600 := hH.c _ _
  have q0 := hv 0 (by omega)
  have g0 : 0 ≤ Xi S 950 0 ∧ Xi S 950 0 ≤ 5010 := hH.c 950 0
  have hc81 : 0 ≤ Xi S 904 81 ∧ Xi S 904 81 ≤ 5010 := hH.c _ _
  have hc16 : 0 ≤ Xi S 904 16 ∧ Xi S 904 16 ≤ 16 := hH.c _ _
  have hc49 : 0 ≤ Xi S 904 49 ∧ Xi S 904 49 ≤ 12 := hH.c _ _
  have tx : Xi S 908 (Xi S 904 81).toNat + 1 + Xi S 909 (Xi S 904 81).toNat ≤ 5000 := hK (Xi S 904 81).toNat (by omega) ht.2
  have g8 : 0 ≤ Xi S 908 (Xi S 904 81).toNat ∧ 0 ≤ Xi S 909 (Xi S 904 81).toNat := ⟨(hH.c 908 _).1, (hH.c 909 _).1⟩
  refine l_aload_n rfl rfl ?_
  refine l_aload_n rfl rfl ?_
  refine l_gfi rfl rfl rfl rfl rfl ?_
  refine l_bipush rfl rfl ?_
  refine l_icmp_ge rfl rfl (by unfold rg; omega) (by unfold rg; omega) (fun w268 => ?_) (fun w269 => ?_)
  · refine l_iconst rfl ?_
    refine l_bipush rfl rfl ?_
    refine l_aload_n rfl rfl ?_
    refine l_gfi rfl rfl rfl rfl rfl ?_
    refine l_callV rfl rfl rfl (t_mo_need hH 0 9 (Xi S 904 81) ⟨by omega, by omega⟩ ⟨by omega, by omega⟩ ⟨by omega, by omega⟩ _) ?_
    rintro _ T13 ⟨hHT13, w276, rfl, w273, w274⟩
    have hFT13 : FR md_mo_askCommand S T13 := FR.tr hF w276 rfl
    show Rl _ _ _ _ _ [] _ _
    refine l_aload_n rfl rfl ?_
    refine l_aload_n rfl rfl ?_
    refine l_gfr rfl rfl rfl rfl rfl (hHT13.r 904 5 908 rfl) ?_
    refine l_aload_n rfl rfl ?_
    refine l_gfi rfl rfl rfl rfl rfl ?_
    have w277 : (Xi T13 904 81) = (Xi S 904 81) := (show Xi T13 904 81 = Xi S 904 81 from w276.x _ _ rfl)
    rw [w277]
    refine l_iaload (n := 5002) rfl rfl (by omega) (by omega) (by unfold rg; omega) ?_
    have w278 : 0 ≤ (Xi T13 908 (((Xi S 904 81)).toNat)) ∧ (Xi T13 908 (((Xi S 904 81)).toNat)) ≤ 5000 := hHT13.c _ _
    have e33 : (Xi T13 908 (((Xi S 904 81)).toNat)) = Xi S 908 (Xi S 904 81).toNat := by first | exact (hFT13.cx 908 rfl _).1 | (rw [(hFT13.cx 908 rfl _).1, show Xi T13 904 81 = Xi S 904 81 by omega])
    refine l_iconst rfl ?_
    refine l_iadd rfl ?_
    refine l_aload_n rfl rfl ?_
    refine l_gfr rfl rfl rfl rfl rfl (hHT13.r 904 6 909 rfl) ?_
    refine l_aload_n rfl rfl ?_
    refine l_gfi rfl rfl rfl rfl rfl ?_
    have w279 : (Xi T13 904 81) = (Xi S 904 81) := (show Xi T13 904 81 = Xi S 904 81 from w276.x _ _ rfl)
    rw [w279]
    refine l_iaload (n := 5002) rfl rfl (by omega) (by omega) (by unfold rg; omega) ?_
    have w280 : 0 ≤ (Xi T13 909 (((Xi S 904 81)).toNat)) ∧ (Xi T13 909 (((Xi S 904 81)).toNat)) ≤ 5000 := hHT13.c _ _
    have e44 : (Xi T13 909 (((Xi S 904 81)).toNat)) = Xi S 909 (Xi S 904 81).toNat := by first | exact (hFT13.cx 909 rfl _).1 | (rw [(hFT13.cx 909 rfl _).1, show Xi T13 904 81 = Xi S 904 81 by omega])
    have w284 : Xi T13 904 81 = Xi S 904 81 := (show Xi T13 904 81 = Xi S 904 81 from w276.x _ _ rfl)
    refine l_callV rfl rfl rfl (t_mo_isCommand hHT13 ((Xi T13 908 (((Xi S 904 81)).toNat)) + 1) (Xi T13 909 (((Xi S 904 81)).toNat)) ⟨by omega, by omega⟩ ⟨by omega, by omega⟩ (by first | assumption | omega) _) ?_
    rintro _ T14 ⟨hHT14, w287, z286, rfl, w286⟩
    have hFT14 : FR md_mo_askCommand S T14 := FR.tr hFT13 w287 rfl
    show Rl _ _ _ _ _ [iv z286] _ _
    refine l_istore_n rfl rfl rfl ?_
    refine l_aload_n rfl rfl ?_
    refine l_iconst rfl ?_
    refine l_bipush rfl rfl ?_
    have w291 : Xi T14 904 69 = Xi S 904 69 := (show Xi T14 904 69 = Xi T13 904 69 from w287.x _ _ rfl).trans ((show Xi T13 904 69 = Xi S 904 69 from w276.x _ _ rfl))
    refine l_callV rfl rfl rfl (t_mo_meansRun__2 hHT14 n 0 11 ⟨by omega, by omega⟩ ⟨by omega, by omega⟩ (by first | assumption | exact (TK_FR hFT14 rfl (by assumption : TK S _))) (by first | assumption | exact (RNV_FR hFT14 rfl (by assumption : RNV S _))) (by first | assumption | omega) (by first | assumption | exact (LXM_FR hFT14 rfl (by assumption : LXM S))) _) ?_
    rintro _ _ ⟨rfl, z297, rfl, w297, w295, w296⟩
    show Rl _ _ _ _ _ [iv z297] _ _
    have x53 : z297 ≠ -1 → z297 < Xi S 904 49 := fun q => by have t := (by assumption : z297 ≠ -1 → z297 < cM T14 11) q; rw [cM11, hFT14.x 904 49 rfl] at t; exact t
    have r53 : z297 = rnR S 0 11 := (by assumption : z297 = rnR T14 _ _).trans (rnR_FR hFT14 rfl rfl)
    refine l_istore_n rfl rfl rfl ?_
    refine l_aload_n rfl rfl ?_
    refine l_iload_n rfl rfl ?_
    refine l_iconst rfl ?_
    refine l_icmp_eq rfl rfl (by unfold rg; omega) (by unfold rg; omega) (fun w298 => ?_) (fun w299 => ?_)
    · refine l_iconst rfl ?_
      refine l_iconst rfl ?_
      refine l_aload_n rfl rfl ?_
      refine l_gfr rfl rfl rfl rfl rfl (hHT14.r 904 67 950 rfl) ?_
      refine l_iconst rfl ?_
      refine l_iaload (n := 2600) rfl rfl (by omega) (by omega) (by unfold rg; omega) ?_
      have w300 : 0 ≤ (Xi T14 950 ((0 : Int).toNat)) ∧ (Xi T14 950 ((0 : Int).toNat)) ≤ 5010 := hHT14.c _ _
      have w301 : (Xi T14 950 ((0 : Int).toNat)) = Xi T14 950 0 := rfl
      have e74 : (Xi T14 950 ((0 : Int).toNat)) = Xi S 950 0 := by first | rfl | exact (hFT14.cx 950 rfl _).1
      have w302 : Xi T14 904 106 = Xi T13 904 106 := (show Xi T14 904 106 = Xi T13 904 106 from w287.x _ _ rfl)
      have w303 : 0 ≤ Xi T13 904 106 ∧ Xi T13 904 106 ≤ 9 := hHT13.c _ _
      refine l_callV rfl rfl rfl (t_mo_need hHT14 0 4 (Xi T14 950 ((0 : Int).toNat)) ⟨by omega, by omega⟩ ⟨by omega, by omega⟩ ⟨by omega, by omega⟩ _) ?_
      rintro _ T15 ⟨hHT15, w310, rfl, w307, w308⟩
      have hFT15 : FR md_mo_askCommand S T15 := FR.tr hFT14 w310 rfl
      show Rl _ _ _ _ _ [] _ _
      have w311 : 0 ≤ Xi T15 904 106 ∧ Xi T15 904 106 ≤ 9 := hHT15.c _ _
      have w312 : Xi T15 904 150 = Xi T14 904 150 := (show Xi T15 904 150 = Xi T14 904 150 from w310.x _ _ rfl)
      have w313 : 0 ≤ Xi T14 904 150 ∧ Xi T14 904 150 ≤ 5000 := hHT14.c _ _
      have w314 : Xi T15 904 81 = Xi S 904 81 := (show Xi T15 904 81 = Xi T14 904 81 from w310.x _ _ rfl).trans ( (show Xi T14 904 81 = Xi T13 904 81 from w287.x _ _ rfl).trans ((show Xi T13 904 81 = Xi S 904 81 from w276.x _ _ rfl)))
      exact Rl_weak (C78 T15 hHT15 hFT15 (z286) (z297) (by omega) (by omega) (by omega) (by omega) (by omega) (by omega)) (And.intro rfl (And.intro rfl (And.intro rfl (True.intro))))
    · refine l_iconst rfl ?_
      refine l_goto rfl rfl ?_
      refine l_iconst rfl ?_
      refine l_aload_n rfl rfl ?_
      refine l_gfr rfl rfl rfl rfl rfl (hHT14.r 904 67 950 rfl) ?_
      refine l_iconst rfl ?_
      refine l_iaload (n := 2600) rfl rfl (by omega) (by omega) (by unfold rg; omega) ?_
      have w316 : 0 ≤ (Xi T14 950 ((0 : Int).toNat)) ∧ (Xi T14 950 ((0 : Int).toNat)) ≤ 5010 := hHT14.c _ _
      have w317 : (Xi T14 950 ((0 : Int).toNat)) = Xi T14 950 0 := rfl
      have e74 : (Xi T14 950 ((0 : Int).toNat)) = Xi S 950 0 := by first | rfl | exact (hFT14.cx 950 rfl _).1
      have w318 : Xi T14 904 106 = Xi T13 904 106 := (show Xi T14 904 106 = Xi T13 904 106 from w287.x _ _ rfl)
      have w319 : 0 ≤ Xi T13 904 106 ∧ Xi T13 904 106 ≤ 9 := hHT13.c _ _
      refine l_callV rfl rfl rfl (t_mo_need hHT14 1 4 (Xi T14 950 ((0 : Int).toNat)) ⟨by omega, by omega⟩ ⟨by omega, by omega⟩ ⟨by omega, by omega⟩ _) ?_
      rintro _ T16 ⟨hHT16, w326, rfl, w323, w324⟩
      have hFT16 : FR md_mo_askCommand S T16 := FR.tr hFT14 w326 rfl
      show Rl _ _ _ _ _ [] _ _
      have w327 : 0 ≤ Xi T16 904 106 ∧ Xi T16 904 106 ≤ 9 := hHT16.c _ _
      have w328 : Xi T16 904 150 = Xi T14 904 150 := (show Xi T16 904 150 = Xi T14 904 150 from w326.x _ _ rfl)
      have w329 : 0 ≤ Xi T14 904 150 ∧ Xi T14 904 150 ≤ 5000 := hHT14.c _ _
      have w330 : Xi T16 904 81 = Xi S 904 81 := (show Xi T16 904 81 = Xi T14 904 81 from w326.x _ _ rfl).trans ( (show Xi T14 904 81 = Xi T13 904 81 from w287.x _ _ rfl).trans ((show Xi T13 904 81 = Xi S 904 81 from w276.x _ _ rfl)))
      exact Rl_weak (C78 T16 hHT16 hFT16 (z286) (z297) (by omega) (by omega) (by omega) (by omega) (by omega) (by omega)) (And.intro rfl (And.intro rfl (And.intro rfl (True.intro))))
  · refine l_iconst rfl ?_
    refine l_goto rfl rfl ?_
    refine l_bipush rfl rfl ?_
    refine l_aload_n rfl rfl ?_
    refine l_gfi rfl rfl rfl rfl rfl ?_
    refine l_callV rfl rfl rfl (t_mo_need hH 1 9 (Xi S 904 81) ⟨by omega, by omega⟩ ⟨by omega, by omega⟩ ⟨by omega, by omega⟩ _) ?_
    rintro _ T17 ⟨hHT17, w338, rfl, w335, w336⟩
    have hFT17 : FR md_mo_askCommand S T17 := FR.tr hF w338 rfl
    show Rl _ _ _ _ _ [] _ _
    refine l_aload_n rfl rfl ?_
    refine l_aload_n rfl rfl ?_
    refine l_gfr rfl rfl rfl rfl rfl (hHT17.r 904 5 908 rfl) ?_
    refine l_aload_n rfl rfl ?_
    refine l_gfi rfl rfl rfl rfl rfl ?_
    have w339 : (Xi T17 904 81) = (Xi S 904 81) := (show Xi T17 904 81 = Xi S 904 81 from w338.x _ _ rfl)
    rw [w339]
    refine l_iaload (n := 5002) rfl rfl (by omega) (by omega) (by unfold rg; omega) ?_
    have w340 : 0 ≤ (Xi T17 908 (((Xi S 904 81)).toNat)) ∧ (Xi T17 908 (((Xi S 904 81)).toNat)) ≤ 5000 := hHT17.c _ _
    have e33 : (Xi T17 908 (((Xi S 904 81)).toNat)) = Xi S 908 (Xi S 904 81).toNat := by first | exact (hFT17.cx 908 rfl _).1 | (rw [(hFT17.cx 908 rfl _).1, show Xi T17 904 81 = Xi S 904 81 by omega])
    refine l_iconst rfl ?_
    refine l_iadd rfl ?_
    refine l_aload_n rfl rfl ?_
    refine l_gfr rfl rfl rfl rfl rfl (hHT17.r 904 6 909 rfl) ?_
    refine l_aload_n rfl rfl ?_
    refine l_gfi rfl rfl rfl rfl rfl ?_
    have w341 : (Xi T17 904 81) = (Xi S 904 81) := (show Xi T17 904 81 = Xi S 904 81 from w338.x _ _ rfl)
    rw [w341]
    refine l_iaload (n := 5002) rfl rfl (by omega) (by omega) (by unfold rg; omega) ?_
    have w342 : 0 ≤ (Xi T17 909 (((Xi S 904 81)).toNat)) ∧ (Xi T17 909 (((Xi S 904 81)).toNat)) ≤ 5000 := hHT17.c _ _
    have e44 : (Xi T17 909 (((Xi S 904 81)).toNat)) = Xi S 909 (Xi S 904 81).toNat := by first | exact (hFT17.cx 909 rfl _).1 | (rw [(hFT17.cx 909 rfl _).1, show Xi T17 904 81 = Xi S 904 81 by omega])
    have w346 : Xi T17 904 81 = Xi S 904 81 := (show Xi T17 904 81 = Xi S 904 81 from w338.x _ _ rfl)
    refine l_callV rfl rfl rfl (t_mo_isCommand hHT17 ((Xi T17 908 (((Xi S 904 81)).toNat)) + 1) (Xi T17 909 (((Xi S 904 81)).toNat)) ⟨by omega, by omega⟩ ⟨by omega, by omega⟩ (by first | assumption | omega) _) ?_
    rintro _ T18 ⟨hHT18, w349, z348, rfl, w348⟩
    have hFT18 : FR md_mo_askCommand S T18 := FR.tr hFT17 w349 rfl
    show Rl _ _ _ _ _ [iv z348] _ _
    refine l_istore_n rfl rfl rfl ?_
    refine l_aload_n rfl rfl ?_
    refine l_iconst rfl ?_
    refine l_bipush rfl rfl ?_
    have w353 : Xi T18 904 69 = Xi S 904 69 := (show Xi T18 904 69 = Xi T17 904 69 from w349.x _ _ rfl).trans ((show Xi T17 904 69 = Xi S 904 69 from w338.x _ _ rfl))
    refine l_callV rfl rfl rfl (t_mo_meansRun__2 hHT18 n 0 11 ⟨by omega, by omega⟩ ⟨by omega, by omega⟩ (by first | assumption | exact (TK_FR hFT18 rfl (by assumption : TK S _))) (by first | assumption | exact (RNV_FR hFT18 rfl (by assumption : RNV S _))) (by first | assumption | omega) (by first | assumption | exact (LXM_FR hFT18 rfl (by assumption : LXM S))) _) ?_
    rintro _ _ ⟨rfl, z359, rfl, w359, w357, w358⟩
    show Rl _ _ _ _ _ [iv z359] _ _
    have x53 : z359 ≠ -1 → z359 < Xi S 904 49 := fun q => by have t := (by assumption : z359 ≠ -1 → z359 < cM T18 11) q; rw [cM11, hFT18.x 904 49 rfl] at t; exact t
    have r53 : z359 = rnR S 0 11 := (by assumption : z359 = rnR T18 _ _).trans (rnR_FR hFT18 rfl rfl)
    refine l_istore_n rfl rfl rfl ?_
    refine l_aload_n rfl rfl ?_
    refine l_iload_n rfl rfl ?_
    refine l_iconst rfl ?_
    refine l_icmp_eq rfl rfl (by unfold rg; omega) (by unfold rg; omega) (fun w360 => ?_) (fun w361 => ?_)
    · refine l_iconst rfl ?_
      refine l_iconst rfl ?_
      refine l_aload_n rfl rfl ?_
      refine l_gfr rfl rfl rfl rfl rfl (hHT18.r 904 67 950 rfl) ?_
      refine l_iconst rfl ?_
      refine l_iaload (n := 2600) rfl rfl (by omega) (by omega) (by unfold rg; omega) ?_
      have w362 : 0 ≤ (Xi T18 950 ((0 : Int).toNat)) ∧ (Xi T18 950 ((0 : Int).toNat)) ≤ 5010 := hHT18.c _ _
      have w363 : (Xi T18 950 ((0 : Int).toNat)) = Xi T18 950 0 := rfl
      have e74 : (Xi T18 950 ((0 : Int).toNat)) = Xi S 950 0 := by first | rfl | exact (hFT18.cx 950 rfl _).1
      have w364 : Xi T18 904 106 = Xi T17 904 106 := (show Xi T18 904 106 = Xi T17 904 106 from w349.x _ _ rfl)
      have w365 : 0 ≤ Xi T17 904 106 ∧ Xi T17 904 106 ≤ 9 := hHT17.c _ _
      refine l_callV rfl rfl rfl (t_mo_need hHT18 0 4 (Xi T18 950 ((0 : Int).toNat)) ⟨by omega, by omega⟩ ⟨by omega, by omega⟩ ⟨by omega, by omega⟩ _) ?_
      rintro _ T19 ⟨hHT19, w372, rfl, w369, w370⟩
      have hFT19 : FR md_mo_askCommand S T19 := FR.tr hFT18 w372 rfl
      show Rl _ _ _ _ _ [] _ _
      have w373 : 0 ≤ Xi T19 904 106 ∧ Xi T19 904 106 ≤ 9 := hHT19.c _ _
      have w374 : Xi T19 904 150 = Xi T18 904 150 := (show Xi T19 904 150 = Xi T18 904 150 from w372.x _ _ rfl)
      have w375 : 0 ≤ Xi T18 904 150 ∧ Xi T18 904 150 ≤ 5000 := hHT18.c _ _
      have w376 : Xi T19 904 81 = Xi S 904 81 := (show Xi T19 904 81 = Xi T18 904 81 from w372.x _ _ rfl).trans ( (show Xi T18 904 81 = Xi T17 904 81 from w349.x _ _ rfl).trans ((show Xi T17 904 81 = Xi S 904 81 from w338.x _ _ rfl)))
      exact Rl_weak (C78 T19 hHT19 hFT19 (z348) (z359) (by omega) (by omega) (by omega) (by omega) (by omega) (by omega)) (And.intro rfl (And.intro rfl (And.intro rfl (True.intro))))
    · refine l_iconst rfl ?_
      refine l_goto rfl rfl ?_
      refine l_iconst rfl ?_
      refine l_aload_n rfl rfl ?_
      refine l_gfr rfl rfl rfl rfl rfl (hHT18.r 904 67 950 rfl) ?_
      refine l_iconst rfl ?_
      refine l_iaload (n := 2600) rfl rfl (by omega) (by omega) (by unfold rg; omega) ?_
      have w378 : 0 ≤ (Xi T18 950 ((0 : Int).toNat)) ∧ (Xi T18 950 ((0 : Int).toNat)) ≤ 5010 := hHT18.c _ _
      have w379 : (Xi T18 950 ((0 : Int).toNat)) = Xi T18 950 0 := rfl
      have e74 : (Xi T18 950 ((0 : Int).toNat)) = Xi S 950 0 := by first | rfl | exact (hFT18.cx 950 rfl _).1
      have w380 : Xi T18 904 106 = Xi T17 904 106 := (show Xi T18 904 106 = Xi T17 904 106 from w349.x _ _ rfl)
      have w381 : 0 ≤ Xi T17 904 106 ∧ Xi T17 904 106 ≤ 9 := hHT17.c _ _
      refine l_callV rfl rfl rfl (t_mo_need hHT18 1 4 (Xi T18 950 ((0 : Int).toNat)) ⟨by omega, by omega⟩ ⟨by omega, by omega⟩ ⟨by omega, by omega⟩ _) ?_
      rintro _ T20 ⟨hHT20, w388, rfl, w385, w386⟩
      have hFT20 : FR md_mo_askCommand S T20 := FR.tr hFT18 w388 rfl
      show Rl _ _ _ _ _ [] _ _
      have w389 : 0 ≤ Xi T20 904 106 ∧ Xi T20 904 106 ≤ 9 := hHT20.c _ _
      have w390 : Xi T20 904 150 = Xi T18 904 150 := (show Xi T20 904 150 = Xi T18 904 150 from w388.x _ _ rfl)
      have w391 : 0 ≤ Xi T18 904 150 ∧ Xi T18 904 150 ≤ 5000 := hHT18.c _ _
      have w392 : Xi T20 904 81 = Xi S 904 81 := (show Xi T20 904 81 = Xi T18 904 81 from w388.x _ _ rfl).trans ( (show Xi T18 904 81 = Xi T17 904 81 from w349.x _ _ rfl).trans ((show Xi T17 904 81 = Xi S 904 81 from w338.x _ _ rfl)))
      exact Rl_weak (C78 T20 hHT20 hFT20 (z348) (z359) (by omega) (by omega) (by omega) (by omega) (by omega) (by omega)) (And.intro rfl (And.intro rfl (And.intro rfl (True.intro))))
/-! SAFETY of methods: printed by wip/safe (vc.py, decl.py) -/
theorem txm_o {S T : sS} {kind : Int} (hX : TXM S) (h0 : 0 ≤ Xi S 904 19) (hc : Xi T 904 19 = Xi S 904 19 + 1) (k : ∀ j : Nat, (j : Int) < Xi S 904 19 → Xi T 918 j = Xi S 918 j) (e : Xi T 918 (Xi S 904 19).toNat = kind) (hk : kind < Xi S 904 16) (o : ∀ j : Nat, (j : Int) < 12 * Xi S 904 19 → Xi T 930 j = Xi S 930 j) (z : ∀ p : Int, 0 ≤ p → p < 12 → Xi T 930 (12 * Xi S 904 19 + p).toNat = 0) (e28 : ∀ j, Xi T 928 j = Xi S 928 j) (e31 : ∀ j, Xi T 931 j = Xi S 931 j) (e32 : ∀ j, Xi T 932 j = Xi S 932 j) (e33 : ∀ j, Xi T 933 j = Xi S 933 j) (e34 : ∀ j, Xi T 934 j = Xi S 934 j) (e35 : ∀ j, Xi T 935 j = Xi S 935 j) (e16 : Xi T 904 16 = Xi S 904 16) (ep : Xi T 904 32 = Xi S 904 32) : TXM T := by
  refine ⟨fun a h1 h2 => ?_, fun a b h1 h2 h3 h4 h5 => ?_, fun a b h1 h2 h3 h4 h5 => ?_⟩
  · rw [e16]
    rcases (by omega : a < Xi S 904 19 ∨ a = Xi S 904 19) with q | q
    · rw [k a.toNat (by omega)]; exact hX.1 a h1 q
    · rw [q, e]; exact hk
  · rw [ep, e28, e31, e32]
    rcases (by omega : a < Xi S 904 19 ∨ a = Xi S 904 19) with q | q
    · rw [o (12 * a + b).toNat (by omega)] at h5; exact hX.2.1 a b h1 q h3 h4 h5
    · rw [q, z b h3 h4] at h5; exact absurd rfl h5
  · rw [ep, e28, e34, e35]
    rw [e16] at h2
    rw [e33] at h5
    exact hX.2.2 a b h1 h2 h3 h4 h5
def md_mo_addObject : List rec := [(904, 905, 19, 20), (918, 919, 0, 100000), (919, 920, 0, 100000), (920, 921, 0, 100000), (925, 926, 0, 100000), (930, 931, 0, 100000)]
abbrev Q_mo_addObject (S : sS) (kind : Int) : pst := fun r S1 => HI S1 ∧ FR md_mo_addObject S S1 ∧ (∃ z : Int, r = some (iv z) ∧ (0 ≤ z ∧ z ≤ 23) ∧ (z = Xi S 904 19) ∧ (Xi S1 904 19 = Xi S 904 19 + 1) ∧ (Xi S1 918 (Xi S 904 19).toNat = kind ∧ Xi S1 919 (Xi S 904 19).toNat = 0) ∧ (∀ j : Nat, (j : Int) < Xi S 904 19 → Xi S1 918 j = Xi S 918 j ∧ Xi S1 919 j = Xi S 919 j ∧ Xi S1 920 j = Xi S 920 j) ∧ (TXM S1) ∧ (WYM S1))
set_option maxRecDepth 100000 in
theorem t_mo_addObject {S : sS} (hH : HI S) (kind : Int) (hkind : 0 ≤ kind ∧ kind ≤ 15) (h : Xi S 904 19 ≤ 23) (hk : kind < Xi S 904 16) (hX : TXM S) (hW : WYM S) (d : Nat) : Mt lay0 (d + 1) m_mo_addObject [.ref 904, iv kind] S (Q_mo_addObject S kind) := by
  refine Mt_R rfl rfl ?_
  have hF : FR md_mo_addObject S S := FR.rf
  have w1 : 0 ≤ Xi S 904 16 ∧ Xi S 904 16 ≤ 16 := hH.c _ _
  have w2 : 0 ≤ Xi S 904 19 ∧ Xi S 904 19 ≤ 24 := hH.c _ _
  have hc19 : 0 ≤ Xi S 904 19 ∧ Xi S 904 19 ≤ 24 := hH.c _ _
  have C32 : ∀ (n32 : Nat) (T1 : sS) (_ : HI T1) (_ : FR md_mo_addObject S T1) (v2 : Int), (0 ≤ v2 ∧ v2 ≤ 24) → (Xi T1 904 19 = Xi S 904 19) → (∀ j : Nat, (j : Int) < Xi S 904 19 → Xi T1 918 j = Xi S 918 j ∧ Xi T1 919 j = Xi S 919 j ∧ Xi T1 920 j = Xi S 920 j) → (Xi T1 918 (Xi S 904 19).toNat = kind ∧ Xi T1 919 (Xi S 904 19).toNat = 0) → (∀ j : Nat, (j : Int) < 12 * Xi S 904 19 → Xi T1 930 j = Xi S 930 j) → (WYM T1) → n32 = (25 - v2).toNat → Rl lay0 (d + 0) m_mo_addObject 32 [(0, .ref 904), (2, iv v2)] [] T1 (Q_mo_addObject S kind) := by
    intro n32
    induction n32 using Nat.strongRecOn with
    | ind n32 ih32 =>
      intro T1 hHT1 hFT1 v2 w3 w4 K32 E32 O32 W32 hm32
      have w5 : Xi T1 904 16 = Xi S 904 16 := hFT1.x _ _ rfl
      have w6 : 0 ≤ Xi T1 904 19 ∧ Xi T1 904 19 ≤ 24 := hHT1.c _ _
      have C61 : ∀ (n61 : Nat) (T2 : sS) (_ : HI T2) (_ : FR md_mo_addObject S T2) (v2 : Int), (0 ≤ v2 ∧ v2 ≤ 12) → (Xi T2 904 19 = Xi S 904 19) → (∀ j : Nat, (j : Int) < Xi S 904 19 → Xi T2 918 j = Xi S 918 j ∧ Xi T2 919 j = Xi S 919 j ∧ Xi T2 920 j = Xi S 920 j) → (Xi T2 918 (Xi S 904 19).toNat = kind ∧ Xi T2 919 (Xi S 904 19).toNat = 0) → (∀ j : Nat, (j : Int) < 12 * Xi S 904 19 → Xi T2 930 j = Xi S 930 j) → (WYM T2) → (∀ p : Int, 0 ≤ p → p < v2 → Xi T2 930 (12 * Xi S 904 19 + p).toNat = 0) → n61 = (13 - v2).toNat → Rl lay0 (d + 0) m_mo_addObject 61 [(0, .ref 904), (2, iv v2)] [] T2 (Q_mo_addObject S kind) := by
        intro n61
        induction n61 using Nat.strongRecOn with
        | ind n61 ih61 =>
          intro T2 hHT2 hFT2 v2 w7 w8 K61 E61 O61 W61 Z61 hm61
          have w9 : Xi T2 904 16 = Xi S 904 16 := hFT2.x _ _ rfl
          have w10 : 0 ≤ Xi T2 904 19 ∧ Xi T2 904 19 ≤ 24 := hHT2.c _ _
          refine l_iload_n rfl rfl ?_
          refine l_bipush rfl rfl ?_
          refine l_icmp_ge rfl rfl (by unfold rg; omega) (by unfold rg; omega) (fun w11 => ?_) (fun w12 => ?_)
          · refine l_aload_n rfl rfl ?_
            refine l_dup rfl rfl ?_
            refine l_gfi rfl rfl rfl rfl rfl ?_
            refine l_iconst rfl ?_
            refine l_iadd rfl ?_
            refine l_pfi rfl rfl rfl rfl ?_
            obtain ⟨U3, eU3⟩ : ∃ T : sS, T = uI T2 904 19 (Int32.ofInt ((Xi T2 904 19) + 1)) := ⟨_, rfl⟩
            rw [← eU3]
            have hHU3 : HI U3 := by rw [eU3]; exact HI_w hHT2 (show 0 ≤ ((Xi T2 904 19) + 1) by omega) (show ((Xi T2 904 19) + 1) ≤ 24 by omega)
            have hFU3 : FR md_mo_addObject S U3 := by rw [eU3]; exact FR.wI hFT2 (mdf_i (r := (904, 905, 19, 20)) (List.mem_of_getElem? (i := 0) rfl) (inR_i (by omega) (by omega) (by omega) (by omega)))
            have w13 : Xi U3 904 19 = ((Xi T2 904 19) + 1) := by rw [eU3]; exact Xi_same (by unfold rg; omega)
            have k95 : ∀ j : Nat, (j : Int) < Xi S 904 19 → Xi U3 918 j = Xi S 918 j ∧ Xi U3 919 j = Xi S 919 j ∧ Xi U3 920 j = Xi S 920 j := fun j hj => by rw [eU3, Xi_ne (by omega), Xi_ne (by omega), Xi_ne (by omega)]; exact K61 j hj
            have e95 : Xi U3 918 (Xi S 904 19).toNat = kind ∧ Xi U3 919 (Xi S 904 19).toNat = 0 := ⟨by rw [eU3, Xi_ne (by omega)]; exact E61.1, by rw [eU3, Xi_ne (by omega)]; exact E61.2⟩
            have W95 : WYM U3 := WYM_FR (FR_e eU3) rfl W61
            have x95 : TXM U3 := txm_o (kind := kind) hX (by omega) (by omega) (fun j hj => (k95 j hj).1) e95.1 hk (fun j hj => by rw [eU3, Xi_ne (by omega)]; exact O61 j hj) (fun p a b => by rw [eU3, Xi_ne (by omega)]; exact Z61 p a (by omega)) (fun j => (hFU3.cx 928 rfl j).1) (fun j => (hFU3.cx 931 rfl j).1) (fun j => (hFU3.cx 932 rfl j).1) (fun j => (hFU3.cx 933 rfl j).1) (fun j => (hFU3.cx 934 rfl j).1) (fun j => (hFU3.cx 935 rfl j).1) (hFU3.x 904 16 rfl) (hFU3.x 904 32 rfl)
            refine l_aload_n rfl rfl ?_
            refine l_gfi rfl rfl rfl rfl rfl ?_
            refine l_iconst rfl ?_
            refine l_isub rfl ?_
            refine l_ireturn rfl rfl ?_
            have w14 : 0 ≤ Xi U3 904 19 ∧ Xi U3 904 19 ≤ 24 := hHU3.c _ _
            exact ⟨hHU3, hFU3, _, rfl, ⟨by omega, by omega⟩, (by omega), (by omega), (e95), (k95), (x95), (W95)⟩
          · refine l_aload_n rfl rfl ?_
            refine l_gfr rfl rfl rfl rfl rfl (hHT2.r 904 35 930 rfl) ?_
            refine l_bipush rfl rfl ?_
            refine l_aload_n rfl rfl ?_
            refine l_gfi rfl rfl rfl rfl rfl ?_
            refine l_imul rfl ?_
            refine l_iload_n rfl rfl ?_
            refine l_iadd rfl ?_
            refine l_iconst rfl ?_
            refine l_bastoreZ1 (n := 288) rfl rfl (by omega) (by omega) (by unfold rg; omega) ⟨by omega, by omega⟩ ?_
            obtain ⟨U4, eU4⟩ : ∃ T : sS, T = uI T2 930 ((((12 * (Xi T2 904 19)) + v2)).toNat) (Int32.ofInt 0) := ⟨_, rfl⟩
            rw [← eU4]
            have hHU4 : HI U4 := by rw [eU4]; exact HI_w hHT2 (show 0 ≤ 0 by omega) (show 0 ≤ 1 by omega)
            have hFU4 : FR md_mo_addObject S U4 := by rw [eU4]; exact FR.wI hFT2 (mdf_i (r := (930, 931, 0, 100000)) (List.mem_of_getElem? (i := 5) rfl) (inR_i (by omega) (by omega) (by omega) (by omega)))
            have w15 : Xi U4 930 ((((12 * (Xi T2 904 19)) + v2)).toNat) = 0 := by rw [eU4]; exact Xi_same (by unfold rg; omega)
            have k81 : ∀ j : Nat, (j : Int) < Xi S 904 19 → Xi U4 918 j = Xi S 918 j ∧ Xi U4 919 j = Xi S 919 j ∧ Xi U4 920 j = Xi S 920 j := fun j hj => by rw [eU4, Xi_ne (by omega), Xi_ne (by omega), Xi_ne (by omega)]; exact K61 j hj
            have e81 : Xi U4 918 (Xi S 904 19).toNat = kind ∧ Xi U4 919 (Xi S 904 19).toNat = 0 := ⟨by rw [eU4, Xi_ne (by omega)]; exact E61.1, by rw [eU4, Xi_ne (by omega)]; exact E61.2⟩
            have t81 : ∀ j : Nat, (j : Int) < 12 * Xi S 904 19 → Xi U4 930 j = Xi S 930 j := fun j hj => by rw [eU4, Xi_ne (by omega)]; exact O61 j hj
            have z81 : ∀ p : Int, 0 ≤ p → p < v2 + 1 → Xi U4 930 (12 * Xi S 904 19 + p).toNat = 0 := fun p a b => (by by_cases g : p = v2; (rw [g, show (12 * Xi S 904 19 + v2).toNat = (12 * Xi T2 904 19 + v2).toNat by omega]; assumption); (rw [eU4, Xi_ne (by omega)]; exact Z61 p a (by omega)))
            refine l_iinc rfl rfl rfl rfl ?_
            refine l_goto rfl rfl ?_
            have w16 : Xi U4 904 19 = Xi T2 904 19 := (show Xi U4 904 19 = Xi T2 904 19 from by rw [eU4]; exact Xi_ne (by omega))
            exact Rl_weak (ih61 _ (by omega) U4 hHU4 hFU4 ((v2 + 1)) (by omega) (by omega) (by first | exact k81 | exact K32) (by first | exact e81 | exact E32) (by first | exact t81 | exact O32) (by first | exact WYM_FR (FR_e eU4) rfl W61 | exact W32) (by first | exact z81 | exact fun p a b => absurd b (by omega)) rfl) (And.intro rfl (And.intro rfl (True.intro)))
      refine l_iload_n rfl rfl ?_
      refine l_bipush rfl rfl ?_
      refine l_icmp_ge rfl rfl (by unfold rg; omega) (by unfold rg; omega) (fun w18 => ?_) (fun w19 => ?_)
      · refine l_iconst rfl ?_
        refine l_istore_n rfl rfl rfl ?_
        exact Rl_weak (C61 _ T1 hHT1 hFT1 (0) (by omega) (by omega) (by first | exact k81 | exact K32) (by first | exact e81 | exact E32) (by first | exact t81 | exact O32) (by first | exact WYM_FR (FR_e rfl) rfl W61 | exact W32) (by first | exact z81 | exact fun p a b => absurd b (by omega)) rfl) (And.intro rfl (And.intro rfl (True.intro)))
      · refine l_aload_n rfl rfl ?_
        refine l_gfr rfl rfl rfl rfl rfl (hHT1.r 904 28 925 rfl) ?_
        refine l_bipush rfl rfl ?_
        refine l_aload_n rfl rfl ?_
        refine l_gfi rfl rfl rfl rfl rfl ?_
        refine l_imul rfl ?_
        refine l_iload_n rfl rfl ?_
        refine l_iadd rfl ?_
        refine l_iconst rfl ?_
        refine l_iastore (n := 576) rfl rfl (by omega) (by omega) (by unfold rg; omega) ?_
        obtain ⟨U5, eU5⟩ : ∃ T : sS, T = uI T1 925 ((((24 * (Xi T1 904 19)) + v2)).toNat) (Int32.ofInt 0) := ⟨_, rfl⟩
        rw [← eU5]
        have hHU5 : HI U5 := by rw [eU5]; exact HI_w hHT1 (show 0 ≤ 0 by omega) (show 0 ≤ 2 by omega)
        have hFU5 : FR md_mo_addObject S U5 := by rw [eU5]; exact FR.wI hFT1 (mdf_i (r := (925, 926, 0, 100000)) (List.mem_of_getElem? (i := 4) rfl) (inR_i (by omega) (by omega) (by omega) (by omega)))
        have w21 : Xi U5 925 ((((24 * (Xi T1 904 19)) + v2)).toNat) = 0 := by rw [eU5]; exact Xi_same (by unfold rg; omega)
        have k52 : ∀ j : Nat, (j : Int) < Xi S 904 19 → Xi U5 918 j = Xi S 918 j ∧ Xi U5 919 j = Xi S 919 j ∧ Xi U5 920 j = Xi S 920 j := fun j hj => by rw [eU5, Xi_ne (by omega), Xi_ne (by omega), Xi_ne (by omega)]; exact K32 j hj
        have e52 : Xi U5 918 (Xi S 904 19).toNat = kind ∧ Xi U5 919 (Xi S 904 19).toNat = 0 := ⟨by rw [eU5, Xi_ne (by omega)]; exact E32.1, by rw [eU5, Xi_ne (by omega)]; exact E32.2⟩
        have t52 : ∀ j : Nat, (j : Int) < 12 * Xi S 904 19 → Xi U5 930 j = Xi S 930 j := fun j hj => by rw [eU5, Xi_ne (by omega)]; exact O32 j hj
        refine l_iinc rfl rfl rfl rfl ?_
        refine l_goto rfl rfl ?_
        have w22 : Xi U5 904 19 = Xi T1 904 19 := (show Xi U5 904 19 = Xi T1 904 19 from by rw [eU5]; exact Xi_ne (by omega))
        exact Rl_weak (ih32 _ (by omega) U5 hHU5 hFU5 ((v2 + 1)) (by omega) (by omega) (by first | exact k52 | exact k29) (by first | exact e52 | exact e29) (by first | exact t52 | exact t29) (by first | exact WYM_FR (FR_e eU5) rfl W32 | exact W29) rfl) (And.intro rfl (And.intro rfl (True.intro)))
  refine l_aload_n rfl rfl ?_
  refine l_gfr rfl rfl rfl rfl rfl (hH.r 904 20 918 rfl) ?_
  refine l_aload_n rfl rfl ?_
  refine l_gfi rfl rfl rfl rfl rfl ?_
  refine l_iload_n rfl rfl ?_
  refine l_iastore (n := 24) rfl rfl (by omega) (by omega) (by unfold rg; omega) ?_
  obtain ⟨U6, eU6⟩ : ∃ T : sS, T = uI S 918 (((Xi S 904 19)).toNat) (Int32.ofInt kind) := ⟨_, rfl⟩
  rw [← eU6]
  have hHU6 : HI U6 := by rw [eU6]; exact HI_w hH (show 0 ≤ kind by omega) (show kind ≤ 15 by omega)
  have hFU6 : FR md_mo_addObject S U6 := by rw [eU6]; exact FR.wI hF (mdf_i (r := (918, 919, 0, 100000)) (List.mem_of_getElem? (i := 1) rfl) (inR_i (by omega) (by omega) (by omega) (by omega)))
  have w24 : Xi U6 918 (((Xi S 904 19)).toNat) = kind := by rw [eU6]; exact Xi_same (by unfold rg; omega)
  have k9 : ∀ j : Nat, (j : Int) < Xi S 904 19 → Xi U6 918 j = Xi S 918 j ∧ Xi U6 919 j = Xi S 919 j ∧ Xi U6 920 j = Xi S 920 j := fun j hj => by rw [eU6, Xi_ne (by omega), Xi_ne (by omega), Xi_ne (by omega)]; exact ⟨rfl, rfl, rfl⟩
  refine l_aload_n rfl rfl ?_
  refine l_gfr rfl rfl rfl rfl rfl (hHU6.r 904 21 919 rfl) ?_
  refine l_aload_n rfl rfl ?_
  refine l_gfi rfl rfl rfl rfl rfl ?_
  have w25 : (Xi U6 904 19) = (Xi S 904 19) := (show Xi U6 904 19 = Xi S 904 19 from by rw [eU6]; exact Xi_ne (by omega))
  rw [w25]
  refine l_iconst rfl ?_
  refine l_iastore (n := 24) rfl rfl (by omega) (by omega) (by unfold rg; omega) ?_
  obtain ⟨U7, eU7⟩ : ∃ T : sS, T = uI U6 919 (((Xi S 904 19)).toNat) (Int32.ofInt 0) := ⟨_, rfl⟩
  rw [← eU7]
  have hHU7 : HI U7 := by rw [eU7]; exact HI_w hHU6 (show 0 ≤ 0 by omega) (show 0 ≤ 5 by omega)
  have hFU7 : FR md_mo_addObject S U7 := by rw [eU7]; exact FR.wI hFU6 (mdf_i (r := (919, 920, 0, 100000)) (List.mem_of_getElem? (i := 2) rfl) (inR_i (by omega) (by omega) (by omega) (by omega)))
  have w26 : Xi U7 919 (((Xi S 904 19)).toNat) = 0 := by rw [eU7]; exact Xi_same (by unfold rg; omega)
  have k19 : ∀ j : Nat, (j : Int) < Xi S 904 19 → Xi U7 918 j = Xi S 918 j ∧ Xi U7 919 j = Xi S 919 j ∧ Xi U7 920 j = Xi S 920 j := fun j hj => by rw [eU7, Xi_ne (by omega), Xi_ne (by omega), Xi_ne (by omega)]; exact k9 j hj
  have e19 : Xi U7 918 (Xi S 904 19).toNat = kind := by rw [eU7, Xi_ne (by omega)]; assumption
  refine l_aload_n rfl rfl ?_
  refine l_gfr rfl rfl rfl rfl rfl (hHU7.r 904 22 920 rfl) ?_
  refine l_aload_n rfl rfl ?_
  refine l_gfi rfl rfl rfl rfl rfl ?_
  have w27 : (Xi U7 904 19) = (Xi S 904 19) := (show Xi U7 904 19 = Xi U6 904 19 from by rw [eU7]; exact Xi_ne (by omega)).trans ((show Xi U6 904 19 = Xi S 904 19 from by rw [eU6]; exact Xi_ne (by omega)))
  rw [w27]
  refine l_iconst rfl ?_
  refine l_iastore (n := 24) rfl rfl (by omega) (by omega) (by unfold rg; omega) ?_
  obtain ⟨U8, eU8⟩ : ∃ T : sS, T = uI U7 920 (((Xi S 904 19)).toNat) (Int32.ofInt (-1)) := ⟨_, rfl⟩
  rw [← eU8]
  have hHU8 : HI U8 := by rw [eU8]; exact HI_w hHU7 (show -1 ≤ (-1) by omega) (show (-1) ≤ 23 by omega)
  have hFU8 : FR md_mo_addObject S U8 := by rw [eU8]; exact FR.wI hFU7 (mdf_i (r := (920, 921, 0, 100000)) (List.mem_of_getElem? (i := 3) rfl) (inR_i (by omega) (by omega) (by omega) (by omega)))
  have w28 : Xi U8 920 (((Xi S 904 19)).toNat) = (-1) := by rw [eU8]; exact Xi_same (by unfold rg; omega)
  have k29 : ∀ j : Nat, (j : Int) < Xi S 904 19 → Xi U8 918 j = Xi S 918 j ∧ Xi U8 919 j = Xi S 919 j ∧ Xi U8 920 j = Xi S 920 j := fun j hj => by rw [eU8, Xi_ne (by omega), Xi_ne (by omega), Xi_ne (by omega)]; exact k19 j hj
  have e29 : Xi U8 918 (Xi S 904 19).toNat = kind ∧ Xi U8 919 (Xi S 904 19).toNat = 0 := ⟨by rw [eU8, Xi_ne (by omega)]; exact e19, by rw [eU8, Xi_ne (by omega)]; assumption⟩
  have t29 : ∀ j : Nat, (j : Int) < 12 * Xi S 904 19 → Xi U8 930 j = Xi S 930 j := fun j hj => by rw [eU8, Xi_ne (by omega), eU7, Xi_ne (by omega), eU6, Xi_ne (by omega)]
  have W29 : WYM U8 := fun o ho q => (by by_cases g : o = (Xi S 904 19).toNat; exact absurd (by rw [g]; exact e29.2) q; rw [show Xi U8 919 o = Xi S 919 o by rw [eU8, Xi_ne (by omega), eU7, Xi_ne (by omega), eU6, Xi_ne (by omega)]] at q; rw [eU8, Xi_ne (by omega), eU7, Xi_ne (by omega), eU6, Xi_ne (by omega)]; exact hW o ho q)
  refine l_iconst rfl ?_
  refine l_istore_n rfl rfl rfl ?_
  have w29 : Xi U8 904 19 = Xi S 904 19 := (show Xi U8 904 19 = Xi U7 904 19 from by rw [eU8]; exact Xi_ne (by omega)).trans ( (show Xi U7 904 19 = Xi U6 904 19 from by rw [eU7]; exact Xi_ne (by omega)).trans ((show Xi U6 904 19 = Xi S 904 19 from by rw [eU6]; exact Xi_ne (by omega))))
  exact Rl_weak (C32 _ U8 hHU8 hFU8 (0) (by omega) (by omega) (by first | exact k52 | exact k29) (by first | exact e52 | exact e29) (by first | exact t52 | exact t29) (by first | exact WYM_FR (FR_e eU8) rfl W32 | exact W29) rfl) (And.intro rfl (And.intro rfl (True.intro)))


