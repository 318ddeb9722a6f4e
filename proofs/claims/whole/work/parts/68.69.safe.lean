/-! SAFETY of methods: printed by wip/safe (vc.py, decl.py) -/
def DCM (S : sS) : Prop := ∀ a : Nat, (a : Int) < Xi S 904 23 → Xi S 924 a = 0 → Xi S 922 a ≠ -1
theorem DCM_FR {l : List rec} {S T : sS} (h : FR l S T) (e : (kdis l [(922, 923), (924, 925)] && mD l [23]) = true) (hC : DCM S) : DCM T := by
  rw [Bool.and_eq_true] at e
  have k := h.smk e.1
  unfold DCM
  rw [mD_x h e.2 23 (by decide)]
  simp only [k.x 922 rfl, k.x 924 rfl]
  exact hC
def md_mo_adjective : List rec := [(904, 905, 64, 65), (904, 905, 113, 114)]
abbrev Q_mo_adjective (S : sS) (t : Int) (m : Int) (kind : Int) (dfd : Int) (vls : Int) : pst := fun r S1 => HI S1 ∧ FR md_mo_adjective S S1 ∧ (∃ z : Int, r = some (iv z) ∧ (0 ≤ z ∧ z ≤ 12) ∧ (1 ≤ z → ADM S1 (Xi S1 904 113)) ∧ (1 ≤ z → dfd = 0 → Xi S1 904 113 < 100 → Xi S 922 (Xi S1 904 113).toNat ≠ -1))
set_option maxRecDepth 100000 in
theorem t_mo_adjective {S : sS} (hH : HI S) (t : Int) (m : Int) (kind : Int) (dfd : Int) (vls : Int) (ht : 0 ≤ t ∧ t ≤ 5001) (hm : -2147483648 ≤ m ∧ m ≤ 2147483647) (hkind : -1 ≤ kind ∧ kind ≤ 15) (hdfd : 0 ≤ dfd ∧ dfd ≤ 1) (hvls : 0 ≤ vls ∧ vls ≤ 1) (hn : m ≤ 3 → t + m ≤ 5002) (hM : LXM S) (hB : ABV S) (hC : DCM S) (d : Nat) : Mt lay0 (d + 3) m_mo_adjective [.ref 904, iv t, iv m, iv kind, iv dfd, iv vls] S (Q_mo_adjective S t m kind dfd vls) := by
  refine Mt_R rfl rfl ?_
  have hF : FR md_mo_adjective S S := FR.rf
  have hc3 : 0 ≤ Xi S 904 23 ∧ Xi S 904 23 ≤ 24 := hH.c _ _
  have hc19 : 0 ≤ Xi S 904 19 ∧ Xi S 904 19 ≤ 24 := hH.c _ _
  have hc32 : 0 ≤ Xi S 904 32 ∧ Xi S 904 32 ≤ 12 := hH.c _ _
  have hc30 : 0 ≤ Xi S 904 30 ∧ Xi S 904 30 ≤ 64 := hH.c _ _
  refine l_aload_n rfl rfl ?_
  refine l_iload_n rfl rfl ?_
  refine l_iload_n rfl rfl ?_
  have w1 : -1 ≤ Xi S 904 113 ∧ Xi S 904 113 ≤ 6411 := hH.c _ _
  have w2 : 0 ≤ Xi S 904 15 ∧ Xi S 904 15 ≤ 300 := hH.c _ _
  have w3 : 0 ≤ Xi S 904 23 ∧ Xi S 904 23 ≤ 24 := hH.c _ _
  have w4 : 0 ≤ Xi S 904 32 ∧ Xi S 904 32 ≤ 12 := hH.c _ _
  have w5 : 0 ≤ Xi S 904 64 ∧ Xi S 904 64 ≤ 12 := hH.c _ _
  refine l_callV rfl rfl rfl (t_mo_mean hH t m ⟨by omega, by omega⟩ ⟨by omega, by omega⟩ (by first | assumption | omega) _) ?_
  rintro _ _ ⟨rfl, z7, rfl, w7, w6⟩
  show Rl _ _ _ _ _ [iv z7] _ _
  refine l_istore rfl rfl rfl ?_
  refine l_aload_n rfl rfl ?_
  refine l_iconst rfl ?_
  refine l_pfi rfl rfl rfl rfl ?_
  obtain ⟨U1, eU1⟩ : ∃ T : sS, T = uI S 904 113 (Int32.ofInt (-1)) := ⟨_, rfl⟩
  rw [← eU1]
  have hHU1 : HI U1 := by rw [eU1]; exact HI_w hH (show -1 ≤ (-1) by omega) (show (-1) ≤ 6411 by omega)
  have hFU1 : FR md_mo_adjective S U1 := by rw [eU1]; exact FR.wI hF (mdf_i (r := (904, 905, 113, 114)) (List.mem_of_getElem? (i := 1) rfl) (inR_i (by omega) (by omega) (by omega) (by omega)))
  have w8 : Xi U1 904 113 = (-1) := by rw [eU1]; exact Xi_same (by unfold rg; omega)
  refine l_iload rfl rfl ?_
  refine l_iconst rfl ?_
  refine l_icmp_ne rfl rfl (by unfold rg; omega) (by unfold rg; omega) (fun w9 => ?_) (fun w10 => ?_)
  · refine l_aload_n rfl rfl ?_
    refine l_gfr rfl rfl rfl rfl rfl (hHU1.r 904 13 915 rfl) ?_
    refine l_iload rfl rfl ?_
    refine l_iaload (n := 300) rfl rfl (by omega) (by omega) (by unfold rg; omega) ?_
    have w11 : 0 ≤ (Xi U1 915 ((z7).toNat)) ∧ (Xi U1 915 ((z7).toNat)) ≤ 63 := hHU1.c _ _
    have M27 : LXM U1 := LXM_FR (FR_e eU1) rfl hM
    have y27 : Xi U1 904 23 = Xi S 904 23 ∧ Xi U1 904 30 = Xi S 904 30 ∧ Xi U1 904 15 = Xi S 904 15 := ⟨hFU1.x 904 23 rfl, hFU1.x 904 30 rfl, hFU1.x 904 15 rfl⟩
    have a27 : Xi U1 914 (z7).toNat = 5 → (Xi U1 915 ((z7).toNat)) < Xi S 904 23 := fun q => by have t := lxm (s := 5) M27 (k := z7) (by omega) (by omega) q; rw [cM5] at t; omega
    have b27 : Xi U1 914 (z7).toNat = 6 → (Xi U1 915 ((z7).toNat)) < Xi S 904 30 := fun q => by have t := lxm (s := 6) M27 (k := z7) (by omega) (by omega) q; rw [cM6] at t; omega
    refine l_istore rfl rfl rfl ?_
    refine l_aload_n rfl rfl ?_
    refine l_gfr rfl rfl rfl rfl rfl (hHU1.r 904 12 914 rfl) ?_
    refine l_iload rfl rfl ?_
    refine l_iaload (n := 300) rfl rfl (by omega) (by omega) (by unfold rg; omega) ?_
    have w12 : 0 ≤ (Xi U1 914 ((z7).toNat)) ∧ (Xi U1 914 ((z7).toNat)) ≤ 12 := hHU1.c _ _
    refine l_iconst rfl ?_
    refine l_icmp_ne rfl rfl (by unfold rg; omega) (by unfold rg; omega) (fun w13 => ?_) (fun w14 => ?_)
    · refine l_aload_n rfl rfl ?_
      refine l_gfr rfl rfl rfl rfl rfl (hHU1.r 904 12 914 rfl) ?_
      refine l_iload rfl rfl ?_
      refine l_iaload (n := 300) rfl rfl (by omega) (by omega) (by unfold rg; omega) ?_
      refine l_bipush rfl rfl ?_
      refine l_icmp_ne rfl rfl (by unfold rg; omega) (by unfold rg; omega) (fun w15 => ?_) (fun w16 => ?_)
      · refine l_iconst rfl ?_
        refine l_ireturn rfl rfl ?_
        have w17 : -1 ≤ Xi U1 904 113 ∧ Xi U1 904 113 ≤ 6411 := hHU1.c _ _
        have w18 : Xi U1 904 23 = Xi S 904 23 := (show Xi U1 904 23 = Xi S 904 23 from by rw [eU1]; exact Xi_ne (by omega))
        have w19 : 0 ≤ Xi S 904 23 ∧ Xi S 904 23 ≤ 24 := hH.c _ _
        have w20 : Xi U1 904 32 = Xi S 904 32 := (show Xi U1 904 32 = Xi S 904 32 from by rw [eU1]; exact Xi_ne (by omega))
        have w21 : 0 ≤ Xi S 904 32 ∧ Xi S 904 32 ≤ 12 := hH.c _ _
        have w22 : Xi U1 904 64 = Xi S 904 64 := (show Xi U1 904 64 = Xi S 904 64 from by rw [eU1]; exact Xi_ne (by omega))
        have w23 : 0 ≤ Xi S 904 64 ∧ Xi S 904 64 ≤ 12 := hH.c _ _
        exact ⟨hHU1, hFU1, _, rfl, ⟨by omega, by omega⟩, (fun q => by first | (exfalso; omega) | exact Or.inl ⟨by omega, by omega⟩ | exact Or.inr ⟨by omega, by omega, by omega⟩), (fun q q2 q3 => by first | (exfalso; omega) | (rw [x74]; exact c67 (by omega)))⟩
      · refine l_iload rfl rfl ?_
        refine l_if_eq rfl rfl (by unfold rg; omega) (fun w24 => ?_) (fun w25 => ?_)
        · refine l_iconst rfl ?_
          refine l_ireturn rfl rfl ?_
          have w26 : -1 ≤ Xi U1 904 113 ∧ Xi U1 904 113 ≤ 6411 := hHU1.c _ _
          have w27 : Xi U1 904 23 = Xi S 904 23 := (show Xi U1 904 23 = Xi S 904 23 from by rw [eU1]; exact Xi_ne (by omega))
          have w28 : 0 ≤ Xi S 904 23 ∧ Xi S 904 23 ≤ 24 := hH.c _ _
          have w29 : Xi U1 904 32 = Xi S 904 32 := (show Xi U1 904 32 = Xi S 904 32 from by rw [eU1]; exact Xi_ne (by omega))
          have w30 : 0 ≤ Xi S 904 32 ∧ Xi S 904 32 ≤ 12 := hH.c _ _
          have w31 : Xi U1 904 64 = Xi S 904 64 := (show Xi U1 904 64 = Xi S 904 64 from by rw [eU1]; exact Xi_ne (by omega))
          have w32 : 0 ≤ Xi S 904 64 ∧ Xi S 904 64 ≤ 12 := hH.c _ _
          exact ⟨hHU1, hFU1, _, rfl, ⟨by omega, by omega⟩, (fun q => by first | (exfalso; omega) | exact Or.inl ⟨by omega, by omega⟩ | exact Or.inr ⟨by omega, by omega, by omega⟩), (fun q q2 q3 => by first | (exfalso; omega) | (rw [x74]; exact c67 (by omega)))⟩
        · refine l_aload_n rfl rfl ?_
          refine l_iload_n rfl rfl ?_
          refine l_aload_n rfl rfl ?_
          refine l_gfr rfl rfl rfl rfl rfl (hHU1.r 904 31 927 rfl) ?_
          refine l_iload rfl rfl ?_
          refine l_iaload (n := 64) rfl rfl (by omega) (by omega) (by unfold rg; omega) ?_
          have w33 : 0 ≤ (Xi U1 927 (((Xi U1 915 ((z7).toNat))).toNat)) ∧ (Xi U1 927 (((Xi U1 915 ((z7).toNat))).toNat)) ≤ 7 := hHU1.c _ _
          have w34 : -1 ≤ Xi U1 904 113 ∧ Xi U1 904 113 ≤ 6411 := hHU1.c _ _
          have w35 : Xi U1 904 23 = Xi S 904 23 := (show Xi U1 904 23 = Xi S 904 23 from by rw [eU1]; exact Xi_ne (by omega))
          have w36 : 0 ≤ Xi S 904 23 ∧ Xi S 904 23 ≤ 24 := hH.c _ _
          have w37 : Xi U1 904 32 = Xi S 904 32 := (show Xi U1 904 32 = Xi S 904 32 from by rw [eU1]; exact Xi_ne (by omega))
          have w38 : 0 ≤ Xi S 904 32 ∧ Xi S 904 32 ≤ 12 := hH.c _ _
          have w39 : Xi U1 904 64 = Xi S 904 64 := (show Xi U1 904 64 = Xi S 904 64 from by rw [eU1]; exact Xi_ne (by omega))
          have w40 : 0 ≤ Xi S 904 64 ∧ Xi S 904 64 ≤ 12 := hH.c _ _
          refine l_callV rfl rfl rfl (t_mo_propertyOf hHU1 kind (Xi U1 927 (((Xi U1 915 ((z7).toNat))).toNat)) ⟨by omega, by omega⟩ ⟨by omega, by omega⟩ (by first | assumption | exact (ABV_FR hFU1 rfl (by assumption : ABV S))) _) ?_
          rintro _ T2 ⟨hHT2, w45, z44, rfl, w44, w41, w42, w43⟩
          have hFT2 : FR md_mo_adjective S T2 := FR.tr hFU1 w45 rfl
          show Rl _ _ _ _ _ [iv z44] _ _
          refine l_istore rfl rfl rfl ?_
          refine l_aload_n rfl rfl ?_
          refine l_iload rfl rfl ?_
          refine l_iconst rfl ?_
          refine l_icmp_ne rfl rfl (by unfold rg; omega) (by unfold rg; omega) (fun w46 => ?_) (fun w47 => ?_)
          · refine l_bipush rfl rfl ?_
            refine l_bipush rfl rfl ?_
            refine l_iload rfl rfl ?_
            refine l_imul rfl ?_
            refine l_iadd rfl ?_
            refine l_iload rfl rfl ?_
            refine l_iadd rfl ?_
            refine l_pfi rfl rfl rfl rfl ?_
            obtain ⟨U3, eU3⟩ : ∃ T : sS, T = uI T2 904 113 (Int32.ofInt ((100 + (100 * (Xi U1 915 ((z7).toNat)))) + z44)) := ⟨_, rfl⟩
            rw [← eU3]
            have hHU3 : HI U3 := by rw [eU3]; exact HI_w hHT2 (show -1 ≤ ((100 + (100 * (Xi U1 915 ((z7).toNat)))) + z44) by omega) (show ((100 + (100 * (Xi U1 915 ((z7).toNat)))) + z44) ≤ 6411 by omega)
            have hFU3 : FR md_mo_adjective S U3 := by rw [eU3]; exact FR.wI hFT2 (mdf_i (r := (904, 905, 113, 114)) (List.mem_of_getElem? (i := 1) rfl) (inR_i (by omega) (by omega) (by omega) (by omega)))
            have w48 : Xi U3 904 113 = ((100 + (100 * (Xi U1 915 ((z7).toNat)))) + z44) := by rw [eU3]; exact Xi_same (by unfold rg; omega)
            have z132 : Xi U3 904 32 = Xi S 904 32 := hFU3.x 904 32 rfl
            have v132 : Xi U3 904 64 = Xi T2 904 64 := by rw [eU3, Xi_ne (by omega)]
            refine l_aload_n rfl rfl ?_
            refine l_gfi rfl rfl rfl rfl rfl ?_
            have w49 : 0 ≤ (Xi U3 904 64) ∧ (Xi U3 904 64) ≤ 12 := hHU3.c _ _
            refine l_ireturn rfl rfl ?_
            have w50 : -1 ≤ Xi U3 904 113 ∧ Xi U3 904 113 ≤ 6411 := hHU3.c _ _
            have w51 : Xi U3 904 23 = Xi S 904 23 := (show Xi U3 904 23 = Xi T2 904 23 from by rw [eU3]; exact Xi_ne (by omega)).trans ( (show Xi T2 904 23 = Xi U1 904 23 from w45.x _ _ rfl).trans ((show Xi U1 904 23 = Xi S 904 23 from by rw [eU1]; exact Xi_ne (by omega))))
            have w52 : 0 ≤ Xi S 904 23 ∧ Xi S 904 23 ≤ 24 := hH.c _ _
            have w53 : Xi U3 904 32 = Xi S 904 32 := (show Xi U3 904 32 = Xi T2 904 32 from by rw [eU3]; exact Xi_ne (by omega)).trans ( (show Xi T2 904 32 = Xi U1 904 32 from w45.x _ _ rfl).trans ((show Xi U1 904 32 = Xi S 904 32 from by rw [eU1]; exact Xi_ne (by omega))))
            have w54 : 0 ≤ Xi S 904 32 ∧ Xi S 904 32 ≤ 12 := hH.c _ _
            have w55 : Xi U3 904 64 = Xi T2 904 64 := (show Xi U3 904 64 = Xi T2 904 64 from by rw [eU3]; exact Xi_ne (by omega))
            have w56 : 0 ≤ Xi T2 904 64 ∧ Xi T2 904 64 ≤ 12 := hHT2.c _ _
            exact ⟨hHU3, hFU3, _, rfl, ⟨by omega, by omega⟩, (fun q => by first | (exfalso; omega) | exact Or.inl ⟨by omega, by omega⟩ | exact Or.inr ⟨by omega, by omega, by omega⟩), (fun q q2 q3 => by first | (exfalso; omega) | (rw [x74]; exact c67 (by omega)))⟩
          · refine l_iconst rfl ?_
            refine l_goto rfl rfl ?_
            refine l_pfi rfl rfl rfl rfl ?_
            obtain ⟨U4, eU4⟩ : ∃ T : sS, T = uI T2 904 113 (Int32.ofInt (-1)) := ⟨_, rfl⟩
            rw [← eU4]
            have hHU4 : HI U4 := by rw [eU4]; exact HI_w hHT2 (show -1 ≤ (-1) by omega) (show (-1) ≤ 6411 by omega)
            have hFU4 : FR md_mo_adjective S U4 := by rw [eU4]; exact FR.wI hFT2 (mdf_i (r := (904, 905, 113, 114)) (List.mem_of_getElem? (i := 1) rfl) (inR_i (by omega) (by omega) (by omega) (by omega)))
            have w57 : Xi U4 904 113 = (-1) := by rw [eU4]; exact Xi_same (by unfold rg; omega)
            have z132 : Xi U4 904 32 = Xi S 904 32 := hFU4.x 904 32 rfl
            have v132 : Xi U4 904 64 = Xi T2 904 64 := by rw [eU4, Xi_ne (by omega)]
            refine l_aload_n rfl rfl ?_
            refine l_gfi rfl rfl rfl rfl rfl ?_
            have w58 : 0 ≤ (Xi U4 904 64) ∧ (Xi U4 904 64) ≤ 12 := hHU4.c _ _
            refine l_ireturn rfl rfl ?_
            have w59 : -1 ≤ Xi U4 904 113 ∧ Xi U4 904 113 ≤ 6411 := hHU4.c _ _
            have w60 : Xi U4 904 23 = Xi S 904 23 := (show Xi U4 904 23 = Xi T2 904 23 from by rw [eU4]; exact Xi_ne (by omega)).trans ( (show Xi T2 904 23 = Xi U1 904 23 from w45.x _ _ rfl).trans ((show Xi U1 904 23 = Xi S 904 23 from by rw [eU1]; exact Xi_ne (by omega))))
            have w61 : 0 ≤ Xi S 904 23 ∧ Xi S 904 23 ≤ 24 := hH.c _ _
            have w62 : Xi U4 904 32 = Xi S 904 32 := (show Xi U4 904 32 = Xi T2 904 32 from by rw [eU4]; exact Xi_ne (by omega)).trans ( (show Xi T2 904 32 = Xi U1 904 32 from w45.x _ _ rfl).trans ((show Xi U1 904 32 = Xi S 904 32 from by rw [eU1]; exact Xi_ne (by omega))))
            have w63 : 0 ≤ Xi S 904 32 ∧ Xi S 904 32 ≤ 12 := hH.c _ _
            have w64 : Xi U4 904 64 = Xi T2 904 64 := (show Xi U4 904 64 = Xi T2 904 64 from by rw [eU4]; exact Xi_ne (by omega))
            have w65 : 0 ≤ Xi T2 904 64 ∧ Xi T2 904 64 ≤ 12 := hHT2.c _ _
            exact ⟨hHU4, hFU4, _, rfl, ⟨by omega, by omega⟩, (fun q => by first | (exfalso; omega) | exact Or.inl ⟨by omega, by omega⟩ | exact Or.inr ⟨by omega, by omega, by omega⟩), (fun q q2 q3 => by first | (exfalso; omega) | (rw [x74]; exact c67 (by omega)))⟩
    · refine l_aload_n rfl rfl ?_
      refine l_iload_n rfl rfl ?_
      refine l_aload_n rfl rfl ?_
      refine l_gfr rfl rfl rfl rfl rfl (hHU1.r 904 24 921 rfl) ?_
      refine l_iload rfl rfl ?_
      refine l_iaload (n := 24) rfl rfl (by omega) (by omega) (by unfold rg; omega) ?_
      have w66 : 0 ≤ (Xi U1 921 (((Xi U1 915 ((z7).toNat))).toNat)) ∧ (Xi U1 921 (((Xi U1 915 ((z7).toNat))).toNat)) ≤ 15 := hHU1.c _ _
      have w67 : -1 ≤ Xi U1 904 113 ∧ Xi U1 904 113 ≤ 6411 := hHU1.c _ _
      have w68 : Xi U1 904 23 = Xi S 904 23 := (show Xi U1 904 23 = Xi S 904 23 from by rw [eU1]; exact Xi_ne (by omega))
      have w69 : 0 ≤ Xi S 904 23 ∧ Xi S 904 23 ≤ 24 := hH.c _ _
      have w70 : Xi U1 904 32 = Xi S 904 32 := (show Xi U1 904 32 = Xi S 904 32 from by rw [eU1]; exact Xi_ne (by omega))
      have w71 : 0 ≤ Xi S 904 32 ∧ Xi S 904 32 ≤ 12 := hH.c _ _
      have w72 : Xi U1 904 64 = Xi S 904 64 := (show Xi U1 904 64 = Xi S 904 64 from by rw [eU1]; exact Xi_ne (by omega))
      have w73 : 0 ≤ Xi S 904 64 ∧ Xi S 904 64 ≤ 12 := hH.c _ _
      refine l_callV rfl rfl rfl (t_mo_isBelow hHU1 kind (Xi U1 921 (((Xi U1 915 ((z7).toNat))).toNat)) ⟨by omega, by omega⟩ ⟨by omega, by omega⟩ (by first | assumption | exact (ABV_FR hFU1 rfl (by assumption : ABV S))) _) ?_
      rintro _ _ ⟨rfl, z75, rfl, w75, w74⟩
      show Rl _ _ _ _ _ [iv z75] _ _
      refine l_if_eq rfl rfl (by unfold rg; omega) (fun w76 => ?_) (fun w77 => ?_)
      · refine l_aload_n rfl rfl ?_
        refine l_gfr rfl rfl rfl rfl rfl (hHU1.r 904 12 914 rfl) ?_
        refine l_iload rfl rfl ?_
        refine l_iaload (n := 300) rfl rfl (by omega) (by omega) (by unfold rg; omega) ?_
        refine l_bipush rfl rfl ?_
        refine l_icmp_ne rfl rfl (by unfold rg; omega) (by unfold rg; omega) (fun w78 => ?_) (fun w79 => ?_)
        · refine l_iconst rfl ?_
          refine l_ireturn rfl rfl ?_
          have w80 : -1 ≤ Xi U1 904 113 ∧ Xi U1 904 113 ≤ 6411 := hHU1.c _ _
          have w81 : Xi U1 904 23 = Xi S 904 23 := (show Xi U1 904 23 = Xi S 904 23 from by rw [eU1]; exact Xi_ne (by omega))
          have w82 : 0 ≤ Xi S 904 23 ∧ Xi S 904 23 ≤ 24 := hH.c _ _
          have w83 : Xi U1 904 32 = Xi S 904 32 := (show Xi U1 904 32 = Xi S 904 32 from by rw [eU1]; exact Xi_ne (by omega))
          have w84 : 0 ≤ Xi S 904 32 ∧ Xi S 904 32 ≤ 12 := hH.c _ _
          have w85 : Xi U1 904 64 = Xi S 904 64 := (show Xi U1 904 64 = Xi S 904 64 from by rw [eU1]; exact Xi_ne (by omega))
          have w86 : 0 ≤ Xi S 904 64 ∧ Xi S 904 64 ≤ 12 := hH.c _ _
          exact ⟨hHU1, hFU1, _, rfl, ⟨by omega, by omega⟩, (fun q => by first | (exfalso; omega) | exact Or.inl ⟨by omega, by omega⟩ | exact Or.inr ⟨by omega, by omega, by omega⟩), (fun q q2 q3 => by first | (exfalso; omega) | (rw [x74]; exact c67 (by omega)))⟩
        · refine l_iload rfl rfl ?_
          refine l_if_eq rfl rfl (by unfold rg; omega) (fun w87 => ?_) (fun w88 => ?_)
          · refine l_iconst rfl ?_
            refine l_ireturn rfl rfl ?_
            have w89 : -1 ≤ Xi U1 904 113 ∧ Xi U1 904 113 ≤ 6411 := hHU1.c _ _
            have w90 : Xi U1 904 23 = Xi S 904 23 := (show Xi U1 904 23 = Xi S 904 23 from by rw [eU1]; exact Xi_ne (by omega))
            have w91 : 0 ≤ Xi S 904 23 ∧ Xi S 904 23 ≤ 24 := hH.c _ _
            have w92 : Xi U1 904 32 = Xi S 904 32 := (show Xi U1 904 32 = Xi S 904 32 from by rw [eU1]; exact Xi_ne (by omega))
            have w93 : 0 ≤ Xi S 904 32 ∧ Xi S 904 32 ≤ 12 := hH.c _ _
            have w94 : Xi U1 904 64 = Xi S 904 64 := (show Xi U1 904 64 = Xi S 904 64 from by rw [eU1]; exact Xi_ne (by omega))
            have w95 : 0 ≤ Xi S 904 64 ∧ Xi S 904 64 ≤ 12 := hH.c _ _
            exact ⟨hHU1, hFU1, _, rfl, ⟨by omega, by omega⟩, (fun q => by first | (exfalso; omega) | exact Or.inl ⟨by omega, by omega⟩ | exact Or.inr ⟨by omega, by omega, by omega⟩), (fun q q2 q3 => by first | (exfalso; omega) | (rw [x74]; exact c67 (by omega)))⟩
          · refine l_aload_n rfl rfl ?_
            refine l_iload_n rfl rfl ?_
            refine l_aload_n rfl rfl ?_
            refine l_gfr rfl rfl rfl rfl rfl (hHU1.r 904 31 927 rfl) ?_
            refine l_iload rfl rfl ?_
            refine l_iaload (n := 64) rfl rfl (by omega) (by omega) (by unfold rg; omega) ?_
            have w96 : 0 ≤ (Xi U1 927 (((Xi U1 915 ((z7).toNat))).toNat)) ∧ (Xi U1 927 (((Xi U1 915 ((z7).toNat))).toNat)) ≤ 7 := hHU1.c _ _
            have w97 : -1 ≤ Xi U1 904 113 ∧ Xi U1 904 113 ≤ 6411 := hHU1.c _ _
            have w98 : Xi U1 904 23 = Xi S 904 23 := (show Xi U1 904 23 = Xi S 904 23 from by rw [eU1]; exact Xi_ne (by omega))
            have w99 : 0 ≤ Xi S 904 23 ∧ Xi S 904 23 ≤ 24 := hH.c _ _
            have w100 : Xi U1 904 32 = Xi S 904 32 := (show Xi U1 904 32 = Xi S 904 32 from by rw [eU1]; exact Xi_ne (by omega))
            have w101 : 0 ≤ Xi S 904 32 ∧ Xi S 904 32 ≤ 12 := hH.c _ _
            have w102 : Xi U1 904 64 = Xi S 904 64 := (show Xi U1 904 64 = Xi S 904 64 from by rw [eU1]; exact Xi_ne (by omega))
            have w103 : 0 ≤ Xi S 904 64 ∧ Xi S 904 64 ≤ 12 := hH.c _ _
            refine l_callV rfl rfl rfl (t_mo_propertyOf hHU1 kind (Xi U1 927 (((Xi U1 915 ((z7).toNat))).toNat)) ⟨by omega, by omega⟩ ⟨by omega, by omega⟩ (by first | assumption | exact (ABV_FR hFU1 rfl (by assumption : ABV S))) _) ?_
            rintro _ T5 ⟨hHT5, w108, z107, rfl, w107, w104, w105, w106⟩
            have hFT5 : FR md_mo_adjective S T5 := FR.tr hFU1 w108 rfl
            show Rl _ _ _ _ _ [iv z107] _ _
            refine l_istore rfl rfl rfl ?_
            refine l_aload_n rfl rfl ?_
            refine l_iload rfl rfl ?_
            refine l_iconst rfl ?_
            refine l_icmp_ne rfl rfl (by unfold rg; omega) (by unfold rg; omega) (fun w109 => ?_) (fun w110 => ?_)
            · refine l_bipush rfl rfl ?_
              refine l_bipush rfl rfl ?_
              refine l_iload rfl rfl ?_
              refine l_imul rfl ?_
              refine l_iadd rfl ?_
              refine l_iload rfl rfl ?_
              refine l_iadd rfl ?_
              refine l_pfi rfl rfl rfl rfl ?_
              obtain ⟨U6, eU6⟩ : ∃ T : sS, T = uI T5 904 113 (Int32.ofInt ((100 + (100 * (Xi U1 915 ((z7).toNat)))) + z107)) := ⟨_, rfl⟩
              rw [← eU6]
              have hHU6 : HI U6 := by rw [eU6]; exact HI_w hHT5 (show -1 ≤ ((100 + (100 * (Xi U1 915 ((z7).toNat)))) + z107) by omega) (show ((100 + (100 * (Xi U1 915 ((z7).toNat)))) + z107) ≤ 6411 by omega)
              have hFU6 : FR md_mo_adjective S U6 := by rw [eU6]; exact FR.wI hFT5 (mdf_i (r := (904, 905, 113, 114)) (List.mem_of_getElem? (i := 1) rfl) (inR_i (by omega) (by omega) (by omega) (by omega)))
              have w111 : Xi U6 904 113 = ((100 + (100 * (Xi U1 915 ((z7).toNat)))) + z107) := by rw [eU6]; exact Xi_same (by unfold rg; omega)
              have z132 : Xi U6 904 32 = Xi S 904 32 := hFU6.x 904 32 rfl
              have v132 : Xi U6 904 64 = Xi T5 904 64 := by rw [eU6, Xi_ne (by omega)]
              refine l_aload_n rfl rfl ?_
              refine l_gfi rfl rfl rfl rfl rfl ?_
              have w112 : 0 ≤ (Xi U6 904 64) ∧ (Xi U6 904 64) ≤ 12 := hHU6.c _ _
              refine l_ireturn rfl rfl ?_
              have w113 : -1 ≤ Xi U6 904 113 ∧ Xi U6 904 113 ≤ 6411 := hHU6.c _ _
              have w114 : Xi U6 904 23 = Xi S 904 23 := (show Xi U6 904 23 = Xi T5 904 23 from by rw [eU6]; exact Xi_ne (by omega)).trans ( (show Xi T5 904 23 = Xi U1 904 23 from w108.x _ _ rfl).trans ((show Xi U1 904 23 = Xi S 904 23 from by rw [eU1]; exact Xi_ne (by omega))))
              have w115 : 0 ≤ Xi S 904 23 ∧ Xi S 904 23 ≤ 24 := hH.c _ _
              have w116 : Xi U6 904 32 = Xi S 904 32 := (show Xi U6 904 32 = Xi T5 904 32 from by rw [eU6]; exact Xi_ne (by omega)).trans ( (show Xi T5 904 32 = Xi U1 904 32 from w108.x _ _ rfl).trans ((show Xi U1 904 32 = Xi S 904 32 from by rw [eU1]; exact Xi_ne (by omega))))
              have w117 : 0 ≤ Xi S 904 32 ∧ Xi S 904 32 ≤ 12 := hH.c _ _
              have w118 : Xi U6 904 64 = Xi T5 904 64 := (show Xi U6 904 64 = Xi T5 904 64 from by rw [eU6]; exact Xi_ne (by omega))
              have w119 : 0 ≤ Xi T5 904 64 ∧ Xi T5 904 64 ≤ 12 := hHT5.c _ _
              exact ⟨hHU6, hFU6, _, rfl, ⟨by omega, by omega⟩, (fun q => by first | (exfalso; omega) | exact Or.inl ⟨by omega, by omega⟩ | exact Or.inr ⟨by omega, by omega, by omega⟩), (fun q q2 q3 => by first | (exfalso; omega) | (rw [x74]; exact c67 (by omega)))⟩
            · refine l_iconst rfl ?_
              refine l_goto rfl rfl ?_
              refine l_pfi rfl rfl rfl rfl ?_
              obtain ⟨U7, eU7⟩ : ∃ T : sS, T = uI T5 904 113 (Int32.ofInt (-1)) := ⟨_, rfl⟩
              rw [← eU7]
              have hHU7 : HI U7 := by rw [eU7]; exact HI_w hHT5 (show -1 ≤ (-1) by omega) (show (-1) ≤ 6411 by omega)
              have hFU7 : FR md_mo_adjective S U7 := by rw [eU7]; exact FR.wI hFT5 (mdf_i (r := (904, 905, 113, 114)) (List.mem_of_getElem? (i := 1) rfl) (inR_i (by omega) (by omega) (by omega) (by omega)))
              have w120 : Xi U7 904 113 = (-1) := by rw [eU7]; exact Xi_same (by unfold rg; omega)
              have z132 : Xi U7 904 32 = Xi S 904 32 := hFU7.x 904 32 rfl
              have v132 : Xi U7 904 64 = Xi T5 904 64 := by rw [eU7, Xi_ne (by omega)]
              refine l_aload_n rfl rfl ?_
              refine l_gfi rfl rfl rfl rfl rfl ?_
              have w121 : 0 ≤ (Xi U7 904 64) ∧ (Xi U7 904 64) ≤ 12 := hHU7.c _ _
              refine l_ireturn rfl rfl ?_
              have w122 : -1 ≤ Xi U7 904 113 ∧ Xi U7 904 113 ≤ 6411 := hHU7.c _ _
              have w123 : Xi U7 904 23 = Xi S 904 23 := (show Xi U7 904 23 = Xi T5 904 23 from by rw [eU7]; exact Xi_ne (by omega)).trans ( (show Xi T5 904 23 = Xi U1 904 23 from w108.x _ _ rfl).trans ((show Xi U1 904 23 = Xi S 904 23 from by rw [eU1]; exact Xi_ne (by omega))))
              have w124 : 0 ≤ Xi S 904 23 ∧ Xi S 904 23 ≤ 24 := hH.c _ _
              have w125 : Xi U7 904 32 = Xi S 904 32 := (show Xi U7 904 32 = Xi T5 904 32 from by rw [eU7]; exact Xi_ne (by omega)).trans ( (show Xi T5 904 32 = Xi U1 904 32 from w108.x _ _ rfl).trans ((show Xi U1 904 32 = Xi S 904 32 from by rw [eU1]; exact Xi_ne (by omega))))
              have w126 : 0 ≤ Xi S 904 32 ∧ Xi S 904 32 ≤ 12 := hH.c _ _
              have w127 : Xi U7 904 64 = Xi T5 904 64 := (show Xi U7 904 64 = Xi T5 904 64 from by rw [eU7]; exact Xi_ne (by omega))
              have w128 : 0 ≤ Xi T5 904 64 ∧ Xi T5 904 64 ≤ 12 := hHT5.c _ _
              exact ⟨hHU7, hFU7, _, rfl, ⟨by omega, by omega⟩, (fun q => by first | (exfalso; omega) | exact Or.inl ⟨by omega, by omega⟩ | exact Or.inr ⟨by omega, by omega, by omega⟩), (fun q q2 q3 => by first | (exfalso; omega) | (rw [x74]; exact c67 (by omega)))⟩
      · refine l_iload rfl rfl ?_
        refine l_if_ne rfl rfl (by unfold rg; omega) (fun w129 => ?_) (fun w130 => ?_)
        · refine l_aload_n rfl rfl ?_
          refine l_iload rfl rfl ?_
          refine l_pfi rfl rfl rfl rfl ?_
          obtain ⟨U8, eU8⟩ : ∃ T : sS, T = uI U1 904 113 (Int32.ofInt (Xi U1 915 ((z7).toNat))) := ⟨_, rfl⟩
          rw [← eU8]
          have hHU8 : HI U8 := by rw [eU8]; exact HI_w hHU1 (show -1 ≤ (Xi U1 915 ((z7).toNat)) by omega) (show (Xi U1 915 ((z7).toNat)) ≤ 6411 by omega)
          have hFU8 : FR md_mo_adjective S U8 := by rw [eU8]; exact FR.wI hFU1 (mdf_i (r := (904, 905, 113, 114)) (List.mem_of_getElem? (i := 1) rfl) (inR_i (by omega) (by omega) (by omega) (by omega)))
          have w131 : Xi U8 904 113 = (Xi U1 915 ((z7).toNat)) := by rw [eU8]; exact Xi_same (by unfold rg; omega)
          have x74 : Xi U8 904 113 = (Xi U1 915 ((z7).toNat)) := by omega
          have z74 : Xi U8 904 23 = Xi S 904 23 := hFU8.x 904 23 rfl
          refine l_iconst rfl ?_
          refine l_ireturn rfl rfl ?_
          have w132 : -1 ≤ Xi U8 904 113 ∧ Xi U8 904 113 ≤ 6411 := hHU8.c _ _
          have w133 : Xi U8 904 23 = Xi S 904 23 := (show Xi U8 904 23 = Xi U1 904 23 from by rw [eU8]; exact Xi_ne (by omega)).trans ((show Xi U1 904 23 = Xi S 904 23 from by rw [eU1]; exact Xi_ne (by omega)))
          have w134 : 0 ≤ Xi S 904 23 ∧ Xi S 904 23 ≤ 24 := hH.c _ _
          have w135 : Xi U8 904 32 = Xi S 904 32 := (show Xi U8 904 32 = Xi U1 904 32 from by rw [eU8]; exact Xi_ne (by omega)).trans ((show Xi U1 904 32 = Xi S 904 32 from by rw [eU1]; exact Xi_ne (by omega)))
          have w136 : 0 ≤ Xi S 904 32 ∧ Xi S 904 32 ≤ 12 := hH.c _ _
          have w137 : Xi U8 904 64 = Xi S 904 64 := (show Xi U8 904 64 = Xi U1 904 64 from by rw [eU8]; exact Xi_ne (by omega)).trans ((show Xi U1 904 64 = Xi S 904 64 from by rw [eU1]; exact Xi_ne (by omega)))
          have w138 : 0 ≤ Xi S 904 64 ∧ Xi S 904 64 ≤ 12 := hH.c _ _
          exact ⟨hHU8, hFU8, _, rfl, ⟨by omega, by omega⟩, (fun q => by first | (exfalso; omega) | exact Or.inl ⟨by omega, by omega⟩ | exact Or.inr ⟨by omega, by omega, by omega⟩), (fun q q2 q3 => by first | (exfalso; omega) | (rw [x74]; exact c67 (by omega)))⟩
        · refine l_aload_n rfl rfl ?_
          refine l_gfr rfl rfl rfl rfl rfl (hHU1.r 904 27 924 rfl) ?_
          refine l_iload rfl rfl ?_
          refine l_iaload (n := 24) rfl rfl (by omega) (by omega) (by unfold rg; omega) ?_
          have w139 : 0 ≤ (Xi U1 924 (((Xi U1 915 ((z7).toNat))).toNat)) ∧ (Xi U1 924 (((Xi U1 915 ((z7).toNat))).toNat)) ≤ 6 := hHU1.c _ _
          have d67 : (Xi U1 924 (((Xi U1 915 ((z7).toNat))).toNat)) = Xi S 924 ((Xi U1 915 ((z7).toNat))).toNat := by first | rfl | exact (hFU1.cx 924 rfl _).1
          have c67 : (Xi U1 924 (((Xi U1 915 ((z7).toNat))).toNat)) = 0 → Xi S 922 ((Xi U1 915 ((z7).toNat))).toNat ≠ -1 := fun q => hC ((Xi U1 915 ((z7).toNat))).toNat (by omega) (by omega)
          refine l_if_ne rfl rfl (by unfold rg; omega) (fun w140 => ?_) (fun w141 => ?_)
          · refine l_aload_n rfl rfl ?_
            refine l_gfr rfl rfl rfl rfl rfl (hHU1.r 904 12 914 rfl) ?_
            refine l_iload rfl rfl ?_
            refine l_iaload (n := 300) rfl rfl (by omega) (by omega) (by unfold rg; omega) ?_
            refine l_bipush rfl rfl ?_
            refine l_icmp_ne rfl rfl (by unfold rg; omega) (by unfold rg; omega) (fun w142 => ?_) (fun w143 => ?_)
            · refine l_iconst rfl ?_
              refine l_ireturn rfl rfl ?_
              have w144 : -1 ≤ Xi U1 904 113 ∧ Xi U1 904 113 ≤ 6411 := hHU1.c _ _
              have w145 : Xi U1 904 23 = Xi S 904 23 := (show Xi U1 904 23 = Xi S 904 23 from by rw [eU1]; exact Xi_ne (by omega))
              have w146 : 0 ≤ Xi S 904 23 ∧ Xi S 904 23 ≤ 24 := hH.c _ _
              have w147 : Xi U1 904 32 = Xi S 904 32 := (show Xi U1 904 32 = Xi S 904 32 from by rw [eU1]; exact Xi_ne (by omega))
              have w148 : 0 ≤ Xi S 904 32 ∧ Xi S 904 32 ≤ 12 := hH.c _ _
              have w149 : Xi U1 904 64 = Xi S 904 64 := (show Xi U1 904 64 = Xi S 904 64 from by rw [eU1]; exact Xi_ne (by omega))
              have w150 : 0 ≤ Xi S 904 64 ∧ Xi S 904 64 ≤ 12 := hH.c _ _
              exact ⟨hHU1, hFU1, _, rfl, ⟨by omega, by omega⟩, (fun q => by first | (exfalso; omega) | exact Or.inl ⟨by omega, by omega⟩ | exact Or.inr ⟨by omega, by omega, by omega⟩), (fun q q2 q3 => by first | (exfalso; omega) | (rw [x74]; exact c67 (by omega)))⟩
            · refine l_iload rfl rfl ?_
              refine l_if_eq rfl rfl (by unfold rg; omega) (fun w151 => ?_) (fun w152 => ?_)
              · refine l_iconst rfl ?_
                refine l_ireturn rfl rfl ?_
                have w153 : -1 ≤ Xi U1 904 113 ∧ Xi U1 904 113 ≤ 6411 := hHU1.c _ _
                have w154 : Xi U1 904 23 = Xi S 904 23 := (show Xi U1 904 23 = Xi S 904 23 from by rw [eU1]; exact Xi_ne (by omega))
                have w155 : 0 ≤ Xi S 904 23 ∧ Xi S 904 23 ≤ 24 := hH.c _ _
                have w156 : Xi U1 904 32 = Xi S 904 32 := (show Xi U1 904 32 = Xi S 904 32 from by rw [eU1]; exact Xi_ne (by omega))
                have w157 : 0 ≤ Xi S 904 32 ∧ Xi S 904 32 ≤ 12 := hH.c _ _
                have w158 : Xi U1 904 64 = Xi S 904 64 := (show Xi U1 904 64 = Xi S 904 64 from by rw [eU1]; exact Xi_ne (by omega))
                have w159 : 0 ≤ Xi S 904 64 ∧ Xi S 904 64 ≤ 12 := hH.c _ _
                exact ⟨hHU1, hFU1, _, rfl, ⟨by omega, by omega⟩, (fun q => by first | (exfalso; omega) | exact Or.inl ⟨by omega, by omega⟩ | exact Or.inr ⟨by omega, by omega, by omega⟩), (fun q q2 q3 => by first | (exfalso; omega) | (rw [x74]; exact c67 (by omega)))⟩
              · refine l_aload_n rfl rfl ?_
                refine l_iload_n rfl rfl ?_
                refine l_aload_n rfl rfl ?_
                refine l_gfr rfl rfl rfl rfl rfl (hHU1.r 904 31 927 rfl) ?_
                refine l_iload rfl rfl ?_
                refine l_iaload (n := 64) rfl rfl (by omega) (by omega) (by unfold rg; omega) ?_
                have w160 : 0 ≤ (Xi U1 927 (((Xi U1 915 ((z7).toNat))).toNat)) ∧ (Xi U1 927 (((Xi U1 915 ((z7).toNat))).toNat)) ≤ 7 := hHU1.c _ _
                have w161 : -1 ≤ Xi U1 904 113 ∧ Xi U1 904 113 ≤ 6411 := hHU1.c _ _
                have w162 : Xi U1 904 23 = Xi S 904 23 := (show Xi U1 904 23 = Xi S 904 23 from by rw [eU1]; exact Xi_ne (by omega))
                have w163 : 0 ≤ Xi S 904 23 ∧ Xi S 904 23 ≤ 24 := hH.c _ _
                have w164 : Xi U1 904 32 = Xi S 904 32 := (show Xi U1 904 32 = Xi S 904 32 from by rw [eU1]; exact Xi_ne (by omega))
                have w165 : 0 ≤ Xi S 904 32 ∧ Xi S 904 32 ≤ 12 := hH.c _ _
                have w166 : Xi U1 904 64 = Xi S 904 64 := (show Xi U1 904 64 = Xi S 904 64 from by rw [eU1]; exact Xi_ne (by omega))
                have w167 : 0 ≤ Xi S 904 64 ∧ Xi S 904 64 ≤ 12 := hH.c _ _
                refine l_callV rfl rfl rfl (t_mo_propertyOf hHU1 kind (Xi U1 927 (((Xi U1 915 ((z7).toNat))).toNat)) ⟨by omega, by omega⟩ ⟨by omega, by omega⟩ (by first | assumption | exact (ABV_FR hFU1 rfl (by assumption : ABV S))) _) ?_
                rintro _ T9 ⟨hHT9, w172, z171, rfl, w171, w168, w169, w170⟩
                have hFT9 : FR md_mo_adjective S T9 := FR.tr hFU1 w172 rfl
                show Rl _ _ _ _ _ [iv z171] _ _
                refine l_istore rfl rfl rfl ?_
                refine l_aload_n rfl rfl ?_
                refine l_iload rfl rfl ?_
                refine l_iconst rfl ?_
                refine l_icmp_ne rfl rfl (by unfold rg; omega) (by unfold rg; omega) (fun w173 => ?_) (fun w174 => ?_)
                · refine l_bipush rfl rfl ?_
                  refine l_bipush rfl rfl ?_
                  refine l_iload rfl rfl ?_
                  refine l_imul rfl ?_
                  refine l_iadd rfl ?_
                  refine l_iload rfl rfl ?_
                  refine l_iadd rfl ?_
                  refine l_pfi rfl rfl rfl rfl ?_
                  obtain ⟨U10, eU10⟩ : ∃ T : sS, T = uI T9 904 113 (Int32.ofInt ((100 + (100 * (Xi U1 915 ((z7).toNat)))) + z171)) := ⟨_, rfl⟩
                  rw [← eU10]
                  have hHU10 : HI U10 := by rw [eU10]; exact HI_w hHT9 (show -1 ≤ ((100 + (100 * (Xi U1 915 ((z7).toNat)))) + z171) by omega) (show ((100 + (100 * (Xi U1 915 ((z7).toNat)))) + z171) ≤ 6411 by omega)
                  have hFU10 : FR md_mo_adjective S U10 := by rw [eU10]; exact FR.wI hFT9 (mdf_i (r := (904, 905, 113, 114)) (List.mem_of_getElem? (i := 1) rfl) (inR_i (by omega) (by omega) (by omega) (by omega)))
                  have w175 : Xi U10 904 113 = ((100 + (100 * (Xi U1 915 ((z7).toNat)))) + z171) := by rw [eU10]; exact Xi_same (by unfold rg; omega)
                  have z132 : Xi U10 904 32 = Xi S 904 32 := hFU10.x 904 32 rfl
                  have v132 : Xi U10 904 64 = Xi T9 904 64 := by rw [eU10, Xi_ne (by omega)]
                  refine l_aload_n rfl rfl ?_
                  refine l_gfi rfl rfl rfl rfl rfl ?_
                  have w176 : 0 ≤ (Xi U10 904 64) ∧ (Xi U10 904 64) ≤ 12 := hHU10.c _ _
                  refine l_ireturn rfl rfl ?_
                  have w177 : -1 ≤ Xi U10 904 113 ∧ Xi U10 904 113 ≤ 6411 := hHU10.c _ _
                  have w178 : Xi U10 904 23 = Xi S 904 23 := (show Xi U10 904 23 = Xi T9 904 23 from by rw [eU10]; exact Xi_ne (by omega)).trans ( (show Xi T9 904 23 = Xi U1 904 23 from w172.x _ _ rfl).trans ((show Xi U1 904 23 = Xi S 904 23 from by rw [eU1]; exact Xi_ne (by omega))))
                  have w179 : 0 ≤ Xi S 904 23 ∧ Xi S 904 23 ≤ 24 := hH.c _ _
                  have w180 : Xi U10 904 32 = Xi S 904 32 := (show Xi U10 904 32 = Xi T9 904 32 from by rw [eU10]; exact Xi_ne (by omega)).trans ( (show Xi T9 904 32 = Xi U1 904 32 from w172.x _ _ rfl).trans ((show Xi U1 904 32 = Xi S 904 32 from by rw [eU1]; exact Xi_ne (by omega))))
                  have w181 : 0 ≤ Xi S 904 32 ∧ Xi S 904 32 ≤ 12 := hH.c _ _
                  have w182 : Xi U10 904 64 = Xi T9 904 64 := (show Xi U10 904 64 = Xi T9 904 64 from by rw [eU10]; exact Xi_ne (by omega))
                  have w183 : 0 ≤ Xi T9 904 64 ∧ Xi T9 904 64 ≤ 12 := hHT9.c _ _
                  exact ⟨hHU10, hFU10, _, rfl, ⟨by omega, by omega⟩, (fun q => by first | (exfalso; omega) | exact Or.inl ⟨by omega, by omega⟩ | exact Or.inr ⟨by omega, by omega, by omega⟩), (fun q q2 q3 => by first | (exfalso; omega) | (rw [x74]; exact c67 (by omega)))⟩
                · refine l_iconst rfl ?_
                  refine l_goto rfl rfl ?_
                  refine l_pfi rfl rfl rfl rfl ?_
                  obtain ⟨U11, eU11⟩ : ∃ T : sS, T = uI T9 904 113 (Int32.ofInt (-1)) := ⟨_, rfl⟩
                  rw [← eU11]
                  have hHU11 : HI U11 := by rw [eU11]; exact HI_w hHT9 (show -1 ≤ (-1) by omega) (show (-1) ≤ 6411 by omega)
                  have hFU11 : FR md_mo_adjective S U11 := by rw [eU11]; exact FR.wI hFT9 (mdf_i (r := (904, 905, 113, 114)) (List.mem_of_getElem? (i := 1) rfl) (inR_i (by omega) (by omega) (by omega) (by omega)))
                  have w184 : Xi U11 904 113 = (-1) := by rw [eU11]; exact Xi_same (by unfold rg; omega)
                  have z132 : Xi U11 904 32 = Xi S 904 32 := hFU11.x 904 32 rfl
                  have v132 : Xi U11 904 64 = Xi T9 904 64 := by rw [eU11, Xi_ne (by omega)]
                  refine l_aload_n rfl rfl ?_
                  refine l_gfi rfl rfl rfl rfl rfl ?_
                  have w185 : 0 ≤ (Xi U11 904 64) ∧ (Xi U11 904 64) ≤ 12 := hHU11.c _ _
                  refine l_ireturn rfl rfl ?_
                  have w186 : -1 ≤ Xi U11 904 113 ∧ Xi U11 904 113 ≤ 6411 := hHU11.c _ _
                  have w187 : Xi U11 904 23 = Xi S 904 23 := (show Xi U11 904 23 = Xi T9 904 23 from by rw [eU11]; exact Xi_ne (by omega)).trans ( (show Xi T9 904 23 = Xi U1 904 23 from w172.x _ _ rfl).trans ((show Xi U1 904 23 = Xi S 904 23 from by rw [eU1]; exact Xi_ne (by omega))))
                  have w188 : 0 ≤ Xi S 904 23 ∧ Xi S 904 23 ≤ 24 := hH.c _ _
                  have w189 : Xi U11 904 32 = Xi S 904 32 := (show Xi U11 904 32 = Xi T9 904 32 from by rw [eU11]; exact Xi_ne (by omega)).trans ( (show Xi T9 904 32 = Xi U1 904 32 from w172.x _ _ rfl).trans ((show Xi U1 904 32 = Xi S 904 32 from by rw [eU1]; exact Xi_ne (by omega))))
                  have w190 : 0 ≤ Xi S 904 32 ∧ Xi S 904 32 ≤ 12 := hH.c _ _
                  have w191 : Xi U11 904 64 = Xi T9 904 64 := (show Xi U11 904 64 = Xi T9 904 64 from by rw [eU11]; exact Xi_ne (by omega))
                  have w192 : 0 ≤ Xi T9 904 64 ∧ Xi T9 904 64 ≤ 12 := hHT9.c _ _
                  exact ⟨hHU11, hFU11, _, rfl, ⟨by omega, by omega⟩, (fun q => by first | (exfalso; omega) | exact Or.inl ⟨by omega, by omega⟩ | exact Or.inr ⟨by omega, by omega, by omega⟩), (fun q q2 q3 => by first | (exfalso; omega) | (rw [x74]; exact c67 (by omega)))⟩
          · refine l_aload_n rfl rfl ?_
            refine l_iload rfl rfl ?_
            refine l_pfi rfl rfl rfl rfl ?_
            obtain ⟨U12, eU12⟩ : ∃ T : sS, T = uI U1 904 113 (Int32.ofInt (Xi U1 915 ((z7).toNat))) := ⟨_, rfl⟩
            rw [← eU12]
            have hHU12 : HI U12 := by rw [eU12]; exact HI_w hHU1 (show -1 ≤ (Xi U1 915 ((z7).toNat)) by omega) (show (Xi U1 915 ((z7).toNat)) ≤ 6411 by omega)
            have hFU12 : FR md_mo_adjective S U12 := by rw [eU12]; exact FR.wI hFU1 (mdf_i (r := (904, 905, 113, 114)) (List.mem_of_getElem? (i := 1) rfl) (inR_i (by omega) (by omega) (by omega) (by omega)))
            have w193 : Xi U12 904 113 = (Xi U1 915 ((z7).toNat)) := by rw [eU12]; exact Xi_same (by unfold rg; omega)
            have x74 : Xi U12 904 113 = (Xi U1 915 ((z7).toNat)) := by omega
            have z74 : Xi U12 904 23 = Xi S 904 23 := hFU12.x 904 23 rfl
            refine l_iconst rfl ?_
            refine l_ireturn rfl rfl ?_
            have w194 : -1 ≤ Xi U12 904 113 ∧ Xi U12 904 113 ≤ 6411 := hHU12.c _ _
            have w195 : Xi U12 904 23 = Xi S 904 23 := (show Xi U12 904 23 = Xi U1 904 23 from by rw [eU12]; exact Xi_ne (by omega)).trans ((show Xi U1 904 23 = Xi S 904 23 from by rw [eU1]; exact Xi_ne (by omega)))
            have w196 : 0 ≤ Xi S 904 23 ∧ Xi S 904 23 ≤ 24 := hH.c _ _
            have w197 : Xi U12 904 32 = Xi S 904 32 := (show Xi U12 904 32 = Xi U1 904 32 from by rw [eU12]; exact Xi_ne (by omega)).trans ((show Xi U1 904 32 = Xi S 904 32 from by rw [eU1]; exact Xi_ne (by omega)))
            have w198 : 0 ≤ Xi S 904 32 ∧ Xi S 904 32 ≤ 12 := hH.c _ _
            have w199 : Xi U12 904 64 = Xi S 904 64 := (show Xi U12 904 64 = Xi U1 904 64 from by rw [eU12]; exact Xi_ne (by omega)).trans ((show Xi U1 904 64 = Xi S 904 64 from by rw [eU1]; exact Xi_ne (by omega)))
            have w200 : 0 ≤ Xi S 904 64 ∧ Xi S 904 64 ≤ 12 := hH.c _ _
            exact ⟨hHU12, hFU12, _, rfl, ⟨by omega, by omega⟩, (fun q => by first | (exfalso; omega) | exact Or.inl ⟨by omega, by omega⟩ | exact Or.inr ⟨by omega, by omega, by omega⟩), (fun q q2 q3 => by first | (exfalso; omega) | (rw [x74]; exact c67 (by omega)))⟩
  · refine l_iconst rfl ?_
    refine l_ireturn rfl rfl ?_
    have w201 : -1 ≤ Xi U1 904 113 ∧ Xi U1 904 113 ≤ 6411 := hHU1.c _ _
    have w202 : Xi U1 904 23 = Xi S 904 23 := (show Xi U1 904 23 = Xi S 904 23 from by rw [eU1]; exact Xi_ne (by omega))
    have w203 : 0 ≤ Xi S 904 23 ∧ Xi S 904 23 ≤ 24 := hH.c _ _
    have w204 : Xi U1 904 32 = Xi S 904 32 := (show Xi U1 904 32 = Xi S 904 32 from by rw [eU1]; exact Xi_ne (by omega))
    have w205 : 0 ≤ Xi S 904 32 ∧ Xi S 904 32 ≤ 12 := hH.c _ _
    have w206 : Xi U1 904 64 = Xi S 904 64 := (show Xi U1 904 64 = Xi S 904 64 from by rw [eU1]; exact Xi_ne (by omega))
    have w207 : 0 ≤ Xi S 904 64 ∧ Xi S 904 64 ≤ 12 := hH.c _ _
    exact ⟨hHU1, hFU1, _, rfl, ⟨by omega, by omega⟩, (fun q => by first | (exfalso; omega) | exact Or.inl ⟨by omega, by omega⟩ | exact Or.inr ⟨by omega, by omega, by omega⟩), (fun q q2 q3 => by first | (exfalso; omega) | (rw [x74]; exact c67 (by omega)))⟩
