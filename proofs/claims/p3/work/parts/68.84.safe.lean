/-! SAFETY of methods: printed by wip/safe (vc.py, decl.py) -/
theorem LXK.t {S U1 U2 U3 U4 U5 U6 U7 U8 : sS} {L : Int} {v1 v2 v3 v4 v5 : Int32} {w1 w2 w3 : Int64} (h0 : 0 ≤ L) (e1 : U1 = uI S 912 L.toNat v1) (e2 : U2 = uJ U1 913 (3 * L).toNat w1) (e3 : U3 = uJ U2 913 (3 * L + 1).toNat w2) (e4 : U4 = uJ U3 913 (3 * L + 2).toNat w3) (e5 : U5 = uI U4 914 L.toNat v2) (e6 : U6 = uI U5 915 L.toNat v3) (e7 : U7 = uI U6 916 L.toNat v4) (e8 : U8 = uI U7 904 15 v5) : LXK U8 S L := fun k hk hl => by
  have hI : ∀ a b, (a = 912 ∨ a = 914 ∨ a = 915 ∨ a = 916) → b ≠ L.toNat → Xi U8 a b = Xi S a b := fun a b ha hb => by
    have q4 : Xi U4 a b = Xi U3 a b := by rw [e4]; rfl
    have q3 : Xi U3 a b = Xi U2 a b := by rw [e3]; rfl
    have q2 : Xi U2 a b = Xi U1 a b := by rw [e2]; rfl
    rw [e8, Xi_ne (by omega), e7, Xi_ne (by omega), e6, Xi_ne (by omega), e5, Xi_ne (by omega), q4, q3, q2, e1, Xi_ne (by omega)]
  have hJ : ∀ b, b ≠ (3 * L).toNat → b ≠ (3 * L + 1).toNat → b ≠ (3 * L + 2).toNat → Xj U8 913 b = Xj S 913 b := fun b x y z => by
    have q8 : Xj U8 913 b = Xj U7 913 b := by rw [e8]; rfl
    have q7 : Xj U7 913 b = Xj U6 913 b := by rw [e7]; rfl
    have q6 : Xj U6 913 b = Xj U5 913 b := by rw [e6]; rfl
    have q5 : Xj U5 913 b = Xj U4 913 b := by rw [e5]; rfl
    have q1 : Xj U1 913 b = Xj S 913 b := by rw [e1]; rfl
    rw [q8, q7, q6, q5, e4, Xj_ne (by omega), e3, Xj_ne (by omega), e2, Xj_ne (by omega), q1]
  exact ⟨hI 912 _ (by omega) (by omega), hJ _ (by omega) (by omega) (by omega), hJ _ (by omega) (by omega) (by omega), hJ _ (by omega) (by omega) (by omega), hI 916 _ (by omega) (by omega), hI 914 _ (by omega) (by omega), hI 915 _ (by omega) (by omega)⟩
def md_mo_tell : List rec := [(904, 905, 15, 16), (912, 913, 0, 100000), (913, 914, 0, 100000), (914, 915, 0, 100000), (915, 916, 0, 100000), (916, 917, 0, 100000)]
abbrev Q_mo_tell (S : sS) (so : Int) (ix : Int) (a : Int) (b : Int) (c : Int) (m : Int) : pst := fun r S1 => HI S1 ∧ FR md_mo_tell S S1 ∧ (r = none ∧ (Xi S1 904 15 = Xi S 904 15 + 1) ∧ (Xi S1 914 (Xi S 904 15).toNat = so ∧ Xi S1 915 (Xi S 904 15).toNat = ix) ∧ (LXK S1 S (Xi S 904 15)))
set_option maxRecDepth 100000 in
theorem t_mo_tell {S : sS} (hH : HI S) (so : Int) (ix : Int) (a : Int) (b : Int) (c : Int) (m : Int) (hso : 0 ≤ so ∧ so ≤ 12) (hix : 0 ≤ ix ∧ ix ≤ 63) (hm : 0 ≤ m ∧ m ≤ 3) (hle : Xi S 904 15 ≤ 299) (d : Nat) : Mt lay0 (d + 1) m_mo_tell [.ref 904, iv so, iv ix, jw a, jw b, jw c, iv m] S (Q_mo_tell S so ix a b c m) := by
  refine Mt_R rfl rfl ?_
  have hF : FR md_mo_tell S S := FR.rf
  have w1 : 0 ≤ Xi S 904 15 ∧ Xi S 904 15 ≤ 300 := hH.c _ _
  refine l_aload_n rfl rfl ?_
  refine l_gfr rfl rfl rfl rfl rfl (hH.r 904 10 912 rfl) ?_
  refine l_aload_n rfl rfl ?_
  refine l_gfi rfl rfl rfl rfl rfl ?_
  refine l_iload rfl rfl ?_
  refine l_iastore (n := 300) rfl rfl (by omega) (by omega) (by unfold rg; omega) ?_
  obtain ⟨U1, eU1⟩ : ∃ T : sS, T = uI S 912 (((Xi S 904 15)).toNat) (Int32.ofInt m) := ⟨_, rfl⟩
  rw [← eU1]
  have hHU1 : HI U1 := by rw [eU1]; exact HI_w hH (show 0 ≤ m by omega) (show m ≤ 3 by omega)
  have hFU1 : FR md_mo_tell S U1 := by rw [eU1]; exact FR.wI hF (mdf_i (r := (912, 913, 0, 100000)) (List.mem_of_getElem? (i := 1) rfl) (inR_i (by omega) (by omega) (by omega) (by omega)))
  have w2 : Xi U1 912 (((Xi S 904 15)).toNat) = m := by rw [eU1]; exact Xi_same (by unfold rg; omega)
  refine l_aload_n rfl rfl ?_
  refine l_gfr rfl rfl rfl rfl rfl (hHU1.r 904 11 913 rfl) ?_
  refine l_iconst rfl ?_
  refine l_aload_n rfl rfl ?_
  refine l_gfi rfl rfl rfl rfl rfl ?_
  have w3 : (Xi U1 904 15) = (Xi S 904 15) := (show Xi U1 904 15 = Xi S 904 15 from by rw [eU1]; exact Xi_ne (by omega))
  rw [w3]
  refine l_imul rfl ?_
  refine l_lload_n rfl rfl ?_
  refine l_lastore (n := 900) rfl rfl (by omega) (by omega) (by unfold rg; omega) ?_
  obtain ⟨U2, eU2⟩ : ∃ T : sS, T = uJ U1 913 (((3 * (Xi S 904 15))).toNat) (Int64.ofInt a) := ⟨_, rfl⟩
  rw [← eU2]
  have hHU2 : HI U2 := by rw [eU2]; exact HI_J hHU1
  have hFU2 : FR md_mo_tell S U2 := by rw [eU2]; exact FR.wJ hFU1 (mdf_i (r := (913, 914, 0, 100000)) (List.mem_of_getElem? (i := 2) rfl) (inR_i (by omega) (by omega) (by omega) (by omega)))
  refine l_aload_n rfl rfl ?_
  refine l_gfr rfl rfl rfl rfl rfl (hHU2.r 904 11 913 rfl) ?_
  refine l_iconst rfl ?_
  refine l_aload_n rfl rfl ?_
  refine l_gfi rfl rfl rfl rfl rfl ?_
  have w4 : (Xi U2 904 15) = (Xi S 904 15) := (show Xi U2 904 15 = Xi U1 904 15 from by rw [eU2]; rfl).trans ((show Xi U1 904 15 = Xi S 904 15 from by rw [eU1]; exact Xi_ne (by omega)))
  rw [w4]
  refine l_imul rfl ?_
  refine l_iconst rfl ?_
  refine l_iadd rfl ?_
  refine l_lload rfl rfl ?_
  refine l_lastore (n := 900) rfl rfl (by omega) (by omega) (by unfold rg; omega) ?_
  obtain ⟨U3, eU3⟩ : ∃ T : sS, T = uJ U2 913 ((((3 * (Xi S 904 15)) + 1)).toNat) (Int64.ofInt b) := ⟨_, rfl⟩
  rw [← eU3]
  have hHU3 : HI U3 := by rw [eU3]; exact HI_J hHU2
  have hFU3 : FR md_mo_tell S U3 := by rw [eU3]; exact FR.wJ hFU2 (mdf_i (r := (913, 914, 0, 100000)) (List.mem_of_getElem? (i := 2) rfl) (inR_i (by omega) (by omega) (by omega) (by omega)))
  refine l_aload_n rfl rfl ?_
  refine l_gfr rfl rfl rfl rfl rfl (hHU3.r 904 11 913 rfl) ?_
  refine l_iconst rfl ?_
  refine l_aload_n rfl rfl ?_
  refine l_gfi rfl rfl rfl rfl rfl ?_
  have w5 : (Xi U3 904 15) = (Xi S 904 15) := (show Xi U3 904 15 = Xi U2 904 15 from by rw [eU3]; rfl).trans ( (show Xi U2 904 15 = Xi U1 904 15 from by rw [eU2]; rfl).trans ((show Xi U1 904 15 = Xi S 904 15 from by rw [eU1]; exact Xi_ne (by omega))))
  rw [w5]
  refine l_imul rfl ?_
  refine l_iconst rfl ?_
  refine l_iadd rfl ?_
  refine l_lload rfl rfl ?_
  refine l_lastore (n := 900) rfl rfl (by omega) (by omega) (by unfold rg; omega) ?_
  obtain ⟨U4, eU4⟩ : ∃ T : sS, T = uJ U3 913 ((((3 * (Xi S 904 15)) + 2)).toNat) (Int64.ofInt c) := ⟨_, rfl⟩
  rw [← eU4]
  have hHU4 : HI U4 := by rw [eU4]; exact HI_J hHU3
  have hFU4 : FR md_mo_tell S U4 := by rw [eU4]; exact FR.wJ hFU3 (mdf_i (r := (913, 914, 0, 100000)) (List.mem_of_getElem? (i := 2) rfl) (inR_i (by omega) (by omega) (by omega) (by omega)))
  refine l_aload_n rfl rfl ?_
  refine l_gfr rfl rfl rfl rfl rfl (hHU4.r 904 12 914 rfl) ?_
  refine l_aload_n rfl rfl ?_
  refine l_gfi rfl rfl rfl rfl rfl ?_
  have w6 : (Xi U4 904 15) = (Xi S 904 15) := (show Xi U4 904 15 = Xi U3 904 15 from by rw [eU4]; rfl).trans ( (show Xi U3 904 15 = Xi U2 904 15 from by rw [eU3]; rfl).trans ( (show Xi U2 904 15 = Xi U1 904 15 from by rw [eU2]; rfl).trans ((show Xi U1 904 15 = Xi S 904 15 from by rw [eU1]; exact Xi_ne (by omega)))))
  rw [w6]
  refine l_iload_n rfl rfl ?_
  refine l_iastore (n := 300) rfl rfl (by omega) (by omega) (by unfold rg; omega) ?_
  obtain ⟨U5, eU5⟩ : ∃ T : sS, T = uI U4 914 (((Xi S 904 15)).toNat) (Int32.ofInt so) := ⟨_, rfl⟩
  rw [← eU5]
  have hHU5 : HI U5 := by rw [eU5]; exact HI_w hHU4 (show 0 ≤ so by omega) (show so ≤ 12 by omega)
  have hFU5 : FR md_mo_tell S U5 := by rw [eU5]; exact FR.wI hFU4 (mdf_i (r := (914, 915, 0, 100000)) (List.mem_of_getElem? (i := 3) rfl) (inR_i (by omega) (by omega) (by omega) (by omega)))
  have w7 : Xi U5 914 (((Xi S 904 15)).toNat) = so := by rw [eU5]; exact Xi_same (by unfold rg; omega)
  refine l_aload_n rfl rfl ?_
  refine l_gfr rfl rfl rfl rfl rfl (hHU5.r 904 13 915 rfl) ?_
  refine l_aload_n rfl rfl ?_
  refine l_gfi rfl rfl rfl rfl rfl ?_
  have w8 : (Xi U5 904 15) = (Xi S 904 15) := (show Xi U5 904 15 = Xi U4 904 15 from by rw [eU5]; exact Xi_ne (by omega)).trans ( (show Xi U4 904 15 = Xi U3 904 15 from by rw [eU4]; rfl).trans ( (show Xi U3 904 15 = Xi U2 904 15 from by rw [eU3]; rfl).trans ( (show Xi U2 904 15 = Xi U1 904 15 from by rw [eU2]; rfl).trans ((show Xi U1 904 15 = Xi S 904 15 from by rw [eU1]; exact Xi_ne (by omega))))))
  rw [w8]
  refine l_iload_n rfl rfl ?_
  refine l_iastore (n := 300) rfl rfl (by omega) (by omega) (by unfold rg; omega) ?_
  obtain ⟨U6, eU6⟩ : ∃ T : sS, T = uI U5 915 (((Xi S 904 15)).toNat) (Int32.ofInt ix) := ⟨_, rfl⟩
  rw [← eU6]
  have hHU6 : HI U6 := by rw [eU6]; exact HI_w hHU5 (show 0 ≤ ix by omega) (show ix ≤ 63 by omega)
  have hFU6 : FR md_mo_tell S U6 := by rw [eU6]; exact FR.wI hFU5 (mdf_i (r := (915, 916, 0, 100000)) (List.mem_of_getElem? (i := 4) rfl) (inR_i (by omega) (by omega) (by omega) (by omega)))
  have w9 : Xi U6 915 (((Xi S 904 15)).toNat) = ix := by rw [eU6]; exact Xi_same (by unfold rg; omega)
  refine l_aload_n rfl rfl ?_
  refine l_gfr rfl rfl rfl rfl rfl (hHU6.r 904 14 916 rfl) ?_
  refine l_aload_n rfl rfl ?_
  refine l_gfi rfl rfl rfl rfl rfl ?_
  have w10 : (Xi U6 904 15) = (Xi S 904 15) := (show Xi U6 904 15 = Xi U5 904 15 from by rw [eU6]; exact Xi_ne (by omega)).trans ( (show Xi U5 904 15 = Xi U4 904 15 from by rw [eU5]; exact Xi_ne (by omega)).trans ( (show Xi U4 904 15 = Xi U3 904 15 from by rw [eU4]; rfl).trans ( (show Xi U3 904 15 = Xi U2 904 15 from by rw [eU3]; rfl).trans ( (show Xi U2 904 15 = Xi U1 904 15 from by rw [eU2]; rfl).trans ((show Xi U1 904 15 = Xi S 904 15 from by rw [eU1]; exact Xi_ne (by omega)))))))
  rw [w10]
  refine l_iconst rfl ?_
  refine l_bastoreZ1 (n := 300) rfl rfl (by omega) (by omega) (by unfold rg; omega) ⟨by omega, by omega⟩ ?_
  obtain ⟨U7, eU7⟩ : ∃ T : sS, T = uI U6 916 (((Xi S 904 15)).toNat) (Int32.ofInt 0) := ⟨_, rfl⟩
  rw [← eU7]
  have hHU7 : HI U7 := by rw [eU7]; exact HI_w hHU6 (show 0 ≤ 0 by omega) (show 0 ≤ 1 by omega)
  have hFU7 : FR md_mo_tell S U7 := by rw [eU7]; exact FR.wI hFU6 (mdf_i (r := (916, 917, 0, 100000)) (List.mem_of_getElem? (i := 5) rfl) (inR_i (by omega) (by omega) (by omega) (by omega)))
  have w11 : Xi U7 916 (((Xi S 904 15)).toNat) = 0 := by rw [eU7]; exact Xi_same (by unfold rg; omega)
  refine l_aload_n rfl rfl ?_
  refine l_dup rfl rfl ?_
  refine l_gfi rfl rfl rfl rfl rfl ?_
  have w12 : (Xi U7 904 15) = (Xi S 904 15) := (show Xi U7 904 15 = Xi U6 904 15 from by rw [eU7]; exact Xi_ne (by omega)).trans ( (show Xi U6 904 15 = Xi U5 904 15 from by rw [eU6]; exact Xi_ne (by omega)).trans ( (show Xi U5 904 15 = Xi U4 904 15 from by rw [eU5]; exact Xi_ne (by omega)).trans ( (show Xi U4 904 15 = Xi U3 904 15 from by rw [eU4]; rfl).trans ( (show Xi U3 904 15 = Xi U2 904 15 from by rw [eU3]; rfl).trans ( (show Xi U2 904 15 = Xi U1 904 15 from by rw [eU2]; rfl).trans ((show Xi U1 904 15 = Xi S 904 15 from by rw [eU1]; exact Xi_ne (by omega))))))))
  rw [w12]
  refine l_iconst rfl ?_
  refine l_iadd rfl ?_
  refine l_pfi rfl rfl rfl rfl ?_
  obtain ⟨U8, eU8⟩ : ∃ T : sS, T = uI U7 904 15 (Int32.ofInt ((Xi S 904 15) + 1)) := ⟨_, rfl⟩
  rw [← eU8]
  have hHU8 : HI U8 := by rw [eU8]; exact HI_w hHU7 (show 0 ≤ ((Xi S 904 15) + 1) by omega) (show ((Xi S 904 15) + 1) ≤ 300 by omega)
  have hFU8 : FR md_mo_tell S U8 := by rw [eU8]; exact FR.wI hFU7 (mdf_i (r := (904, 905, 15, 16)) (List.mem_of_getElem? (i := 0) rfl) (inR_i (by omega) (by omega) (by omega) (by omega)))
  have w13 : Xi U8 904 15 = ((Xi S 904 15) + 1) := by rw [eU8]; exact Xi_same (by unfold rg; omega)
  refine l_return rfl rfl ?_
  have w14 : Xi U8 914 (Xi S 904 15).toNat = Xi U5 914 (Xi S 904 15).toNat := (show Xi U8 914 (Xi S 904 15).toNat = Xi U7 914 (Xi S 904 15).toNat from by rw [eU8]; exact Xi_ne (by omega)).trans ( (show Xi U7 914 (Xi S 904 15).toNat = Xi U6 914 (Xi S 904 15).toNat from by rw [eU7]; exact Xi_ne (by omega)).trans ((show Xi U6 914 (Xi S 904 15).toNat = Xi U5 914 (Xi S 904 15).toNat from by rw [eU6]; exact Xi_ne (by omega))))
  have w15 : Xi U8 915 (Xi S 904 15).toNat = Xi U6 915 (Xi S 904 15).toNat := (show Xi U8 915 (Xi S 904 15).toNat = Xi U7 915 (Xi S 904 15).toNat from by rw [eU8]; exact Xi_ne (by omega)).trans ((show Xi U7 915 (Xi S 904 15).toNat = Xi U6 915 (Xi S 904 15).toNat from by rw [eU7]; exact Xi_ne (by omega)))
  have w16 : 0 ≤ Xi U8 904 15 ∧ Xi U8 904 15 ≤ 300 := hHU8.c _ _
  exact ⟨hHU8, hFU8, rfl, (by omega), (by omega), (LXK.t (by omega) eU1 eU2 eU3 eU4 eU5 eU6 eU7 eU8)⟩
def md_mo_tellTokens : List rec := [(904, 905, 15, 16), (912, 913, 0, 100000), (913, 914, 0, 100000), (914, 915, 0, 100000), (915, 916, 0, 100000), (916, 917, 0, 100000)]
abbrev Q_mo_tellTokens (S : sS) (so : Int) (ix : Int) (t : Int) (m : Int) : pst := fun r S1 => HI S1 ∧ FR md_mo_tellTokens S S1 ∧ (r = none ∧ (Xi S1 904 15 = Xi S 904 15 + 1) ∧ (Xi S1 914 (Xi S 904 15).toNat = so ∧ Xi S1 915 (Xi S 904 15).toNat = ix) ∧ (LXK S1 S (Xi S 904 15)))
set_option maxRecDepth 100000 in
theorem t_mo_tellTokens {S : sS} (hH : HI S) (so : Int) (ix : Int) (t : Int) (m : Int) (hso : 0 ≤ so ∧ so ≤ 12) (hix : 0 ≤ ix ∧ ix ≤ 63) (ht : 0 ≤ t ∧ t ≤ 5001) (hm : 1 ≤ m ∧ m ≤ 3) (hle : Xi S 904 15 ≤ 299) (ht : t + m ≤ 5002) (d : Nat) : Mt lay0 (d + 2) m_mo_tellTokens [.ref 904, iv so, iv ix, iv t, iv m] S (Q_mo_tellTokens S so ix t m) := by
  refine Mt_R rfl rfl ?_
  have hF : FR md_mo_tellTokens S S := FR.rf
  have w1 : 0 ≤ Xi S 904 15 ∧ Xi S 904 15 ≤ 300 := hH.c _ _
  refine l_aload_n rfl rfl ?_
  refine l_iload_n rfl rfl ?_
  refine l_iload_n rfl rfl ?_
  refine l_aload_n rfl rfl ?_
  refine l_gfr rfl rfl rfl rfl rfl (hH.r 904 7 910 rfl) ?_
  refine l_iload_n rfl rfl ?_
  refine l_laload (n := 5002) rfl rfl (by omega) (by omega) (by unfold rg; omega) ?_
  have w2 : -9223372036854775808 ≤ (Xj S 910 ((t).toNat)) ∧ (Xj S 910 ((t).toNat)) < 9223372036854775808 := Xj_rg
  refine l_iload rfl rfl ?_
  refine l_iconst rfl ?_
  refine l_icmp_le rfl rfl (by unfold rg; omega) (by unfold rg; omega) (fun w3 => ?_) (fun w4 => ?_)
  · refine l_lconst (z := 0) rfl rfl ?_
    refine l_iload rfl rfl ?_
    refine l_iconst rfl ?_
    refine l_icmp_le rfl rfl (by unfold rg; omega) (by unfold rg; omega) (fun w5 => ?_) (fun w6 => ?_)
    · refine l_lconst (z := 0) rfl rfl ?_
      refine l_iload rfl rfl ?_
      have w7 : 0 ≤ Xi S 904 15 ∧ Xi S 904 15 ≤ 300 := hH.c _ _
      refine l_callV rfl rfl rfl (t_mo_tell hH so ix (Xj S 910 ((t).toNat)) 0 0 m ⟨by omega, by omega⟩ ⟨by omega, by omega⟩ ⟨by omega, by omega⟩ (by first | assumption | omega) _) ?_
      rintro _ T1 ⟨hHT1, w12, rfl, w8, w9, w10⟩
      have hFT1 : FR md_mo_tellTokens S T1 := FR.tr hF w12 rfl
      show Rl _ _ _ _ _ [] _ _
      refine l_return rfl rfl ?_
      have w13 : 0 ≤ Xi T1 904 15 ∧ Xi T1 904 15 ≤ 300 := hHT1.c _ _
      exact ⟨hHT1, hFT1, rfl, (by first | assumption | omega), (by first | assumption | omega), (by first | assumption | omega)⟩
    · refine l_aload_n rfl rfl ?_
      refine l_gfr rfl rfl rfl rfl rfl (hH.r 904 7 910 rfl) ?_
      refine l_iload_n rfl rfl ?_
      refine l_iconst rfl ?_
      refine l_iadd rfl ?_
      refine l_laload (n := 5002) rfl rfl (by omega) (by omega) (by unfold rg; omega) ?_
      have w14 : -9223372036854775808 ≤ (Xj S 910 (((t + 2)).toNat)) ∧ (Xj S 910 (((t + 2)).toNat)) < 9223372036854775808 := Xj_rg
      refine l_goto rfl rfl ?_
      refine l_iload rfl rfl ?_
      have w15 : 0 ≤ Xi S 904 15 ∧ Xi S 904 15 ≤ 300 := hH.c _ _
      refine l_callV rfl rfl rfl (t_mo_tell hH so ix (Xj S 910 ((t).toNat)) 0 (Xj S 910 (((t + 2)).toNat)) m ⟨by omega, by omega⟩ ⟨by omega, by omega⟩ ⟨by omega, by omega⟩ (by first | assumption | omega) _) ?_
      rintro _ T2 ⟨hHT2, w20, rfl, w16, w17, w18⟩
      have hFT2 : FR md_mo_tellTokens S T2 := FR.tr hF w20 rfl
      show Rl _ _ _ _ _ [] _ _
      refine l_return rfl rfl ?_
      have w21 : 0 ≤ Xi T2 904 15 ∧ Xi T2 904 15 ≤ 300 := hHT2.c _ _
      exact ⟨hHT2, hFT2, rfl, (by first | assumption | omega), (by first | assumption | omega), (by first | assumption | omega)⟩
  · refine l_aload_n rfl rfl ?_
    refine l_gfr rfl rfl rfl rfl rfl (hH.r 904 7 910 rfl) ?_
    refine l_iload_n rfl rfl ?_
    refine l_iconst rfl ?_
    refine l_iadd rfl ?_
    refine l_laload (n := 5002) rfl rfl (by omega) (by omega) (by unfold rg; omega) ?_
    have w22 : -9223372036854775808 ≤ (Xj S 910 (((t + 1)).toNat)) ∧ (Xj S 910 (((t + 1)).toNat)) < 9223372036854775808 := Xj_rg
    refine l_goto rfl rfl ?_
    refine l_iload rfl rfl ?_
    refine l_iconst rfl ?_
    refine l_icmp_le rfl rfl (by unfold rg; omega) (by unfold rg; omega) (fun w23 => ?_) (fun w24 => ?_)
    · refine l_lconst (z := 0) rfl rfl ?_
      refine l_iload rfl rfl ?_
      have w25 : 0 ≤ Xi S 904 15 ∧ Xi S 904 15 ≤ 300 := hH.c _ _
      refine l_callV rfl rfl rfl (t_mo_tell hH so ix (Xj S 910 ((t).toNat)) (Xj S 910 (((t + 1)).toNat)) 0 m ⟨by omega, by omega⟩ ⟨by omega, by omega⟩ ⟨by omega, by omega⟩ (by first | assumption | omega) _) ?_
      rintro _ T3 ⟨hHT3, w30, rfl, w26, w27, w28⟩
      have hFT3 : FR md_mo_tellTokens S T3 := FR.tr hF w30 rfl
      show Rl _ _ _ _ _ [] _ _
      refine l_return rfl rfl ?_
      have w31 : 0 ≤ Xi T3 904 15 ∧ Xi T3 904 15 ≤ 300 := hHT3.c _ _
      exact ⟨hHT3, hFT3, rfl, (by first | assumption | omega), (by first | assumption | omega), (by first | assumption | omega)⟩
    · refine l_aload_n rfl rfl ?_
      refine l_gfr rfl rfl rfl rfl rfl (hH.r 904 7 910 rfl) ?_
      refine l_iload_n rfl rfl ?_
      refine l_iconst rfl ?_
      refine l_iadd rfl ?_
      refine l_laload (n := 5002) rfl rfl (by omega) (by omega) (by unfold rg; omega) ?_
      have w32 : -9223372036854775808 ≤ (Xj S 910 (((t + 2)).toNat)) ∧ (Xj S 910 (((t + 2)).toNat)) < 9223372036854775808 := Xj_rg
      refine l_goto rfl rfl ?_
      refine l_iload rfl rfl ?_
      have w33 : 0 ≤ Xi S 904 15 ∧ Xi S 904 15 ≤ 300 := hH.c _ _
      refine l_callV rfl rfl rfl (t_mo_tell hH so ix (Xj S 910 ((t).toNat)) (Xj S 910 (((t + 1)).toNat)) (Xj S 910 (((t + 2)).toNat)) m ⟨by omega, by omega⟩ ⟨by omega, by omega⟩ ⟨by omega, by omega⟩ (by first | assumption | omega) _) ?_
      rintro _ T4 ⟨hHT4, w38, rfl, w34, w35, w36⟩
      have hFT4 : FR md_mo_tellTokens S T4 := FR.tr hF w38 rfl
      show Rl _ _ _ _ _ [] _ _
      refine l_return rfl rfl ?_
      have w39 : 0 ≤ Xi T4 904 15 ∧ Xi T4 904 15 ≤ 300 := hHT4.c _ _
      exact ⟨hHT4, hFT4, rfl, (by first | assumption | omega), (by first | assumption | omega), (by first | assumption | omega)⟩
def md_mo_tellRun : List rec := [(904, 905, 15, 16), (912, 913, 0, 100000), (913, 914, 0, 100000), (914, 915, 0, 100000), (915, 916, 0, 100000), (916, 917, 0, 100000)]
abbrev Q_mo_tellRun (S : sS) (n : Nat) (so : Int) (ix : Int) (rn : Int) : pst := fun r S1 => HI S1 ∧ FR md_mo_tellRun S S1 ∧ (r = none ∧ (Xi S1 904 15 = Xi S 904 15 + 1) ∧ (Xi S1 914 (Xi S 904 15).toNat = so ∧ Xi S1 915 (Xi S 904 15).toNat = ix) ∧ (LXK S1 S (Xi S 904 15)))
set_option maxRecDepth 100000 in
theorem t_mo_tellRun {S : sS} (hH : HI S) (n : Nat) (so : Int) (ix : Int) (rn : Int) (hso : 0 ≤ so ∧ so ≤ 12) (hix : 0 ≤ ix ∧ ix ≤ 63) (hrn : 0 ≤ rn ∧ rn ≤ 2599) (hT : TK S n) (hv : RNV S n) (hrr : rn < Xi S 904 69) (h3 : Xi S 951 rn.toNat ≤ 3) (hle : Xi S 904 15 ≤ 299) (d : Nat) : Mt lay0 (d + 3) m_mo_tellRun [.ref 904, iv so, iv ix, iv rn] S (Q_mo_tellRun S n so ix rn) := by
  refine Mt_R rfl rfl ?_
  have hF : FR md_mo_tellRun S S := FR.rf
  have w1 : 0 ≤ Xi S 904 15 ∧ Xi S 904 15 ≤ 300 := hH.c _ _
  have w2 : 0 ≤ Xi S 904 69 ∧ Xi S 904 69 ≤ 2600 := hH.c _ _
  have hn5 := hT.1
  have hq := hv rn.toNat (by omega)
  have hq0 : 0 ≤ Xi S 950 rn.toNat ∧ Xi S 950 rn.toNat ≤ 5010 := hH.c 950 rn.toNat
  have hc69 : 0 ≤ Xi S 904 69 ∧ Xi S 904 69 ≤ 2600 := hH.c _ _
  refine l_aload_n rfl rfl ?_
  refine l_iload_n rfl rfl ?_
  refine l_iload_n rfl rfl ?_
  refine l_aload_n rfl rfl ?_
  refine l_gfr rfl rfl rfl rfl rfl (hH.r 904 67 950 rfl) ?_
  refine l_iload_n rfl rfl ?_
  refine l_iaload (n := 2600) rfl rfl (by omega) (by omega) (by unfold rg; omega) ?_
  have w3 : 0 ≤ (Xi S 950 ((rn).toNat)) ∧ (Xi S 950 ((rn).toNat)) ≤ 5010 := hH.c _ _
  refine l_aload_n rfl rfl ?_
  refine l_gfr rfl rfl rfl rfl rfl (hH.r 904 68 951 rfl) ?_
  refine l_iload_n rfl rfl ?_
  refine l_iaload (n := 2600) rfl rfl (by omega) (by omega) (by unfold rg; omega) ?_
  have w4 : 0 ≤ (Xi S 951 ((rn).toNat)) ∧ (Xi S 951 ((rn).toNat)) ≤ 5010 := hH.c _ _
  have w5 : 0 ≤ Xi S 904 15 ∧ Xi S 904 15 ≤ 300 := hH.c _ _
  refine l_callV rfl rfl rfl (t_mo_tellTokens hH so ix (Xi S 950 ((rn).toNat)) (Xi S 951 ((rn).toNat)) ⟨by omega, by omega⟩ ⟨by omega, by omega⟩ ⟨by omega, by omega⟩ ⟨by omega, by omega⟩ (by first | assumption | omega) (by first | assumption | omega) _) ?_
  rintro _ T1 ⟨hHT1, w10, rfl, w6, w7, w8⟩
  have hFT1 : FR md_mo_tellRun S T1 := FR.tr hF w10 rfl
  show Rl _ _ _ _ _ [] _ _
  refine l_return rfl rfl ?_
  have w11 : 0 ≤ Xi T1 904 15 ∧ Xi T1 904 15 ≤ 300 := hHT1.c _ _
  exact ⟨hHT1, hFT1, rfl, (by first | assumption | omega), (by first | assumption | omega), (by first | assumption | omega)⟩
def md_mo_addAction : List rec := [(904, 905, 49, 50), (942, 943, 0, 100000)]
abbrev Q_mo_addAction (S : sS) (kind : Int) : pst := fun r S1 => HI S1 ∧ FR md_mo_addAction S S1 ∧ (∃ z : Int, r = some (iv z) ∧ (0 ≤ z ∧ z ≤ 11) ∧ (z = Xi S 904 49) ∧ (Xi S1 904 49 = Xi S 904 49 + 1) ∧ (Xi S1 942 (Xi S 904 49).toNat = kind ∧ ∀ j : Nat, (j : Int) < Xi S 904 49 → Xi S1 942 j = Xi S 942 j))
set_option maxRecDepth 100000 in
theorem t_mo_addAction {S : sS} (hH : HI S) (kind : Int) (hkind : -2 ≤ kind ∧ kind ≤ 15) (h : Xi S 904 49 ≤ 11) (d : Nat) : Mt lay0 (d + 1) m_mo_addAction [.ref 904, iv kind] S (Q_mo_addAction S kind) := by
  refine Mt_R rfl rfl ?_
  have hF : FR md_mo_addAction S S := FR.rf
  have w1 : 0 ≤ Xi S 904 49 ∧ Xi S 904 49 ≤ 12 := hH.c _ _
  refine l_aload_n rfl rfl ?_
  refine l_gfr rfl rfl rfl rfl rfl (hH.r 904 50 942 rfl) ?_
  refine l_aload_n rfl rfl ?_
  refine l_gfi rfl rfl rfl rfl rfl ?_
  refine l_iload_n rfl rfl ?_
  refine l_iastore (n := 12) rfl rfl (by omega) (by omega) (by unfold rg; omega) ?_
  obtain ⟨U1, eU1⟩ : ∃ T : sS, T = uI S 942 (((Xi S 904 49)).toNat) (Int32.ofInt kind) := ⟨_, rfl⟩
  rw [← eU1]
  have hHU1 : HI U1 := by rw [eU1]; exact HI_w hH (show -2 ≤ kind by omega) (show kind ≤ 15 by omega)
  have hFU1 : FR md_mo_addAction S U1 := by rw [eU1]; exact FR.wI hF (mdf_i (r := (942, 943, 0, 100000)) (List.mem_of_getElem? (i := 1) rfl) (inR_i (by omega) (by omega) (by omega) (by omega)))
  have w2 : Xi U1 942 (((Xi S 904 49)).toNat) = kind := by rw [eU1]; exact Xi_same (by unfold rg; omega)
  have o9 : ∀ j : Nat, (j : Int) < Xi S 904 49 → Xi U1 942 j = Xi S 942 j := fun j hj => by rw [eU1, Xi_ne (by omega)]
  refine l_aload_n rfl rfl ?_
  refine l_dup rfl rfl ?_
  refine l_gfi rfl rfl rfl rfl rfl ?_
  have w3 : (Xi U1 904 49) = (Xi S 904 49) := (show Xi U1 904 49 = Xi S 904 49 from by rw [eU1]; exact Xi_ne (by omega))
  rw [w3]
  refine l_iconst rfl ?_
  refine l_iadd rfl ?_
  refine l_pfi rfl rfl rfl rfl ?_
  obtain ⟨U2, eU2⟩ : ∃ T : sS, T = uI U1 904 49 (Int32.ofInt ((Xi S 904 49) + 1)) := ⟨_, rfl⟩
  rw [← eU2]
  have hHU2 : HI U2 := by rw [eU2]; exact HI_w hHU1 (show 0 ≤ ((Xi S 904 49) + 1) by omega) (show ((Xi S 904 49) + 1) ≤ 12 by omega)
  have hFU2 : FR md_mo_addAction S U2 := by rw [eU2]; exact FR.wI hFU1 (mdf_i (r := (904, 905, 49, 50)) (List.mem_of_getElem? (i := 0) rfl) (inR_i (by omega) (by omega) (by omega) (by omega)))
  have w4 : Xi U2 904 49 = ((Xi S 904 49) + 1) := by rw [eU2]; exact Xi_same (by unfold rg; omega)
  have o17 : ∀ j : Nat, (j : Int) < Xi S 904 49 → Xi U2 942 j = Xi S 942 j := fun j hj => by rw [eU2, Xi_ne (by omega)]; exact o9 j hj
  refine l_aload_n rfl rfl ?_
  refine l_gfi rfl rfl rfl rfl rfl ?_
  refine l_iconst rfl ?_
  refine l_isub rfl ?_
  refine l_ireturn rfl rfl ?_
  have w5 : Xi U2 942 (Xi S 904 49).toNat = Xi U1 942 (Xi S 904 49).toNat := (show Xi U2 942 (Xi S 904 49).toNat = Xi U1 942 (Xi S 904 49).toNat from by rw [eU2]; exact Xi_ne (by omega))
  have w6 : 0 ≤ Xi U2 904 49 ∧ Xi U2 904 49 ≤ 12 := hHU2.c _ _
  exact ⟨hHU2, hFU2, _, rfl, ⟨by omega, by omega⟩, (by omega), (by omega), (⟨by omega, o17⟩)⟩
def md_mo_addAdjective : List rec := [(904, 905, 23, 24), (921, 922, 0, 100000), (922, 923, 0, 100000), (924, 925, 0, 100000)]
abbrev Q_mo_addAdjective (S : sS) (kind : Int) (oth : Int) : pst := fun r S1 => HI S1 ∧ FR md_mo_addAdjective S S1 ∧ (∃ z : Int, r = some (iv z) ∧ (0 ≤ z ∧ z ≤ 23) ∧ (z = Xi S 904 23) ∧ (Xi S1 904 23 = Xi S 904 23 + 1) ∧ (Xi S1 922 (Xi S 904 23).toNat = oth ∧ Xi S1 924 (Xi S 904 23).toNat = 0) ∧ (∀ j : Nat, (j : Int) < Xi S 904 23 → Xi S1 921 j = Xi S 921 j ∧ Xi S1 922 j = Xi S 922 j ∧ Xi S1 924 j = Xi S 924 j))
set_option maxRecDepth 100000 in
theorem t_mo_addAdjective {S : sS} (hH : HI S) (kind : Int) (oth : Int) (hkind : 0 ≤ kind ∧ kind ≤ 15) (hoth : -1 ≤ oth ∧ oth ≤ 23) (h : Xi S 904 23 ≤ 23) (d : Nat) : Mt lay0 (d + 1) m_mo_addAdjective [.ref 904, iv kind, iv oth] S (Q_mo_addAdjective S kind oth) := by
  refine Mt_R rfl rfl ?_
  have hF : FR md_mo_addAdjective S S := FR.rf
  have w1 : 0 ≤ Xi S 904 23 ∧ Xi S 904 23 ≤ 24 := hH.c _ _
  refine l_aload_n rfl rfl ?_
  refine l_gfr rfl rfl rfl rfl rfl (hH.r 904 24 921 rfl) ?_
  refine l_aload_n rfl rfl ?_
  refine l_gfi rfl rfl rfl rfl rfl ?_
  refine l_iload_n rfl rfl ?_
  refine l_iastore (n := 24) rfl rfl (by omega) (by omega) (by unfold rg; omega) ?_
  obtain ⟨U1, eU1⟩ : ∃ T : sS, T = uI S 921 (((Xi S 904 23)).toNat) (Int32.ofInt kind) := ⟨_, rfl⟩
  rw [← eU1]
  have hHU1 : HI U1 := by rw [eU1]; exact HI_w hH (show 0 ≤ kind by omega) (show kind ≤ 15 by omega)
  have hFU1 : FR md_mo_addAdjective S U1 := by rw [eU1]; exact FR.wI hF (mdf_i (r := (921, 922, 0, 100000)) (List.mem_of_getElem? (i := 1) rfl) (inR_i (by omega) (by omega) (by omega) (by omega)))
  have w2 : Xi U1 921 (((Xi S 904 23)).toNat) = kind := by rw [eU1]; exact Xi_same (by unfold rg; omega)
  have o9 : ∀ j : Nat, (j : Int) < Xi S 904 23 → Xi U1 921 j = Xi S 921 j ∧ Xi U1 922 j = Xi S 922 j ∧ Xi U1 924 j = Xi S 924 j := fun j hj => by rw [eU1, Xi_ne (by omega), Xi_ne (by omega), Xi_ne (by omega)]; exact ⟨rfl, rfl, rfl⟩
  refine l_aload_n rfl rfl ?_
  refine l_gfr rfl rfl rfl rfl rfl (hHU1.r 904 25 922 rfl) ?_
  refine l_aload_n rfl rfl ?_
  refine l_gfi rfl rfl rfl rfl rfl ?_
  have w3 : (Xi U1 904 23) = (Xi S 904 23) := (show Xi U1 904 23 = Xi S 904 23 from by rw [eU1]; exact Xi_ne (by omega))
  rw [w3]
  refine l_iload_n rfl rfl ?_
  refine l_iastore (n := 24) rfl rfl (by omega) (by omega) (by unfold rg; omega) ?_
  obtain ⟨U2, eU2⟩ : ∃ T : sS, T = uI U1 922 (((Xi S 904 23)).toNat) (Int32.ofInt oth) := ⟨_, rfl⟩
  rw [← eU2]
  have hHU2 : HI U2 := by rw [eU2]; exact HI_w hHU1 (show -1 ≤ oth by omega) (show oth ≤ 23 by omega)
  have hFU2 : FR md_mo_addAdjective S U2 := by rw [eU2]; exact FR.wI hFU1 (mdf_i (r := (922, 923, 0, 100000)) (List.mem_of_getElem? (i := 2) rfl) (inR_i (by omega) (by omega) (by omega) (by omega)))
  have w4 : Xi U2 922 (((Xi S 904 23)).toNat) = oth := by rw [eU2]; exact Xi_same (by unfold rg; omega)
  have o19 : ∀ j : Nat, (j : Int) < Xi S 904 23 → Xi U2 921 j = Xi S 921 j ∧ Xi U2 922 j = Xi S 922 j ∧ Xi U2 924 j = Xi S 924 j := fun j hj => by rw [eU2, Xi_ne (by omega), Xi_ne (by omega), Xi_ne (by omega)]; exact o9 j hj
  refine l_aload_n rfl rfl ?_
  refine l_gfr rfl rfl rfl rfl rfl (hHU2.r 904 27 924 rfl) ?_
  refine l_aload_n rfl rfl ?_
  refine l_gfi rfl rfl rfl rfl rfl ?_
  have w5 : (Xi U2 904 23) = (Xi S 904 23) := (show Xi U2 904 23 = Xi U1 904 23 from by rw [eU2]; exact Xi_ne (by omega)).trans ((show Xi U1 904 23 = Xi S 904 23 from by rw [eU1]; exact Xi_ne (by omega)))
  rw [w5]
  refine l_iconst rfl ?_
  refine l_iastore (n := 24) rfl rfl (by omega) (by omega) (by unfold rg; omega) ?_
  obtain ⟨U3, eU3⟩ : ∃ T : sS, T = uI U2 924 (((Xi S 904 23)).toNat) (Int32.ofInt 0) := ⟨_, rfl⟩
  rw [← eU3]
  have hHU3 : HI U3 := by rw [eU3]; exact HI_w hHU2 (show 0 ≤ 0 by omega) (show 0 ≤ 6 by omega)
  have hFU3 : FR md_mo_addAdjective S U3 := by rw [eU3]; exact FR.wI hFU2 (mdf_i (r := (924, 925, 0, 100000)) (List.mem_of_getElem? (i := 3) rfl) (inR_i (by omega) (by omega) (by omega) (by omega)))
  have w6 : Xi U3 924 (((Xi S 904 23)).toNat) = 0 := by rw [eU3]; exact Xi_same (by unfold rg; omega)
  have o29 : ∀ j : Nat, (j : Int) < Xi S 904 23 → Xi U3 921 j = Xi S 921 j ∧ Xi U3 922 j = Xi S 922 j ∧ Xi U3 924 j = Xi S 924 j := fun j hj => by rw [eU3, Xi_ne (by omega), Xi_ne (by omega), Xi_ne (by omega)]; exact o19 j hj
  refine l_aload_n rfl rfl ?_
  refine l_dup rfl rfl ?_
  refine l_gfi rfl rfl rfl rfl rfl ?_
  have w7 : (Xi U3 904 23) = (Xi S 904 23) := (show Xi U3 904 23 = Xi U2 904 23 from by rw [eU3]; exact Xi_ne (by omega)).trans ( (show Xi U2 904 23 = Xi U1 904 23 from by rw [eU2]; exact Xi_ne (by omega)).trans ((show Xi U1 904 23 = Xi S 904 23 from by rw [eU1]; exact Xi_ne (by omega))))
  rw [w7]
  refine l_iconst rfl ?_
  refine l_iadd rfl ?_
  refine l_pfi rfl rfl rfl rfl ?_
  obtain ⟨U4, eU4⟩ : ∃ T : sS, T = uI U3 904 23 (Int32.ofInt ((Xi S 904 23) + 1)) := ⟨_, rfl⟩
  rw [← eU4]
  have hHU4 : HI U4 := by rw [eU4]; exact HI_w hHU3 (show 0 ≤ ((Xi S 904 23) + 1) by omega) (show ((Xi S 904 23) + 1) ≤ 24 by omega)
  have hFU4 : FR md_mo_addAdjective S U4 := by rw [eU4]; exact FR.wI hFU3 (mdf_i (r := (904, 905, 23, 24)) (List.mem_of_getElem? (i := 0) rfl) (inR_i (by omega) (by omega) (by omega) (by omega)))
  have w8 : Xi U4 904 23 = ((Xi S 904 23) + 1) := by rw [eU4]; exact Xi_same (by unfold rg; omega)
  have o37 : ∀ j : Nat, (j : Int) < Xi S 904 23 → Xi U4 921 j = Xi S 921 j ∧ Xi U4 922 j = Xi S 922 j ∧ Xi U4 924 j = Xi S 924 j := fun j hj => by rw [eU4, Xi_ne (by omega), Xi_ne (by omega), Xi_ne (by omega)]; exact o29 j hj
  refine l_aload_n rfl rfl ?_
  refine l_gfi rfl rfl rfl rfl rfl ?_
  refine l_iconst rfl ?_
  refine l_isub rfl ?_
  refine l_ireturn rfl rfl ?_
  have w9 : Xi U4 922 (Xi S 904 23).toNat = Xi U2 922 (Xi S 904 23).toNat := (show Xi U4 922 (Xi S 904 23).toNat = Xi U3 922 (Xi S 904 23).toNat from by rw [eU4]; exact Xi_ne (by omega)).trans ((show Xi U3 922 (Xi S 904 23).toNat = Xi U2 922 (Xi S 904 23).toNat from by rw [eU3]; exact Xi_ne (by omega)))
  have w10 : Xi U4 924 (Xi S 904 23).toNat = Xi U3 924 (Xi S 904 23).toNat := (show Xi U4 924 (Xi S 904 23).toNat = Xi U3 924 (Xi S 904 23).toNat from by rw [eU4]; exact Xi_ne (by omega))
  have w11 : 0 ≤ Xi U4 904 23 ∧ Xi U4 904 23 ≤ 24 := hHU4.c _ _
  exact ⟨hHU4, hFU4, _, rfl, ⟨by omega, by omega⟩, (by omega), (by omega), (by omega), (o37)⟩

