/-! SAFETY of methods: printed by wip/safe (vc.py, decl.py) -/
theorem LXK.t {S U1 U2 U3 U4 U5 U6 U7 U8 : sS} {L : Int} {v1 v2 v3 v4 v5 : Int32} {w1 w2 w3 : Int64} (h0 : 0 ≤ L) (e1 : U1 = uI S 912 L.toNat v1) (e2 : U2 = uJ U1 913 (3 * L).toNat w1) (e3 : U3 = uJ U2 913 (3 * L + 1).toNat w2) (e4 : U4 = uJ U3 913 (3 * L + 2).toNat w3) (e5 : U5 = uI U4 914 L.toNat v2) (e6 : U6 = uI U5 915 L.toNat v3) (e7 : U7 = uI U6 916 L.toNat v4) (e8 : U8 = uI U7 904 15 v5) : LXK U8 S L := fun k hk hl => by
  have hI : ∀ a b, (a = 912 ∨ a = 914 ∨ a = 915 ∨ a = 916) → b ≠ L.toNat → Xi U8 a b = Xi S a b := fun a b ha hb => by
    have q4 : Xi U4 a b = Xi U3 a b := by rw [e4]; rfl
    have q3 : Xi U3 a b = Xi U2 a b := by rw [e3]; rfl
    have q2 : Xi U2 a b = Xi U1 a b := by rw [e2]; rfl
    rw [e8, Xi_ne (by omega), e7, Xi_ne (by omega), e6, Xi_ne (by omega), e5, Xi_ne (by omega), q4, q3, q2, e1, Xi_ne (by omega)]
  have hJ : ∀ b, b ≠ (3 * L).toNat → b ≠ (3 * L + 1).toNat → b ≠ (3 * L + 2).toNat → Xj U8 913 b = Xj S 913 b := fun b x y z => by
    have q8 : Xj U8 913 b = Xj U7 913 b := by rw [e8]; rfl
    have q7 : Xj U7 913 b = Xj U6 913 b := by rw [e7]; rfl
    have q6 : Xj U6 913 b = Xj U5 913 b := by rw [e6]; rfl
    have q5 : Xj U5 913 b = Xj U4 913 b := by rw [e5]; rfl
    have q1 : Xj U1 913 b = Xj S 913 b := by rw [e1]; rfl
    rw [q8, q7, q6, q5, e4, Xj_ne (by omega), e3, Xj_ne (by omega), e2, Xj_ne (by omega), q1]
  exact ⟨hI 912 _ (by omega) (by omega), hJ _ (by omega) (by omega) (by omega), hJ _ (by omega) (by omega) (by omega), hJ _ (by omega) (by omega) (by omega), hI 916 _ (by omega) (by omega), hI 914 _ (by omega) (by omega), hI 915 _ (by omega) (by omega)⟩
def md_mo_tell : List rec := [(904, 905, 15, 16), (912, 913, 0, 100000), (913, 914, 0, 100000), (914, 915, 0, 100000), (915, 916, 0, 100000), (916, 917, 0, 100000)]
abbrev Q_mo_tell (S : sS) (so : Int) (ix : Int) (a : Int) (b : Int) (c : Int) (m : Int) : pst := fun r S1 => HI S1 ∧ FR md_mo_tell S S1 ∧ (r = none ∧ (Xi S1 904 15 = Xi S 904 15 + 1) ∧ (Xi S1 914 (Xi S 904 15).toNat = so ∧ Xi S1 915 (Xi S 904 15).toNat = ix) ∧ (LXK S1 S (Xi S 904 15)))
set_option maxRecDepth 100000 in
theorem t_mo_tell {S : sS} (hH : HI S) (so : Int) (ix : Int) (a : Int) (b : Int) (c : Int) (m : Int) (hso : 0 ≤ so ∧ so ≤ 12) (hix : 0 ≤ ix ∧ ix ≤ 63) (hm : 0 ≤ m ∧ m ≤ 3) (hle : Xi S 904 15 ≤ 299) (d : Nat) : Mt lay0 (d + 1) m_mo_tell [.ref 904, iv so, iv ix, jw a, jw b, jw c, iv m] S (Q_mo_tell S so ix a b c m) := by
  refine Mt_R rfl rfl ?_
  have hF : FR md_mo_tell S S := FR.rf
  have w1 : 0 ≤ Xi S 904 15 ∧ Xi S 904 15 ≤ 300 := hH.c _ _
  refine l_aload_n rfl rfl ?_
  refine l_gfr rfl rfl rfl rfl rfl (hH.r 904 10 912 rfl) ?_
  refine l_aload_n rfl rfl ?_
  refine l_gfi rfl rfl rfl rfl rfl ?_
  refine l_iload rfl rfl ?_
  refine l_iastore (n := 300) rfl rfl (by omega) (by omega) (by unfold rg; omega) ?_
  obtain ⟨U1, eU1⟩ : ∃ T : sS, T = uI S 912 (((Xi S 904 15)).toNat) (Int32.ofInt m) := ⟨_, rfl⟩
  rw [← eU1]
  have hHU1 : HI U1 := by rw [eU1]; exact HI_w hH (show 0 ≤ m by omega) (show m ≤ 3 by omega)
  have hFU1 : FR md_mo_tell S U1 := by rw [eU1]; exact FR.wI hF (mdf_i (r := (912, 913, 0, 100000)) (List.mem_of_getElem? (i := 1) rfl) (inR_i (by omega) (by omega) (by omega) (by omega)))
  have w2 : Xi U1 912 (((Xi S 904 15)).toNat) = m := by rw [eU1]; exact Xi_same (by unfold rg; omega)
  refine l_aload_n rfl rfl ?_
  refine l_gfr rfl rfl rfl rfl rfl (hHU1.r 904 11 913 rfl) ?_
  refine l_iconst rfl ?_
  refine l_aload_n rfl rfl ?_
  refine l_gfi rfl rfl rfl rfl rfl ?_
  have w3 : (Xi U1 904 15) = (Xi S 904 15) := (show Xi U1 904 15 = Xi S 904 15 from by rw [eU1]; exact Xi_ne (by omega))
  rw [w3]
  refine l_imul rfl ?_
  refine l_lload_n rfl rfl ?_
  refine l_lastore (n := 900) rfl rfl (by omega) (by omega) (by unfold rg; omega) ?_
  obtain ⟨U2, eU2⟩ : ∃ T : sS, T = uJ U1 913 (((3 * (Xi S 904 15))).toNat) (Int64.ofInt a) := ⟨_, rfl⟩
  rw [← eU2]
  have hHU2 : HI U2 := by rw [eU2]; exact HI_J hHU1
  have hFU2 : FR md_mo_tell S U2 := by rw [eU2]; exact FR.wJ hFU1 (mdf_i (r := (913, 914, 0, 100000)) (List.mem_of_getElem? (i := 2) rfl) (inR_i (by omega) (by omega) (by omega) (by omega)))
  refine l_aload_n rfl rfl ?_
  refine l_gfr rfl rfl rfl rfl rfl (hHU2.r 904 11 913 rfl) ?_
  refine l_iconst rfl ?_
  refine l_aload_n rfl rfl ?_
  refine l_gfi rfl rfl rfl rfl rfl ?_
  have w4 : (Xi U2 904 15) = (Xi S 904 15) := (show Xi U2 904 15 = Xi U1 904 15 from by rw [eU2]; rfl).trans ((show Xi U1 904 15 = Xi S 904 15 from by rw [eU1]; exact Xi_ne (by omega)))
  rw [w4]
  refine l_imul rfl ?_
  refine l_iconst rfl ?_
  refine l_iadd rfl ?_
  refine l_lload rfl rfl ?_
  refine l_lastore (n := 900) rfl rfl (by omega) (by omega) (by unfold rg; omega) ?_
  obtain ⟨U3, eU3⟩ : ∃ T : sS, T = uJ U2 913 ((((3 * (Xi S 904 15)) + 1)).toNat) (Int64.ofInt b) := ⟨_, rfl⟩
  rw [← eU3]
  have hHU3 : HI U3 := by rw [eU3]; exact HI_J hHU2
  have hFU3 : FR md_mo_tell S U3 := by rw [eU3]; exact FR.wJ hFU2 (mdf_i (r := (913, 914, 0, 100000)) (List.mem_of_getElem? (i := 2) rfl) (inR_i (by omega) (by omega) (by omega) (by omega)))
  refine l_aload_n rfl rfl ?_
  refine l_gfr rfl rfl rfl rfl rfl (hHU3.r 904 11 913 rfl) ?_
  refine l_iconst rfl ?_
  refine l_aload_n rfl rfl ?_
  refine l_gfi rfl rfl rfl rfl rfl ?_
  have w5 : (Xi U3 904 15) = (Xi S 904 15) := (show Xi U3 904 15 = Xi U2 904 15 from by rw [eU3]; rfl).trans ( (show Xi U2 904 15 = Xi U1 904 15 from by rw [eU2]; rfl).trans ((show Xi U1 904 15 = Xi S 904 15 from by rw [eU1]; exact Xi_ne (by omega))))
  rw [w5]
  refine l_imul rfl ?_
  refine l_iconst rfl ?_
  refine l_iadd rfl ?_
  refine l_lload rfl rfl ?_
  refine l_lastore (n := 900) rfl rfl (by omega) (by omega) (by unfold rg; omega) ?_
  obtain ⟨U4, eU4⟩ : ∃ T : sS, T = uJ U3 913 ((((3 * (Xi S 904 15)) + 2)).toNat) (Int64.ofInt c) := ⟨_, rfl⟩
  rw [← eU4]
  have hHU4 : HI U4 := by rw [eU4]; exact HI_J hHU3
  have hFU4 : FR md_mo_tell S U4 := by rw [eU4]; exact FR.wJ hFU3 (mdf_i (r := (913, 914, 0, 100000)) (List.mem_of_getElem? (i := 2) rfl) (inR_i (by omega) (by omega) (by omega) (by omega)))
  refine l_aload_n rfl rfl ?_
  refine l_gfr rfl rfl rfl rfl rfl (hHU4.r 904 12 914 rfl) ?_
  refine l_aload_n rfl rfl ?_
  refine l_gfi rfl rfl rfl rfl rfl ?_
  have w6 : (Xi U4 904 15) = (Xi S 904 15) := (show Xi U4 904 15 = Xi U3 904 15 from by rw [eU4]; rfl).trans ( (show Xi U3 904 15 = Xi U2 904 15 from by rw [eU3]; rfl).trans ( (show Xi U2 904 15 = Xi U1 904 15 from by rw [eU2]; rfl).trans ((show Xi U1 904 15 = Xi S 904 15 from by rw [eU1]; exact Xi_ne (by omega)))))
  rw [w6]
  refine l_iload_n rfl rfl ?_
  refine l_iastore (n := 300) rfl rfl (by omega) (by omega) (by unfold rg; omega) ?_
  obtain ⟨U5, eU5⟩ : ∃ T : sS, T = uI U4 914 (((Xi S 904 15)).toNat) (Int32.ofInt so) := ⟨_, rfl⟩
  rw [← eU5]
  have hHU5 : HI U5 := by rw [eU5]; exact HI_w hHU4 (show 0 ≤ so by omega) (show so ≤ 12 by omega)
  have hFU5 : FR md_mo_tell S U5 := by rw [eU5]; exact FR.wI hFU4 (mdf_i (r := (914, 915, 0, 100000)) (List.mem_of_getElem? (i := 3) rfl) (inR_i (by omega) (by omega) (by omega) (by omega)))
  have w7 : Xi U5 914 (((Xi S 904 15)).toNat) = so := by rw [eU5]; exact Xi_same (by unfold rg; omega)
  refine l_aload_n rfl rfl ?_
  refine l_gfr rfl rfl rfl rfl rfl (hHU5.r 904 13 915 rfl) ?_
  refine l_aload_n rfl rfl ?_
  refine l_gfi rfl rfl rfl rfl rfl ?_
  have w8 : (Xi U5 904 15) = (Xi S 904 15) := (show Xi U5 904 15 = Xi U4 904 15 from by rw [eU5]; exact Xi_ne (by omega)).trans ( (show Xi U4 904 15 = Xi U3 904 15 from by rw [eU4]; rfl).trans ( (show Xi U3 904 15 = Xi U2 904 15 from by rw [eU3]; rfl).trans ( (show Xi U2 904 15 = Xi U1 904 15 from by rw [eU2]; rfl).trans ((show Xi U1 904 15 = Xi S 904 15 from by rw [eU1]; exact Xi_ne (by omega))))))
  rw [w8]
  refine l_iload_n rfl rfl ?_
  refine l_iastore (n := 300) rfl rfl (by omega) (by omega) (by unfold rg; omega) ?_
  obtain ⟨U6, eU6⟩ : ∃ T : sS, T = uI U5 915 (((Xi S 904 15)).toNat) (Int32.ofInt ix) := ⟨_, rfl⟩
  rw [← eU6]
  have hHU6 : HI U6 := by rw [eU6]; exact HI_w hHU5 (show 0 ≤ ix by omega) (show ix ≤ 63 by omega)
  have hFU6 : FR md_mo_tell S U6 := by rw [eU6]; exact FR.wI hFU5 (mdf_i (r := (915, 916, 0, 100000)) (List.mem_of_getElem? (i := 4) rfl) (inR_i (by omega) (by omega) (by omega) (by omega)))
  have w9 : Xi U6 915 (((Xi S 904 15)).toNat) = ix := by rw [eU6]; exact Xi_same (by unfold rg; omega)
  refine l_aload_n rfl rfl ?_
  refine l_gfr rfl rfl rfl rfl rfl (hHU6.r 904 14 916 rfl) ?_
  refine l_aload_n rfl rfl ?_
  refine l_gfi rfl rfl rfl rfl rfl ?_
  have w10 : (Xi U6 904 15) = (Xi S 904 15) := (show Xi U6 904 15 = Xi U5 904 15 from by rw [eU6]; exact Xi_ne (by omega)).trans ( (show Xi U5 904 15 = Xi U4 904 15 from by rw [eU5]; exact Xi_ne (by omega)).trans ( (show Xi U4 904 15 = Xi U3 904 15 from by rw [eU4]; rfl).trans ( (show Xi U3 904 15 = Xi U2 904 15 from by rw [eU3]; rfl).trans ( (show Xi U2 904 15 = Xi U1 904 15 from by rw [eU2]; rfl).trans ((show Xi U1 904 15 = Xi S 904 15 from by rw [eU1]; exact Xi_ne (by omega)))))))
  rw [w10]
  refine l_iconst rfl ?_
  refine l_bastoreZ1 (n := 300) rfl rfl (by omega) (by omega) (by unfold rg; omega) ⟨by omega, by omega⟩ ?_
  obtain ⟨U7, eU7⟩ : ∃ T : sS, T = uI U6 916 (((Xi S 904 15)).toNat) (Int32.ofInt 0) := ⟨_, rfl⟩
  rw [← eU7]
  have hHU7 : HI U7 := by rw [eU7]; exact HI_w hHU6 (show 0 ≤ 0 by omega) (show 0 ≤ 1 by omega)
  have hFU7 : FR md_mo_tell S U7 := by rw [eU7]; exact FR.wI hFU6 (mdf_i (r := (916, 917, 0, 100000)) (List.mem_of_getElem? (i := 5) rfl) (inR_i (by omega) (by omega) (by omega) (by omega)))
  have w11 : Xi U7 916 (((Xi S 904 15)).toNat) = 0 := by rw [eU7]; exact Xi_same (by unfold rg; omega)
  refine l_aload_n rfl rfl ?_
  refine l_dup rfl rfl ?_
  refine l_gfi rfl rfl rfl rfl rfl ?_
  have w12 : (Xi U7 904 15) = (Xi S 904 15) := (show Xi U7 904 15 = Xi U6 904 15 from by rw [eU7]; exact Xi_ne (by omega)).trans ( (show Xi U6 904 15 = Xi U5 904 15 from by rw [eU6]; exact Xi_ne (by omega)).trans ( (show Xi U5 904 15 = Xi U4 904 15 from by rw [eU5]; exact Xi_ne (by omega)).trans ( (show Xi U4 904 15 = Xi U3 904 15 from by rw [eU4]; rfl).trans ( (show Xi U3 904 15 = Xi U2 904 15 from by rw [eU3]; rfl).trans ( (show Xi U2 904 15 = Xi U1 904 15 from by rw [eU2]; rfl).trans ((show Xi U1 904 15 = Xi S 904 15 from by rw [eU1]; exact Xi_ne (by omega))))))))
  rw [w12]
  refine l_iconst rfl ?_
  refine l_iadd rfl ?_
  refine l_pfi rfl rfl rfl rfl ?_
  obtain ⟨U8, eU8⟩ : ∃ T : sS, T = uI U7 904 15 (Int32.ofInt ((Xi S 904 15) + 1)) := ⟨_, rfl⟩
  rw [← eU8]
  have hHU8 : HI U8 := by rw [eU8]; exact HI_w hHU7 (show 0 ≤ ((Xi S 904 15) + 1) by omega) (show ((Xi S 904 15) + 1) ≤ 300 by omega)
  have hFU8 : FR md_mo_tell S U8 := by rw [eU8]; exact FR.wI hFU7 (mdf_i (r := (904, 905, 15, 16)) (List.mem_of_getElem? (i := 0) rfl) (inR_i (by omega) (by omega) (by omega) (by omega)))
  have w13 : Xi U8 904 15 = ((Xi S 904 15) + 1) := by rw [eU8]; exact Xi_same (by unfold rg; omega)
  refine l_return rfl rfl ?_
  have w14 : Xi U8 914 (Xi S 904 15).toNat = Xi U5 914 (Xi S 904 15).toNat := (show Xi U8 914 (Xi S 904 15).toNat = Xi U7 914 (Xi S 904 15).toNat from by rw [eU8]; exact Xi_ne (by omega)).trans ( (show Xi U7 914 (Xi S 904 15).toNat = Xi U6 914 (Xi S 904 15).toNat from by rw [eU7]; exact Xi_ne (by omega)).trans ((show Xi U6 914 (Xi S 904 15).toNat = Xi U5 914 (Xi S 904 15).toNat from by rw [eU6]; exact Xi_ne (by omega))))
  have w15 : Xi U8 915 (Xi S 904 15).toNat = Xi U6 915 (Xi S 904 15).toNat := (show Xi U8 915 (Xi S 904 15).toNat = Xi U7 915 (Xi S 904 15).toNat from by rw [eU8]; exact Xi_ne (by omega)).trans ((show Xi U7 915 (Xi S 904 15).toNat = Xi U6 915 (Xi S 904 15).toNat from by rw [eU7]; exact Xi_ne (by omega)))
  have w16 : 0 ≤ Xi U8 904 15 ∧ Xi U8 904 15 ≤ 300 := hHU8.c _ _
  exact ⟨hHU8, hFU8, rfl, (by omega), (by omega), (LXK.t (by omega) eU1 eU2 eU3 eU4 eU5 eU6 eU7 eU8)⟩
def md_mo_tellTokens : List rec := [(904, 905, 15, 16), (912, 913, 0, 100000), (913, 914, 0, 100000), (914, 915, 0, 100000), (915, 916, 0, 100000), (916, 917, 0, 100000)]
abbrev Q_mo_tellTokens (S : sS) (so : Int) (ix : Int) (t : Int) (m : Int) : pst := fun r S1 => HI S1 ∧ FR md_mo_tellTokens S S1 ∧ (r = none ∧ (Xi S1 904 15 = Xi S 904 15 + 1) ∧ (Xi S1 914 (Xi S 904 15).toNat = so ∧ Xi S1 915 (Xi S 904 15).toNat = ix) ∧ (LXK S1 S (Xi S 904 15)))
set_option maxRecDepth 100000 in
theorem t_mo_tellTokens {S : sS} (hH : HI S) (so : Int) (ix : Int) (t : Int) (m : Int) (hso : 0 ≤ so ∧ so ≤ 12) (hix : 0 ≤ ix ∧ ix ≤ 63) (ht : 0 ≤ t ∧ t ≤ 5001) (hm : 1 ≤ m ∧ m ≤ 3) (hle : Xi S 904 15 ≤ 299) (ht : t + m ≤ 5002) (d : Nat) : Mt lay0 (d + 2) m_mo_tellTokens [.ref 904, iv so, iv ix, iv t, iv m] S (Q_mo_tellTokens S so ix t m) := by
  refine Mt_R rfl rfl ?_
  have hF : FR md_mo_tellTokens S S := FR.rf
  have w1 : 0 ≤ Xi S 904 15 ∧ Xi S 904 15 ≤ 300 := hH.c _ _
  refine l_aload_n rfl rfl ?_
  refine l_iload_n rfl rfl ?_
  refine l_iload_n rfl rfl ?_
  refine l_aload_n rfl rfl ?_
  refine l_gfr rfl rfl rfl rfl rfl (hH.r 904 7 910 rfl) ?_
  refine l_iload_n rfl rfl ?_
  refine l_laload (n := 5002) rfl rfl (by omega) (by omega) (by unfold rg; omega) ?_
  have w2 : -9223372036854775808 ≤ (Xj S 910 ((t).toNat)) ∧ (Xj S 910 ((t).toNat)) < 9223372036854775808 := Xj_rg
  refine l_iload rfl rfl ?_
  refine l_iconst rfl ?_
  refine l_icmp_le rfl rfl (by unfold rg; omega) (by unfold rg; omega) (fun w3 => ?_) (fun w4 => ?_)
  · refine l_lconst (z := 0) rfl rfl ?_
    refine l_iload rfl rfl ?_
    refine l_iconst rfl ?_
    refine l_icmp_le rfl rfl (by unfold rg; omega) (by unfold rg; omega) (fun w5 => ?_) (fun w6 => ?_)
    · refine l_lconst (z := 0) rfl rfl ?_
      refine l_iload rfl rfl ?_
      have w7 : 0 ≤ Xi S 904 15 ∧ Xi S 904 15 ≤ 300 := hH.c _ _
      refine l_callV rfl rfl rfl (t_mo_tell hH so ix (Xj S 910 ((t).toNat)) 0 0 m ⟨by omega, by omega⟩ ⟨by omega, by omega⟩ ⟨by omega, by omega⟩ (by first | assumption | omega) _) ?_
      rintro _ T1 ⟨hHT1, w12, rfl, w8, w9, w10⟩
      have hFT1 : FR md_mo_tellTokens S T1 := FR.tr hF w12 rfl
      show Rl _ _ _ _ _ [] _ _
      refine l_return rfl rfl ?_
      have w13 : 0 ≤ Xi T1 904 15 ∧ Xi T1 904 15 ≤ 300 := hHT1.c _ _
      exact ⟨hHT1, hFT1, rfl, (by first | assumption | omega), (by first | assumption | omega), (by first | assumption | omega)⟩
    · refine l_aload_n rfl rfl ?_
      refine l_gfr rfl rfl rfl rfl rfl (hH.r 904 7 910 rfl) ?_
      refine l_iload_n rfl rfl ?_
      refine l_iconst rfl ?_
      refine l_iadd rfl ?_
      refine l_laload (n := 5002) rfl rfl (by omega) (by omega) (by unfold rg; omega) ?_
      have w14 : -9223372036854775808 ≤ (Xj S 910 (((t + 2)).toNat)) ∧ (Xj S 910 (((t + 2)).toNat)) < 9223372036854775808 := Xj_rg
      refine l_goto rfl rfl ?_
      refine l_iload rfl rfl ?_
      have w15 : 0 ≤ Xi S 904 15 ∧ Xi S 904 15 ≤ 300 := hH.c _ _
      refine l_callV rfl rfl rfl (t_mo_tell hH so ix (Xj S 910 ((t).toNat)) 0 (Xj S 910 (((t + 2)).toNat)) m ⟨by omega, by omega⟩ ⟨by omega, by omega⟩ ⟨by omega, by omega⟩ (by first | assumption | omega) _) ?_
      rintro _ T2 ⟨hHT2, w20, rfl, w16, w17, w18⟩
      have hFT2 : FR md_mo_tellTokens S T2 := FR.tr hF w20 rfl
      show Rl _ _ _ _ _ [] _ _
      refine l_return rfl rfl ?_
      have w21 : 0 ≤ Xi T2 904 15 ∧ Xi T2 904 15 ≤ 300 := hHT2.c _ _
      exact ⟨hHT2, hFT2, rfl, (by first | assumption | omega), (by first | assumption | omega), (by first | assumption | omega)⟩
  · refine l_aload_n rfl rfl ?_
    refine l_gfr rfl rfl rfl rfl rfl (hH.r 904 7 910 rfl) ?_
    refine l_iload_n rfl rfl ?_
    refine l_iconst rfl ?_
    refine l_iadd rfl ?_
    refine l_laload (n := 5002) rfl rfl (by omega) (by omega) (by unfold rg; omega) ?_
    have w22 : -9223372036854775808 ≤ (Xj S 910 (((t + 1)).toNat)) ∧ (Xj S 910 (((t + 1)).toNat)) < 9223372036854775808 := Xj_rg
    refine l_goto rfl rfl ?_
    refine l_iload rfl rfl ?_
    refine l_iconst rfl ?_
    refine l_icmp_le rfl rfl (by unfold rg; omega) (by unfold rg; omega) (fun w23 => ?_) (fun w24 => ?_)
    · refine l_lconst (z := 0) rfl rfl ?_
      refine l_iload rfl rfl ?_
      have w25 : 0 ≤ Xi S 904 15 ∧ Xi S 904 15 ≤ 300 := hH.c _ _
      refine l_callV rfl rfl rfl (t_mo_tell hH so ix (Xj S 910 ((t).toNat)) (Xj S 910 (((t + 1)).toNat)) 0 m ⟨by omega, by omega⟩ ⟨by omega, by omega⟩ ⟨by omega, by omega⟩ (by first | assumption | omega) _) ?_
      rintro _ T3 ⟨hHT3, w30, rfl, w26, w27, w28⟩
      have hFT3 : FR md_mo_tellTokens S T3 := FR.tr hF w30 rfl
      show Rl _ _ _ _ _ [] _ _
      refine l_return rfl rfl ?_
      have w31 : 0 ≤ Xi T3 904 15 ∧ Xi T3 904 15 ≤ 300 := hHT3.c _ _
      exact ⟨hHT3, hFT3, rfl, (by first | assumption | omega), (by first | assumption | omega), (by first | assumption | omega)⟩
    · refine l_aload_n rfl rfl ?_
      refine l_gfr rfl rfl rfl rfl rfl (hH.r 904 7 910 rfl) ?_
      refine l_iload_n rfl rfl ?_
      refine l_iconst rfl ?_
      refine l_iadd rfl ?_
      refine l_laload (n := 5002) rfl rfl (by omega) (by omega) (by unfold rg; omega) ?_
      have w32 : -9223372036854775808 ≤ (Xj S 910 (((t + 2)).toNat)) ∧ (Xj S 910 (((t + 2)).toNat)) < 9223372036854775808 := Xj_rg
      refine l_goto rfl rfl ?_
      refine l_iload rfl rfl ?_
      have w33 : 0 ≤ Xi S 904 15 ∧ Xi S 904 15 ≤ 300 := hH.c _ _
      refine l_callV rfl rfl rfl (t_mo_tell hH so ix (Xj S 910 ((t).toNat)) (Xj S 910 (((t + 1)).toNat)) (Xj S 910 (((t + 2)).toNat)) m ⟨by omega, by omega⟩ ⟨by omega, by omega⟩ ⟨by omega, by omega⟩ (by first | assumption | omega) _) ?_
      rintro _ T4 ⟨hHT4, w38, rfl, w34, w35, w36⟩
      have hFT4 : FR md_mo_tellTokens S T4 := FR.tr hF w38 rfl
      show Rl _ _ _ _ _ [] _ _
      refine l_return rfl rfl ?_
      have w39 : 0 ≤ Xi T4 904 15 ∧ Xi T4 904 15 ≤ 300 := hHT4.c _ _
      exact ⟨hHT4, hFT4, rfl, (by first | assumption | omega), (by first | assumption | omega), (by first | assumption | omega)⟩
def md_mo_tellRun : List rec := [(904, 905, 15, 16), (912, 913, 0, 100000), (913, 914, 0, 100000), (914, 915, 0, 100000), (915, 916, 0, 100000), (916, 917, 0, 100000)]
abbrev Q_mo_tellRun (S : sS) (n : Nat) (so : Int) (ix : Int) (rn : Int) : pst := fun r S1 => HI S1 ∧ FR md_mo_tellRun S S1 ∧ (r = none ∧ (Xi S1 904 15 = Xi S 904 15 + 1) ∧ (Xi S1 914 (Xi S 904 15).toNat = so ∧ Xi S1 915 (Xi S 904 15).toNat = ix) ∧ (LXK S1 S (Xi S 904 15)))
set_option maxRecDepth 100000 in
theorem t_mo_tellRun {S : sS} (hH : HI S) (n : Nat) (so : Int) (ix : Int) (rn : Int) (hso : 0 ≤ so ∧ so ≤ 12) (hix : 0 ≤ ix ∧ ix ≤ 63) (hrn : 0 ≤ rn ∧ rn ≤ 2599) (hT : TK S n) (hv : RNV S n) (hrr : rn < Xi S 904 69) (h3 : Xi S 951 rn.toNat ≤ 3) (hle : Xi S 904 15 ≤ 299) (d : Nat) : Mt lay0 (d + 3) m_mo_tellRun [.ref 904, iv so, iv ix, iv rn] S (Q_mo_tellRun S n so ix rn) := by
  refine Mt_R rfl rfl ?_
  have hF : FR md_mo_tellRun S S := FR.rf
  have w1 : 0 ≤ Xi S 904 15 ∧ Xi S 904 15 ≤ 300 := hH.c _ _
  have w2 : 0 ≤ Xi S 904 69 ∧ Xi S 904 69 ≤ 2600 := hH.c _ _
  have hn5 := hT.1
  have hq := hv rn.toNat (by omega)
  have hq0 : 0 ≤ Xi S 950 rn.toNat ∧ Xi S 950 rn.toNat ≤ 5010 := hH.c 950 rn.toNat
  have hc69 : 0 ≤ Xi S 904 69 ∧ Xi S 904 69 ≤ 2600 := hH.c _ _
  refine l_aload_n rfl rfl ?_
  refine l_iload_n rfl rfl ?_
  refine l_iload_n rfl rfl ?_
  refine l_aload_n rfl rfl ?_
  refine l_gfr rfl rfl rfl rfl rfl (hH.r 904 67 950 rfl) ?_
  refine l_iload_n rfl rfl ?_
  refine l_iaload (n := 2600) rfl rfl (by omega) (by omega) (by unfold rg; omega) ?_
  have w3 : 0 ≤ (Xi S 950 ((rn).toNat)) ∧ (Xi S 950 ((rn).toNat)) ≤ 5010 := hH.c _ _
  refine l_aload_n rfl rfl ?_
  refine l_gfr rfl rfl rfl rfl rfl (hH.r 904 68 951 rfl) ?_
  refine l_iload_n rfl rfl ?_
  refine l_iaload (n := 2600) rfl rfl (by omega) (by omega) (by unfold rg; omega) ?_
  have w4 : 0 ≤ (Xi S 951 ((rn).toNat)) ∧ (Xi S 951 ((rn).toNat)) ≤ 5010 := hH.c _ _
  have w5 : 0 ≤ Xi S 904 15 ∧ Xi S 904 15 ≤ 300 := hH.c _ _
  refine l_callV rfl rfl rfl (t_mo_tellTokens hH so ix (Xi S 950 ((rn).toNat)) (Xi S 951 ((rn).toNat)) ⟨by omega, by omega⟩ ⟨by omega, by omega⟩ ⟨by omega, by omega⟩ ⟨by omega, by omega⟩ (by first | assumption | omega) (by first | assumption | omega) _) ?_
  rintro _ T1 ⟨hHT1, w10, rfl, w6, w7, w8⟩
  have hFT1 : FR md_mo_tellRun S T1 := FR.tr hF w10 rfl
  show Rl _ _ _ _ _ [] _ _
  refine l_return rfl rfl ?_
  have w11 : 0 ≤ Xi T1 904 15 ∧ Xi T1 904 15 ≤ 300 := hHT1.c _ _
  exact ⟨hHT1, hFT1, rfl, (by first | assumption | omega), (by first | assumption | omega), (by first | assumption | omega)⟩
def md_mo_addAction : List rec := [(904, 905, 49, 50), (942, 943, 0, 100000)]
abbrev Q_mo_addAction (S : sS) (kind : Int) : pst := fun r S1 => HI S1 ∧ FR md_mo_addAction S S1 ∧ (∃ z : Int, r = some (iv z) ∧ (0 ≤ z ∧ z ≤ 11) ∧ (z = Xi S 904 49) ∧ (Xi S1 904 49 = Xi S 904 49 + 1) ∧ (Xi S1 942 (Xi S 904 49).toNat = kind ∧ ∀ j : Nat, (j : Int) < Xi S 904 49 → Xi S1 942 j = Xi S 942 j))
set_option maxRecDepth 100000 in
theorem t_mo_addAction {S : sS} (hH : HI S) (kind : Int) (hkind : -2 ≤ kind ∧ kind ≤ 15) (h : Xi S 904 49 ≤ 11) (d : Nat) : Mt lay0 (d + 1) m_mo_addAction [.ref 904, iv kind] S (Q_mo_addAction S kind) := by
  refine Mt_R rfl rfl ?_
  have hF : FR md_mo_addAction S S := FR.rf
  have w1 : 0 ≤ Xi S 904 49 ∧ Xi S 904 49 ≤ 12 := hH.c _ _
  refine l_aload_n rfl rfl ?_
  refine l_gfr rfl rfl rfl rfl rfl (hH.r 904 50 942 rfl) ?_
  refine l_aload_n rfl rfl ?_
  refine l_gfi rfl rfl rfl rfl rfl ?_
  refine l_iload_n rfl rfl ?_
  refine l_iastore (n := 12) rfl rfl (by omega) (by omega) (by unfold rg; omega) ?_
  obtain ⟨U1, eU1⟩ : ∃ T : sS, T = uI S 942 (((Xi S 904 49)).toNat) (Int32.ofInt kind) := ⟨_, rfl⟩
  rw [← eU1]
  have hHU1 : HI U1 := by rw [eU1]; exact HI_w hH (show -2 ≤ kind by omega) (show kind ≤ 15 by omega)
  have hFU1 : FR md_mo_addAction S U1 := by rw [eU1]; exact FR.wI hF (mdf_i (r := (942, 943, 0, 100000)) (List.mem_of_getElem? (i := 1) rfl) (inR_i (by omega) (by omega) (by omega) (by omega)))
  have w2 : Xi U1 942 (((Xi S 904 49)).toNat) = kind := by rw [eU1]; exact Xi_same (by unfold rg; omega)
  have o9 : ∀ j : Nat, (j : Int) < Xi S 904 49 → Xi U1 942 j = Xi S 942 j := fun j hj => by rw [eU1, Xi_ne (by omega)]
  refine l_aload_n rfl rfl ?_
  refine l_dup rfl rfl ?_
  refine l_gfi rfl rfl rfl rfl rfl ?_
  have w3 : (Xi U1 904 49) = (Xi S 904 49) := (show Xi U1 904 49 = Xi S 904 49 from by rw [eU1]; exact Xi_ne (by omega))
  rw [w3]
  refine l_iconst rfl ?_
  refine l_iadd rfl ?_
  refine l_pfi rfl rfl rfl rfl ?_
  obtain ⟨U2, eU2⟩ : ∃ T : sS, T = uI U1 904 49 (Int32.ofInt ((Xi S 904 49) + 1)) := ⟨_, rfl⟩
  rw [← eU2]
  have hHU2 : HI U2 := by rw [eU2]; exact HI_w hHU1 (show 0 ≤ ((Xi S 904 49) + 1) by omega) (show ((Xi S 904 49) + 1) ≤ 12 by omega)
  have hFU2 : FR md_mo_addAction S U2 := by rw [eU2]; exact FR.wI hFU1 (mdf_i (r := (904, 905, 49, 50)) (List.mem_of_getElem? (i := 0) rfl) (inR_i (by omega) (by omega) (by omega) (by omega)))
  have w4 : Xi U2 904 49 = ((Xi S 904 49) + 1) := by rw [eU2]; exact Xi_same (by unfold rg; omega)
  have o17 : ∀ j : Nat, (j : Int) < Xi S 904 49 → Xi U2 942 j = Xi S 942 j := fun j hj => by rw [eU2, Xi_ne (by omega)]; exact o9 j hj
  refine l_aload_n rfl rfl ?_
  refine l_gfi rfl rfl rfl rfl rfl ?_
  refine l_iconst rfl ?_
  refine l_isub rfl ?_
  refine l_ireturn rfl rfl ?_
  have w5 : Xi U2 942 (Xi S 904 49).toNat = Xi U1 942 (Xi S 904 49).toNat := (show Xi U2 942 (Xi S 904 49).toNat = Xi U1 942 (Xi S 904 49).toNat from by rw [eU2]; exact Xi_ne (by omega))
  have w6 : 0 ≤ Xi U2 904 49 ∧ Xi U2 904 49 ≤ 12 := hHU2.c _ _
  exact ⟨hHU2, hFU2, _, rfl, ⟨by omega, by omega⟩, (by omega), (by omega), (⟨by omega, o17⟩)⟩
def md_mo_addAdjective : List rec := [(904, 905, 23, 24), (921, 922, 0, 100000), (922, 923, 0, 100000), (924, 925, 0, 100000)]
abbrev Q_mo_addAdjective (S : sS) (kind : Int) (oth : Int) : pst := fun r S1 => HI S1 ∧ FR md_mo_addAdjective S S1 ∧ (∃ z : Int, r = some (iv z) ∧ (0 ≤ z ∧ z ≤ 23) ∧ (z = Xi S 904 23) ∧ (Xi S1 904 23 = Xi S 904 23 + 1) ∧ (Xi S1 922 (Xi S 904 23).toNat = oth ∧ Xi S1 924 (Xi S 904 23).toNat = 0) ∧ (∀ j : Nat, (j : Int) < Xi S 904 23 → Xi S1 921 j = Xi S 921 j ∧ Xi S1 922 j = Xi S 922 j ∧ Xi S1 924 j = Xi S 924 j))
set_option maxRecDepth 100000 in
theorem t_mo_addAdjective {S : sS} (hH : HI S) (kind : Int) (oth : Int) (hkind : 0 ≤ kind ∧ kind ≤ 15) (hoth : -1 ≤ oth ∧ oth ≤ 23) (h : Xi S 904 23 ≤ 23) (d : Nat) : Mt lay0 (d + 1) m_mo_addAdjective [.ref 904, iv kind, iv oth] S (Q_mo_addAdjective S kind oth) := by
  refine Mt_R rfl rfl ?_
  have hF : FR md_mo_addAdjective S S := FR.rf
  have w1 : 0 ≤ Xi S 904 23 ∧ Xi S 904 23 ≤ 24 := hH.c _ _
  refine l_aload_n rfl rfl ?_
  refine l_gfr rfl rfl rfl rfl rfl (hH.r 904 24 921 rfl) ?_
  refine l_aload_n rfl rfl ?_
  refine l_gfi rfl rfl rfl rfl rfl ?_
  refine l_iload_n rfl rfl ?_
  refine l_iastore (n := 24) rfl rfl (by omega) (by omega) (by unfold rg; omega) ?_
  obtain ⟨U1, eU1⟩ : ∃ T : sS, T = uI S 921 (((Xi S 904 23)).toNat) (Int32.ofInt kind) := ⟨_, rfl⟩
  rw [← eU1]
  have hHU1 : HI U1 := by rw [eU1]; exact HI_w hH (show 0 ≤ kind by omega) (show kind ≤ 15 by omega)
  have hFU1 : FR md_mo_addAdjective S U1 := by rw [eU1]; exact FR.wI hF (mdf_i (r := (921, 922, 0, 100000)) (List.mem_of_getElem? (i := 1) rfl) (inR_i (by omega) (by omega) (by omega) (by omega)))
  have w2 : Xi U1 921 (((Xi S 904 23)).toNat) = kind := by rw [eU1]; exact Xi_same (by unfold rg; omega)
  have o9 : ∀ j : Nat, (j : Int) < Xi S 904 23 → Xi U1 921 j = Xi S 921 j ∧ Xi U1 922 j = Xi S 922 j ∧ Xi U1 924 j = Xi S 924 j := fun j hj => by rw [eU1, Xi_ne (by omega), Xi_ne (by omega), Xi_ne (by omega)]; exact ⟨rfl, rfl, rfl⟩
  refine l_aload_n rfl rfl ?_
  refine l_gfr rfl rfl rfl rfl rfl (hHU1.r 904 25 922 rfl) ?_
  refine l_aload_n rfl rfl ?_
  refine l_gfi rfl rfl rfl rfl rfl ?_
  have w3 : (Xi U1 904 23) = (Xi S 904 23) := (show Xi U1 904 23 = Xi S 904 23 from by rw [eU1]; exact Xi_ne (by omega))
  rw [w3]
  refine l_iload_n rfl rfl ?_
  refine l_iastore (n := 24) rfl rfl (by omega) (by omega) (by unfold rg; omega) ?_
  obtain ⟨U2, eU2⟩ : ∃ T : sS, T = uI U1 922 (((Xi S 904 23)).toNat) (Int32.ofInt oth) := ⟨_, rfl⟩
  rw [← eU2]
  have hHU2 : HI U2 := by rw [eU2]; exact HI_w hHU1 (show -1 ≤ oth by omega) (show oth ≤ 23 by omega)
  have hFU2 : FR md_mo_addAdjective S U2 := by rw [eU2]; exact FR.wI hFU1 (mdf_i (r := (922, 923, 0, 100000)) (List.mem_of_getElem? (i := 2) rfl) (inR_i (by omega) (by omega) (by omega) (by omega)))
  have w4 : Xi U2 922 (((Xi S 904 23)).toNat) = oth := by rw [eU2]; exact Xi_same (by unfold rg; omega)
  have o19 : ∀ j : Nat, (j : Int) < Xi S 904 23 → Xi U2 921 j = Xi S 921 j ∧ Xi U2 922 j = Xi S 922 j ∧ Xi U2 924 j = Xi S 924 j := fun j hj => by rw [eU2, Xi_ne (by omega), Xi_ne (by omega), Xi_ne (by omega)]; exact o9 j hj
  refine l_aload_n rfl rfl ?_
  refine l_gfr rfl rfl rfl rfl rfl (hHU2.r 904 27 924 rfl) ?_
  refine l_aload_n rfl rfl ?_
  refine l_gfi rfl rfl rfl rfl rfl ?_
  have w5 : (Xi U2 904 23) = (Xi S 904 23) := (show Xi U2 904 23 = Xi U1 904 23 from by rw [eU2]; exact Xi_ne (by omega)).trans ((show Xi U1 904 23 = Xi S 904 23 from by rw [eU1]; exact Xi_ne (by omega)))
  rw [w5]
  refine l_iconst rfl ?_
  refine l_iastore (n := 24) rfl rfl (by omega) (by omega) (by unfold rg; omega) ?_
  obtain ⟨U3, eU3⟩ : ∃ T : sS, T = uI U2 924 (((Xi S 904 23)).toNat) (Int32.ofInt 0) := ⟨_, rfl⟩
  rw [← eU3]
  have hHU3 : HI U3 := by rw [eU3]; exact HI_w hHU2 (show 0 ≤ 0 by omega) (show 0 ≤ 6 by omega)
  have hFU3 : FR md_mo_addAdjective S U3 := by rw [eU3]; exact FR.wI hFU2 (mdf_i (r := (924, 925, 0, 100000)) (List.mem_of_getElem? (i := 3) rfl) (inR_i (by omega) (by omega) (by omega) (by omega)))
  have w6 : Xi U3 924 (((Xi S 904 23)).toNat) = 0 := by rw [eU3]; exact Xi_same (by unfold rg; omega)
  have o29 : ∀ j : Nat, (j : Int) < Xi S 904 23 → Xi U3 921 j = Xi S 921 j ∧ Xi U3 922 j = Xi S 922 j ∧ Xi U3 924 j = Xi S 924 j := fun j hj => by rw [eU3, Xi_ne (by omega), Xi_ne (by omega), Xi_ne (by omega)]; exact o19 j hj
  refine l_aload_n rfl rfl ?_
  refine l_dup rfl rfl ?_
  refine l_gfi rfl rfl rfl rfl rfl ?_
  have w7 : (Xi U3 904 23) = (Xi S 904 23) := (show Xi U3 904 23 = Xi U2 904 23 from by rw [eU3]; exact Xi_ne (by omega)).trans ( (show Xi U2 904 23 = Xi U1 904 23 from by rw [eU2]; exact Xi_ne (by omega)).trans ((show Xi U1 904 23 = Xi S 904 23 from by rw [eU1]; exact Xi_ne (by omega))))
  rw [w7]
  refine l_iconst rfl ?_
  refine l_iadd rfl ?_
  refine l_pfi rfl rfl rfl rfl ?_
  obtain ⟨U4, eU4⟩ : ∃ T : sS, T = uI U3 904 23 (Int32.ofInt ((Xi S 904 23) + 1)) := ⟨_, rfl⟩
  rw [← eU4]
  have hHU4 : HI U4 := by rw [eU4]; exact HI_w hHU3 (show 0 ≤ ((Xi S 904 23) + 1) by omega) (show ((Xi S 904 23) + 1) ≤ 24 by omega)
  have hFU4 : FR md_mo_addAdjective S U4 := by rw [eU4]; exact FR.wI hFU3 (mdf_i (r := (904, 905, 23, 24)) (List.mem_of_getElem? (i := 0) rfl) (inR_i (by omega) (by omega) (by omega) (by omega)))
  have w8 : Xi U4 904 23 = ((Xi S 904 23) + 1) := by rw [eU4]; exact Xi_same (by unfold rg; omega)
  have o37 : ∀ j : Nat, (j : Int) < Xi S 904 23 → Xi U4 921 j = Xi S 921 j ∧ Xi U4 922 j = Xi S 922 j ∧ Xi U4 924 j = Xi S 924 j := fun j hj => by rw [eU4, Xi_ne (by omega), Xi_ne (by omega), Xi_ne (by omega)]; exact o29 j hj
  refine l_aload_n rfl rfl ?_
  refine l_gfi rfl rfl rfl rfl rfl ?_
  refine l_iconst rfl ?_
  refine l_isub rfl ?_
  refine l_ireturn rfl rfl ?_
  have w9 : Xi U4 922 (Xi S 904 23).toNat = Xi U2 922 (Xi S 904 23).toNat := (show Xi U4 922 (Xi S 904 23).toNat = Xi U3 922 (Xi S 904 23).toNat from by rw [eU4]; exact Xi_ne (by omega)).trans ((show Xi U3 922 (Xi S 904 23).toNat = Xi U2 922 (Xi S 904 23).toNat from by rw [eU3]; exact Xi_ne (by omega)))
  have w10 : Xi U4 924 (Xi S 904 23).toNat = Xi U3 924 (Xi S 904 23).toNat := (show Xi U4 924 (Xi S 904 23).toNat = Xi U3 924 (Xi S 904 23).toNat from by rw [eU4]; exact Xi_ne (by omega))
  have w11 : 0 ≤ Xi U4 904 23 ∧ Xi U4 904 23 ≤ 24 := hHU4.c _ _
  exact ⟨hHU4, hFU4, _, rfl, ⟨by omega, by omega⟩, (by omega), (by omega), (by omega), (o37)⟩
def md_mo_cut : List rec := [(907, 908, 0, 100000), (908, 909, 0, 100000), (909, 910, 0, 100000), (910, 911, 0, 100000)]
abbrev Q_mo_cut (S : sS) : pst := fun r S1 => HI S1 ∧ FR md_mo_cut S S1 ∧ (r = none ∧ (∃ n : Nat, TK S1 n ∧ TXK S1 n))
set_option maxRecDepth 100000 in
set_option maxHeartbeats 4000000 in
theorem t_mo_cut {S : sS} (hH : HI S) (hK : KWM S) (d : Nat) : Mt lay0 (d + 4) m_mo_cut [.ref 904] S (Q_mo_cut S) := by
  refine Mt_R rfl rfl ?_
  have hF : FR md_mo_cut S S := FR.rf
  have w1 : 0 ≤ Xi S 904 3 ∧ Xi S 904 3 ≤ 5000 := hH.c _ _
  have hst : 0 ≤ Xi S 904 3 ∧ Xi S 904 3 ≤ 5000 := hH.c _ _
  have C8 : ∀ (n8 : Nat) (T1 : sS) (_ : HI T1) (_ : FR md_mo_cut S T1) (v1 : Int) (v2 : Int), (0 ≤ v1 ∧ v1 ≤ 5000) → (0 ≤ v2 ∧ v2 ≤ 5001) → (CT T1 v1 v2) → (CT T1 v1 (Xi S 904 3)) → (v1 ≤ v2) → (v1 ≤ Xi S 904 3) → (Xi T1 904 3 = Xi S 904 3) → n8 = (5002 - v2).toNat → Rl lay0 (d + 3) m_mo_cut 8 [(0, .ref 904), (1, iv v1), (2, iv v2)] [] T1 (Q_mo_cut S) := by
    intro n8
    induction n8 using Nat.strongRecOn with
    | ind n8 ih8 =>
      intro T1 hHT1 hFT1 v1 v2 w2 w3 C8 D8 w4 w5 w6 hm8
      have w7 : Xi T1 904 3 = Xi S 904 3 := hFT1.x _ _ rfl
      have w8 : 0 ≤ Xi T1 904 3 ∧ Xi T1 904 3 ≤ 5000 := hHT1.c _ _
      have C426 : ∀  (T2 : sS) (_ : HI T2) (_ : FR md_mo_cut S T2) (v1 : Int) (v4 : Int), (0 ≤ v1 ∧ v1 ≤ 5000) → (0 ≤ v4 ∧ v4 ≤ 5001) → (CT T2 v1 (Xi T2 908 (v1).toNat)) → (v1 ≤ Xi T2 908 (v1).toNat) → (Xi T2 908 (v1).toNat < Xi S 904 3) → (Xi T2 904 3 = Xi S 904 3) → (Xi T2 908 (v1).toNat < v4) → (v4 ≤ Xi S 904 3 + 1) → (Xi T2 907 (v1).toNat ≠ 1) → (Xi T2 907 (v1).toNat = 5 → Xi T2 908 (v1).toNat + 1 + Xi T2 909 (v1).toNat ≤ 5000) → (K3 (Xi T2 907 (v1).toNat) → Xi T2 908 (v1).toNat + 3 ≤ v4 ∧ Xi T2 908 (v1).toNat + 3 ≤ Xi S 904 3) → ((5002 - v2).toNat ≤ n8) → Rl lay0 (d + 3) m_mo_cut 426 [(0, .ref 904), (1, iv v1), (4, iv v4)] [] T2 (Q_mo_cut S) := by
        intro T2 hHT2 hFT2 v1 v4 w9 w10 C426 w11 w12 w13 w14 w15 w16 w17 K426 w18
        have w19 : Xi T2 904 3 = Xi S 904 3 := hFT2.x _ _ rfl
        have w20 : 0 ≤ Xi T2 904 3 ∧ Xi T2 904 3 ≤ 5000 := hHT2.c _ _
        refine l_iinc rfl rfl rfl rfl ?_
        refine l_aload_n rfl rfl ?_
        refine l_iload rfl rfl ?_
        have w21 : 0 ≤ Xi T2 904 3 ∧ Xi T2 904 3 ≤ 5000 := hHT2.c _ _
        refine l_callV rfl rfl rfl (t_mo_blanks hHT2 v4 ⟨by omega, by omega⟩ _) ?_
        rintro _ _ ⟨rfl, z24, rfl, w24, w22, w23⟩
        show Rl _ _ _ _ _ [iv z24] _ _
        refine l_istore_n rfl rfl rfl ?_
        refine l_goto rfl rfl ?_
        have w25 : 0 ≤ Xi T2 904 3 ∧ Xi T2 904 3 ≤ 5000 := hHT2.c _ _
        exact Rl_weak (ih8 _ (by omega) T2 hHT2 hFT2 ((v1 + 1)) (z24) (by omega) (by omega) (by first | exact CT.rf | exact C426.add (by omega) (by omega) (by omega) (by omega) (by omega) (fun q => by have := K426 q; omega)) (by first | exact CT.rf | exact C426.add (by omega) (by omega) (by omega) (by omega) (by omega) (fun q => by have := K426 q; omega)) (by omega) (by omega) (by omega) rfl) (And.intro rfl (And.intro rfl (And.intro rfl (True.intro))))
      have C58 : ∀ (n58 : Nat) (T3 : sS) (_ : HI T3) (_ : FR md_mo_cut S T3) (v1 : Int) (v2 : Int) (v4 : Int), (0 ≤ v1 ∧ v1 ≤ 5000) → (0 ≤ v2 ∧ v2 ≤ 4999) → (1 ≤ v4 ∧ v4 ≤ 5000) → (CT T3 v1 v2) → (v1 ≤ v2) → (v2 < Xi S 904 3) → (Xi T3 904 3 = Xi S 904 3) → (v2 < v4) → (v4 ≤ Xi S 904 3) → (Xi T3 908 (v1).toNat = v2) → (∀ i : Nat, v2 ≤ (i : Int) → (i : Int) < v4 → ltr (Xi S 906 i) = 1) → ((5002 - v2).toNat ≤ n8) → n58 = (5002 - v4).toNat → Rl lay0 (d + 3) m_mo_cut 58 [(0, .ref 904), (1, iv v1), (2, iv v2), (4, iv v4)] [] T3 (Q_mo_cut S) := by
        intro n58
        induction n58 using Nat.strongRecOn with
        | ind n58 ih58 =>
          intro T3 hHT3 hFT3 v1 v2 v4 w26 w27 w28 C58 w29 w30 w31 w32 w33 w34 L58 w35 hm58
          have w36 : Xi T3 904 3 = Xi S 904 3 := hFT3.x _ _ rfl
          have w37 : 0 ≤ Xi T3 904 3 ∧ Xi T3 904 3 ≤ 5000 := hHT3.c _ _
          have C86 : ∀  (T4 : sS) (_ : HI T4) (_ : FR md_mo_cut S T4) (v1 : Int) (v2 : Int) (v4 : Int), (0 ≤ v1 ∧ v1 ≤ 5000) → (0 ≤ v2 ∧ v2 ≤ 4999) → (1 ≤ v4 ∧ v4 ≤ 5000) → (CT T4 v1 v2) → (v1 ≤ v2) → (v2 < Xi S 904 3) → (Xi T4 904 3 = Xi S 904 3) → (v2 < v4) → (v4 ≤ Xi S 904 3) → (Xi T4 908 (v1).toNat = v2) → (∀ i : Nat, v2 ≤ (i : Int) → (i : Int) < v4 → ltr (Xi S 906 i) = 1) → ((5002 - v2).toNat ≤ n8) → Rl lay0 (d + 3) m_mo_cut 86 [(0, .ref 904), (1, iv v1), (2, iv v2), (4, iv v4)] [] T4 (Q_mo_cut S) := by
            intro T4 hHT4 hFT4 v1 v2 v4 w38 w39 w40 C86 w41 w42 w43 w44 w45 w46 L86 w47
            have w48 : Xi T4 904 3 = Xi S 904 3 := hFT4.x _ _ rfl
            have w49 : 0 ≤ Xi T4 904 3 ∧ Xi T4 904 3 ≤ 5000 := hHT4.c _ _
            refine l_iload rfl rfl ?_
            refine l_iload_n rfl rfl ?_
            refine l_isub rfl ?_
            refine l_bipush rfl rfl ?_
            refine l_icmp_gt rfl rfl (by unfold rg; omega) (by unfold rg; omega) (fun w50 => ?_) (fun w51 => ?_)
            · refine l_iconst rfl ?_
              refine l_istore rfl rfl rfl ?_
              refine l_aload_n rfl rfl ?_
              refine l_gfr rfl rfl rfl rfl rfl (hHT4.r 904 7 910 rfl) ?_
              refine l_iload_n rfl rfl ?_
              refine l_iload rfl rfl ?_
              refine l_if_eq rfl rfl (by unfold rg; omega) (fun w52 => ?_) (fun w53 => absurd w53 (by omega))
              · refine l_lconst (z := 0) rfl rfl ?_
                refine l_lastore (n := 5002) rfl rfl (by omega) (by omega) (by unfold rg; omega) ?_
                obtain ⟨U5, eU5⟩ : ∃ T : sS, T = uJ T4 910 ((v1).toNat) (Int64.ofInt 0) := ⟨_, rfl⟩
                rw [← eU5]
                have hHU5 : HI U5 := by rw [eU5]; exact HI_J hHT4
                have hFU5 : FR md_mo_cut S U5 := by rw [eU5]; exact FR.wJ hFT4 (mdf_i (r := (910, 911, 0, 100000)) (List.mem_of_getElem? (i := 3) rfl) (inR_i (by omega) (by omega) (by omega) (by omega)))
                have c128 : CT U5 v1 v2 := C86.mv (fun k _ _ i _ => by rw [eU5]; rfl)
                have x128 : v4 - v2 ≤ 2 → Xj U5 910 (v1).toNat < 1024 := fun q => by rw [eU5, Xj_same (by unfold rgL; omega)]; omega
                refine l_aload_n rfl rfl ?_
                refine l_gfr rfl rfl rfl rfl rfl (hHU5.r 904 4 907 rfl) ?_
                refine l_iload_n rfl rfl ?_
                refine l_iload rfl rfl ?_
                refine l_if_eq rfl rfl (by unfold rg; omega) (fun w54 => ?_) (fun w55 => absurd w55 (by omega))
                · refine l_iconst rfl ?_
                  refine l_iastore (n := 5002) rfl rfl (by omega) (by omega) (by unfold rg; omega) ?_
                  obtain ⟨U6, eU6⟩ : ∃ T : sS, T = uI U5 907 ((v1).toNat) (Int32.ofInt 2) := ⟨_, rfl⟩
                  rw [← eU6]
                  have hHU6 : HI U6 := by rw [eU6]; exact HI_w hHU5 (show 0 ≤ 2 by omega) (show 2 ≤ 154 by omega)
                  have hFU6 : FR md_mo_cut S U6 := by rw [eU6]; exact FR.wI hFU5 (mdf_i (r := (907, 908, 0, 100000)) (List.mem_of_getElem? (i := 0) rfl) (inR_i (by omega) (by omega) (by omega) (by omega)))
                  have w56 : Xi U6 907 ((v1).toNat) = 2 := by rw [eU6]; exact Xi_same (by unfold rg; omega)
                  have c153 : CT U6 v1 v2 := c128.w eU6 (by omega)
                  have k153 : K3 (Xi U6 907 (v1).toNat) → v2 + 3 ≤ v4 := by first | exact (fun q => z146 (by rw [← (by assumption : Xi U6 907 _ = _)]; exact q)) | exact (fun q => absurd q (by unfold K3; omega))
                  refine l_goto rfl rfl ?_
                  have w57 : Xi U6 908 (v1).toNat = Xi T4 908 (v1).toNat := (show Xi U6 908 (v1).toNat = Xi U5 908 (v1).toNat from by rw [eU6]; exact Xi_ne (by omega)).trans ((show Xi U5 908 (v1).toNat = Xi T4 908 (v1).toNat from by rw [eU5]; rfl))
                  have w58 : Xi U6 909 (v1).toNat = Xi T4 909 (v1).toNat := (show Xi U6 909 (v1).toNat = Xi U5 909 (v1).toNat from by rw [eU6]; exact Xi_ne (by omega)).trans ((show Xi U5 909 (v1).toNat = Xi T4 909 (v1).toNat from by rw [eU5]; rfl))
                  have w59 : Xi U6 904 3 = Xi T4 904 3 := (show Xi U6 904 3 = Xi U5 904 3 from by rw [eU6]; exact Xi_ne (by omega)).trans ((show Xi U5 904 3 = Xi T4 904 3 from by rw [eU5]; rfl))
                  have w60 : 0 ≤ Xi T4 904 3 ∧ Xi T4 904 3 ≤ 5000 := hHT4.c _ _
                  exact Rl_weak (C426 U6 hHU6 hFU6 (v1) (v4) (by omega) (by omega) (by rw [show Xi U6 908 (v1).toNat = v2 by omega]; assumption) (by omega) (by omega) (by omega) (by omega) (by omega) (by omega) (by omega) (by first | exact fun q => ⟨by have := k153 q; omega, by have := k153 q; omega⟩ | exact fun q => absurd q (by unfold K3; omega)) (by omega)) (And.intro rfl (And.intro rfl (And.intro rfl (True.intro))))
            · refine l_iconst rfl ?_
              refine l_goto rfl rfl ?_
              refine l_istore rfl rfl rfl ?_
              refine l_aload_n rfl rfl ?_
              refine l_gfr rfl rfl rfl rfl rfl (hHT4.r 904 7 910 rfl) ?_
              refine l_iload_n rfl rfl ?_
              refine l_iload rfl rfl ?_
              refine l_if_eq rfl rfl (by unfold rg; omega) (fun w61 => absurd w61 (by omega)) (fun w62 => ?_)
              · refine l_aload_n rfl rfl ?_
                refine l_gfr rfl rfl rfl rfl rfl (hHT4.r 904 2 906 rfl) ?_
                refine l_iload_n rfl rfl ?_
                refine l_iload rfl rfl ?_
                refine l_iload_n rfl rfl ?_
                refine l_isub rfl ?_
                have w63 : 0 ≤ Xi T4 904 3 ∧ Xi T4 904 3 ≤ 5000 := hHT4.c _ _
                refine l_callS rfl rfl (by decide) rfl (t_mo_wordOf__2 hHT4 906 v2 (v4 - v2) (Or.inr rfl) ⟨by omega, by omega⟩ ⟨by omega, by omega⟩ (by first | assumption | omega) (fun i a b => by rw [(hFT4.cx 906 rfl _).1]; exact L86 i a (by omega)) _) ?_
                rintro _ _ ⟨rfl, z65, rfl, w64⟩
                show Rl _ _ _ _ _ [jw z65, iv v1, .ref 910] _ _
                refine l_goto rfl rfl ?_
                refine l_lastore (n := 5002) rfl rfl (by omega) (by omega) (by unfold rg; omega) ?_
                obtain ⟨U7, eU7⟩ : ∃ T : sS, T = uJ T4 910 ((v1).toNat) (Int64.ofInt z65) := ⟨_, rfl⟩
                rw [← eU7]
                have hHU7 : HI U7 := by rw [eU7]; exact HI_J hHT4
                have hFU7 : FR md_mo_cut S U7 := by rw [eU7]; exact FR.wJ hFT4 (mdf_i (r := (910, 911, 0, 100000)) (List.mem_of_getElem? (i := 3) rfl) (inR_i (by omega) (by omega) (by omega) (by omega)))
                have c128 : CT U7 v1 v2 := C86.mv (fun k _ _ i _ => by rw [eU7]; rfl)
                have x128 : v4 - v2 ≤ 2 → Xj U7 910 (v1).toNat < 1024 := fun q => by rw [eU7, Xj_same (by unfold rgL; omega)]; omega
                refine l_aload_n rfl rfl ?_
                refine l_gfr rfl rfl rfl rfl rfl (hHU7.r 904 4 907 rfl) ?_
                refine l_iload_n rfl rfl ?_
                refine l_iload rfl rfl ?_
                refine l_if_eq rfl rfl (by unfold rg; omega) (fun w66 => absurd w66 (by omega)) (fun w67 => ?_)
                · refine l_aload_n rfl rfl ?_
                  refine l_aload_n rfl rfl ?_
                  refine l_gfr rfl rfl rfl rfl rfl (hHU7.r 904 7 910 rfl) ?_
                  refine l_iload_n rfl rfl ?_
                  refine l_laload (n := 5002) rfl rfl (by omega) (by omega) (by unfold rg; omega) ?_
                  have w68 : -9223372036854775808 ≤ (Xj U7 910 ((v1).toNat)) ∧ (Xj U7 910 ((v1).toNat)) < 9223372036854775808 := Xj_rg
                  have w69 : Xi U7 904 3 = Xi T4 904 3 := (show Xi U7 904 3 = Xi T4 904 3 from by rw [eU7]; rfl)
                  have w70 : 0 ≤ Xi T4 904 3 ∧ Xi T4 904 3 ≤ 5000 := hHT4.c _ _
                  refine l_callV rfl rfl rfl (t_mo_keyOf__2 hHU7 (Xj U7 910 ((v1).toNat)) (Xj_rg) _) ?_
                  rintro _ _ ⟨rfl, z72, rfl, w72, w71⟩
                  show Rl _ _ _ _ _ [iv z72, iv v1, .ref 907] _ _
                  have z146 : K3 z72 → v2 + 3 ≤ v4 := fun q => (by rcases (by omega : v2 + 3 ≤ v4 ∨ v4 - v2 ≤ 2) with h | h; exact h; exfalso; have a := (by assumption : z72 ≠ 3 → _) (by unfold K3 at q; omega); have b := hK z72 (by omega) (by omega) q; have e := (hFU7.cx 911 rfl (z72 - 100).toNat).2; have f := x128 h; omega)
                  refine l_goto rfl rfl ?_
                  refine l_iastore (n := 5002) rfl rfl (by omega) (by omega) (by unfold rg; omega) ?_
                  obtain ⟨U8, eU8⟩ : ∃ T : sS, T = uI U7 907 ((v1).toNat) (Int32.ofInt z72) := ⟨_, rfl⟩
                  rw [← eU8]
                  have hHU8 : HI U8 := by rw [eU8]; exact HI_w hHU7 (show 0 ≤ z72 by omega) (show z72 ≤ 154 by omega)
                  have hFU8 : FR md_mo_cut S U8 := by rw [eU8]; exact FR.wI hFU7 (mdf_i (r := (907, 908, 0, 100000)) (List.mem_of_getElem? (i := 0) rfl) (inR_i (by omega) (by omega) (by omega) (by omega)))
                  have w73 : Xi U8 907 ((v1).toNat) = z72 := by rw [eU8]; exact Xi_same (by unfold rg; omega)
                  have c153 : CT U8 v1 v2 := c128.w eU8 (by omega)
                  have k153 : K3 (Xi U8 907 (v1).toNat) → v2 + 3 ≤ v4 := by first | exact (fun q => z146 (by rw [← (by assumption : Xi U8 907 _ = _)]; exact q)) | exact (fun q => absurd q (by unfold K3; omega))
                  refine l_goto rfl rfl ?_
                  have w74 : Xi U8 908 (v1).toNat = Xi T4 908 (v1).toNat := (show Xi U8 908 (v1).toNat = Xi U7 908 (v1).toNat from by rw [eU8]; exact Xi_ne (by omega)).trans ((show Xi U7 908 (v1).toNat = Xi T4 908 (v1).toNat from by rw [eU7]; rfl))
                  have w75 : Xi U8 909 (v1).toNat = Xi T4 909 (v1).toNat := (show Xi U8 909 (v1).toNat = Xi U7 909 (v1).toNat from by rw [eU8]; exact Xi_ne (by omega)).trans ((show Xi U7 909 (v1).toNat = Xi T4 909 (v1).toNat from by rw [eU7]; rfl))
                  have w76 : Xi U8 904 3 = Xi T4 904 3 := (show Xi U8 904 3 = Xi U7 904 3 from by rw [eU8]; exact Xi_ne (by omega)).trans ((show Xi U7 904 3 = Xi T4 904 3 from by rw [eU7]; rfl))
                  have w77 : 0 ≤ Xi T4 904 3 ∧ Xi T4 904 3 ≤ 5000 := hHT4.c _ _
                  exact Rl_weak (C426 U8 hHU8 hFU8 (v1) (v4) (by omega) (by omega) (by rw [show Xi U8 908 (v1).toNat = v2 by omega]; assumption) (by omega) (by omega) (by omega) (by omega) (by omega) (by omega) (by omega) (by first | exact fun q => ⟨by have := k153 q; omega, by have := k153 q; omega⟩ | exact fun q => absurd q (by unfold K3; omega)) (by omega)) (And.intro rfl (And.intro rfl (And.intro rfl (True.intro))))
          refine l_iload rfl rfl ?_
          refine l_aload_n rfl rfl ?_
          refine l_gfi rfl rfl rfl rfl rfl ?_
          refine l_icmp_ge rfl rfl (by unfold rg; omega) (by unfold rg; omega) (fun w78 => ?_) (fun w79 => ?_)
          · have w80 : 0 ≤ Xi T3 904 3 ∧ Xi T3 904 3 ≤ 5000 := hHT3.c _ _
            exact Rl_weak (C86 T3 hHT3 hFT3 (v1) (v2) (v4) (by omega) (by omega) (by omega) (C58) (by omega) (by omega) (by omega) (by omega) (by omega) (by omega) (L58) (by omega)) (And.intro rfl (And.intro rfl (And.intro rfl (And.intro rfl (True.intro)))))
          · refine l_aload_n rfl rfl ?_
            refine l_gfr rfl rfl rfl rfl rfl (hHT3.r 904 2 906 rfl) ?_
            refine l_iload rfl rfl ?_
            refine l_baload (n := 5000) rfl rfl rfl (by decide) (by omega) (by omega) (by unfold rg; omega) ?_
            have w81 : -128 ≤ (Xi T3 906 ((v4).toNat)) ∧ (Xi T3 906 ((v4).toNat)) ≤ 127 := hHT3.c _ _
            have e73 : (Xi T3 906 ((v4).toNat)) = Xi S 906 (v4).toNat := by first | rfl | exact (hFT3.cx 906 rfl _).1
            have w82 : 0 ≤ Xi T3 904 3 ∧ Xi T3 904 3 ≤ 5000 := hHT3.c _ _
            refine l_callS rfl rfl (by decide) rfl (t_mo_isLetter hHT3 (Xi T3 906 ((v4).toNat)) ⟨by omega, by omega⟩ _) ?_
            rintro _ _ ⟨rfl, z84, rfl, w84, w83⟩
            show Rl _ _ _ _ _ [iv z84] _ _
            have l74 : z84 = 1 → ltr (Xi S 906 (v4).toNat) = 1 := fun q => by rw [← e73, ← (by assumption : z84 = ltr _)]; exact q
            refine l_if_eq rfl rfl (by unfold rg; omega) (fun w85 => ?_) (fun w86 => ?_)
            · have w87 : 0 ≤ Xi T3 904 3 ∧ Xi T3 904 3 ≤ 5000 := hHT3.c _ _
              exact Rl_weak (C86 T3 hHT3 hFT3 (v1) (v2) (v4) (by omega) (by omega) (by omega) (C58) (by omega) (by omega) (by omega) (by omega) (by omega) (by omega) (L58) (by omega)) (And.intro rfl (And.intro rfl (And.intro rfl (And.intro rfl (True.intro)))))
            · refine l_iinc rfl rfl rfl rfl ?_
              refine l_goto rfl rfl ?_
              have w88 : 0 ≤ Xi T3 904 3 ∧ Xi T3 904 3 ≤ 5000 := hHT3.c _ _
              exact Rl_weak (ih58 _ (by omega) T3 hHT3 hFT3 (v1) (v2) ((v4 + 1)) (by omega) (by omega) (by omega) (by first | exact C58 | exact c50) (by omega) (by omega) (by omega) (by omega) (by omega) (by omega) (by first | exact (fun i a b => (Int.lt_or_le (i : Int) v4).elim (fun q => L58 i a q) (fun q => by rw [show i = (v4).toNat by omega]; exact l74 (by omega))) | exact (fun i a b => by rw [show i = (v2).toNat by omega]; exact l52 (by omega))) (by omega) rfl) (And.intro rfl (And.intro rfl (And.intro rfl (And.intro rfl (True.intro)))))
      have C174 : ∀ (n174 : Nat) (T9 : sS) (_ : HI T9) (_ : FR md_mo_cut S T9) (v1 : Int) (v2 : Int) (v4 : Int) (v5 : Int), (0 ≤ v1 ∧ v1 ≤ 5000) → (0 ≤ v2 ∧ v2 ≤ 4999) → (0 ≤ v4 ∧ v4 ≤ 5000) → (CT T9 v1 v2) → (v1 ≤ v2) → (v2 < Xi S 904 3) → (Xi T9 904 3 = Xi S 904 3) → (v4 ≤ Xi S 904 3) → (Xi T9 908 (v1).toNat = v2) → (v2 ≤ v4) → ((5002 - v2).toNat ≤ n8) → n174 = (5002 - v4).toNat → Rl lay0 (d + 3) m_mo_cut 174 [(0, .ref 904), (1, iv v1), (2, iv v2), (4, iv v4), (5, jw v5)] [] T9 (Q_mo_cut S) := by
        intro n174
        induction n174 using Nat.strongRecOn with
        | ind n174 ih174 =>
          intro T9 hHT9 hFT9 v1 v2 v4 v5 w89 w90 w91 C174 w92 w93 w94 w95 w96 w97 w98 hm174
          have w99 : Xi T9 904 3 = Xi S 904 3 := hFT9.x _ _ rfl
          have w100 : 0 ≤ Xi T9 904 3 ∧ Xi T9 904 3 ≤ 5000 := hHT9.c _ _
          have C241 : ∀  (T10 : sS) (_ : HI T10) (_ : FR md_mo_cut S T10) (v1 : Int) (v2 : Int) (v4 : Int) (v5 : Int), (0 ≤ v1 ∧ v1 ≤ 5000) → (0 ≤ v2 ∧ v2 ≤ 4999) → (0 ≤ v4 ∧ v4 ≤ 5000) → (CT T10 v1 v2) → (v1 ≤ v2) → (v2 < Xi S 904 3) → (Xi T10 904 3 = Xi S 904 3) → (v4 ≤ Xi S 904 3) → (Xi T10 908 (v1).toNat = v2) → (v2 ≤ v4) → ((5002 - v2).toNat ≤ n8) → Rl lay0 (d + 3) m_mo_cut 241 [(0, .ref 904), (1, iv v1), (2, iv v2), (4, iv v4), (5, jw v5)] [] T10 (Q_mo_cut S) := by
            intro T10 hHT10 hFT10 v1 v2 v4 v5 w101 w102 w103 C241 w104 w105 w106 w107 w108 w109 w110
            have w111 : Xi T10 904 3 = Xi S 904 3 := hFT10.x _ _ rfl
            have w112 : 0 ≤ Xi T10 904 3 ∧ Xi T10 904 3 ≤ 5000 := hHT10.c _ _
            refine l_aload_n rfl rfl ?_
            refine l_gfr rfl rfl rfl rfl rfl (hHT10.r 904 7 910 rfl) ?_
            refine l_iload_n rfl rfl ?_
            refine l_lload rfl rfl ?_
            refine l_lastore (n := 5002) rfl rfl (by omega) (by omega) (by unfold rg; omega) ?_
            obtain ⟨U11, eU11⟩ : ∃ T : sS, T = uJ T10 910 ((v1).toNat) (Int64.ofInt v5) := ⟨_, rfl⟩
            rw [← eU11]
            have hHU11 : HI U11 := by rw [eU11]; exact HI_J hHT10
            have hFU11 : FR md_mo_cut S U11 := by rw [eU11]; exact FR.wJ hFT10 (mdf_i (r := (910, 911, 0, 100000)) (List.mem_of_getElem? (i := 3) rfl) (inR_i (by omega) (by omega) (by omega) (by omega)))
            have c248 : CT U11 v1 v2 := C241.mv (fun k _ _ i _ => by rw [eU11]; rfl)
            refine l_aload_n rfl rfl ?_
            refine l_gfr rfl rfl rfl rfl rfl (hHU11.r 904 4 907 rfl) ?_
            refine l_iload_n rfl rfl ?_
            refine l_iload rfl rfl ?_
            refine l_iload_n rfl rfl ?_
            refine l_isub rfl ?_
            refine l_bipush rfl rfl ?_
            refine l_icmp_le rfl rfl (by unfold rg; omega) (by unfold rg; omega) (fun w113 => ?_) (fun w114 => ?_)
            · refine l_iconst rfl ?_
              refine l_iastore (n := 5002) rfl rfl (by omega) (by omega) (by unfold rg; omega) ?_
              obtain ⟨U12, eU12⟩ : ∃ T : sS, T = uI U11 907 ((v1).toNat) (Int32.ofInt 4) := ⟨_, rfl⟩
              rw [← eU12]
              have hHU12 : HI U12 := by rw [eU12]; exact HI_w hHU11 (show 0 ≤ 4 by omega) (show 4 ≤ 154 by omega)
              have hFU12 : FR md_mo_cut S U12 := by rw [eU12]; exact FR.wI hFU11 (mdf_i (r := (907, 908, 0, 100000)) (List.mem_of_getElem? (i := 0) rfl) (inR_i (by omega) (by omega) (by omega) (by omega)))
              have w115 : Xi U12 907 ((v1).toNat) = 4 := by rw [eU12]; exact Xi_same (by unfold rg; omega)
              have c268 : CT U12 v1 v2 := c248.w eU12 (by omega)
              refine l_goto rfl rfl ?_
              have w116 : Xi U12 908 (v1).toNat = Xi T10 908 (v1).toNat := (show Xi U12 908 (v1).toNat = Xi U11 908 (v1).toNat from by rw [eU12]; exact Xi_ne (by omega)).trans ((show Xi U11 908 (v1).toNat = Xi T10 908 (v1).toNat from by rw [eU11]; rfl))
              have w117 : Xi U12 909 (v1).toNat = Xi T10 909 (v1).toNat := (show Xi U12 909 (v1).toNat = Xi U11 909 (v1).toNat from by rw [eU12]; exact Xi_ne (by omega)).trans ((show Xi U11 909 (v1).toNat = Xi T10 909 (v1).toNat from by rw [eU11]; rfl))
              have w118 : Xi U12 904 3 = Xi T10 904 3 := (show Xi U12 904 3 = Xi U11 904 3 from by rw [eU12]; exact Xi_ne (by omega)).trans ((show Xi U11 904 3 = Xi T10 904 3 from by rw [eU11]; rfl))
              have w119 : 0 ≤ Xi T10 904 3 ∧ Xi T10 904 3 ≤ 5000 := hHT10.c _ _
              exact Rl_weak (C426 U12 hHU12 hFU12 (v1) (v4) (by omega) (by omega) (by rw [show Xi U12 908 (v1).toNat = v2 by omega]; assumption) (by omega) (by omega) (by omega) (by omega) (by omega) (by omega) (by omega) (by first | exact fun q => ⟨by have := k153 q; omega, by have := k153 q; omega⟩ | exact fun q => absurd q (by unfold K3; omega)) (by omega)) (And.intro rfl (And.intro rfl (And.intro rfl (True.intro))))
            · refine l_iconst rfl ?_
              refine l_goto rfl rfl ?_
              refine l_iastore (n := 5002) rfl rfl (by omega) (by omega) (by unfold rg; omega) ?_
              obtain ⟨U13, eU13⟩ : ∃ T : sS, T = uI U11 907 ((v1).toNat) (Int32.ofInt 2) := ⟨_, rfl⟩
              rw [← eU13]
              have hHU13 : HI U13 := by rw [eU13]; exact HI_w hHU11 (show 0 ≤ 2 by omega) (show 2 ≤ 154 by omega)
              have hFU13 : FR md_mo_cut S U13 := by rw [eU13]; exact FR.wI hFU11 (mdf_i (r := (907, 908, 0, 100000)) (List.mem_of_getElem? (i := 0) rfl) (inR_i (by omega) (by omega) (by omega) (by omega)))
              have w120 : Xi U13 907 ((v1).toNat) = 2 := by rw [eU13]; exact Xi_same (by unfold rg; omega)
              have c268 : CT U13 v1 v2 := c248.w eU13 (by omega)
              refine l_goto rfl rfl ?_
              have w121 : Xi U13 908 (v1).toNat = Xi T10 908 (v1).toNat := (show Xi U13 908 (v1).toNat = Xi U11 908 (v1).toNat from by rw [eU13]; exact Xi_ne (by omega)).trans ((show Xi U11 908 (v1).toNat = Xi T10 908 (v1).toNat from by rw [eU11]; rfl))
              have w122 : Xi U13 909 (v1).toNat = Xi T10 909 (v1).toNat := (show Xi U13 909 (v1).toNat = Xi U11 909 (v1).toNat from by rw [eU13]; exact Xi_ne (by omega)).trans ((show Xi U11 909 (v1).toNat = Xi T10 909 (v1).toNat from by rw [eU11]; rfl))
              have w123 : Xi U13 904 3 = Xi T10 904 3 := (show Xi U13 904 3 = Xi U11 904 3 from by rw [eU13]; exact Xi_ne (by omega)).trans ((show Xi U11 904 3 = Xi T10 904 3 from by rw [eU11]; rfl))
              have w124 : 0 ≤ Xi T10 904 3 ∧ Xi T10 904 3 ≤ 5000 := hHT10.c _ _
              exact Rl_weak (C426 U13 hHU13 hFU13 (v1) (v4) (by omega) (by omega) (by rw [show Xi U13 908 (v1).toNat = v2 by omega]; assumption) (by omega) (by omega) (by omega) (by omega) (by omega) (by omega) (by omega) (by first | exact fun q => ⟨by have := k153 q; omega, by have := k153 q; omega⟩ | exact fun q => absurd q (by unfold K3; omega)) (by omega)) (And.intro rfl (And.intro rfl (And.intro rfl (True.intro))))
          refine l_iload rfl rfl ?_
          refine l_aload_n rfl rfl ?_
          refine l_gfi rfl rfl rfl rfl rfl ?_
          refine l_icmp_ge rfl rfl (by unfold rg; omega) (by unfold rg; omega) (fun w125 => ?_) (fun w126 => ?_)
          · have w127 : 0 ≤ Xi T9 904 3 ∧ Xi T9 904 3 ≤ 5000 := hHT9.c _ _
            exact Rl_weak (C241 T9 hHT9 hFT9 (v1) (v2) (v4) (v5) (by omega) (by omega) (by omega) (C174) (by omega) (by omega) (by omega) (by omega) (by omega) (by omega) (by omega)) (And.intro rfl (And.intro rfl (And.intro rfl (And.intro rfl (And.intro rfl (True.intro))))))
          · refine l_aload_n rfl rfl ?_
            refine l_gfr rfl rfl rfl rfl rfl (hHT9.r 904 2 906 rfl) ?_
            refine l_iload rfl rfl ?_
            refine l_baload (n := 5000) rfl rfl rfl (by decide) (by omega) (by omega) (by unfold rg; omega) ?_
            have w128 : -128 ≤ (Xi T9 906 ((v4).toNat)) ∧ (Xi T9 906 ((v4).toNat)) ≤ 127 := hHT9.c _ _
            refine l_bipush rfl rfl ?_
            refine l_bipush rfl rfl ?_
            have w129 : 0 ≤ Xi T9 904 3 ∧ Xi T9 904 3 ≤ 5000 := hHT9.c _ _
            refine l_callS rfl rfl (by decide) rfl (t_mo_in hHT9 (Xi T9 906 ((v4).toNat)) 48 57 ⟨by omega, by omega⟩ ⟨by omega, by omega⟩ ⟨by omega, by omega⟩ _) ?_
            rintro _ _ ⟨rfl, z131, rfl, w131, w130⟩
            show Rl _ _ _ _ _ [iv z131] _ _
            refine l_if_eq rfl rfl (by unfold rg; omega) (fun w132 => ?_) (fun w133 => ?_)
            · have w134 : 0 ≤ Xi T9 904 3 ∧ Xi T9 904 3 ≤ 5000 := hHT9.c _ _
              exact Rl_weak (C241 T9 hHT9 hFT9 (v1) (v2) (v4) (v5) (by omega) (by omega) (by omega) (C174) (by omega) (by omega) (by omega) (by omega) (by omega) (by omega) (by omega)) (And.intro rfl (And.intro rfl (And.intro rfl (And.intro rfl (And.intro rfl (True.intro))))))
            · refine l_iload rfl rfl ?_
              refine l_iload_n rfl rfl ?_
              refine l_isub rfl ?_
              refine l_bipush rfl rfl ?_
              refine l_icmp_ge rfl rfl (by unfold rg; omega) (by unfold rg; omega) (fun w135 => ?_) (fun w136 => ?_)
              · refine l_lload rfl rfl ?_
                refine l_lstore rfl rfl rfl rfl ?_
                refine l_iinc rfl rfl rfl rfl ?_
                refine l_goto rfl rfl ?_
                have w137 : 0 ≤ Xi T9 904 3 ∧ Xi T9 904 3 ≤ 5000 := hHT9.c _ _
                exact Rl_weak (ih174 _ (by omega) T9 hHT9 hFT9 (v1) (v2) ((v4 + 1)) (v5) (by omega) (by omega) (by omega) (by first | exact C174 | exact c50) (by omega) (by omega) (by omega) (by omega) (by omega) (by omega) (by omega) rfl) (And.intro rfl (And.intro rfl (And.intro rfl (And.intro rfl (And.intro rfl (True.intro))))))
              · refine l_ldc2 (z := 10) rfl rfl ?_
                refine l_lload rfl rfl ?_
                refine l_lmul rfl ?_
                refine l_aload_n rfl rfl ?_
                refine l_gfr rfl rfl rfl rfl rfl (hHT9.r 904 2 906 rfl) ?_
                refine l_iload rfl rfl ?_
                refine l_baload (n := 5000) rfl rfl rfl (by decide) (by omega) (by omega) (by unfold rg; omega) ?_
                refine l_i2l rfl (by unfold rg; omega) ?_
                refine l_ladd rfl ?_
                refine l_ldc2 (z := 48) rfl rfl ?_
                refine l_lsub rfl ?_
                refine l_goto rfl rfl ?_
                refine l_lstore rfl rfl rfl rfl ?_
                refine l_iinc rfl rfl rfl rfl ?_
                refine l_goto rfl rfl ?_
                have w138 : 0 ≤ Xi T9 904 3 ∧ Xi T9 904 3 ≤ 5000 := hHT9.c _ _
                exact Rl_weak (ih174 _ (by omega) T9 hHT9 hFT9 (v1) (v2) ((v4 + 1)) ((((10 * v5) + (Xi T9 906 ((v4).toNat))) - 48)) (by omega) (by omega) (by omega) (by first | exact C174 | exact c50) (by omega) (by omega) (by omega) (by omega) (by omega) (by omega) (by omega) rfl) (And.intro rfl (And.intro rfl (And.intro rfl (And.intro rfl (And.intro rfl (True.intro))))))
      have C281 : ∀ (n281 : Nat) (T14 : sS) (_ : HI T14) (_ : FR md_mo_cut S T14) (v1 : Int) (v2 : Int) (v4 : Int) (v5 : Int), (0 ≤ v1 ∧ v1 ≤ 5000) → (0 ≤ v2 ∧ v2 ≤ 4999) → (1 ≤ v4 ∧ v4 ≤ 5000) → (0 ≤ v5 ∧ v5 ≤ 1) → (CT T14 v1 v2) → (v1 ≤ v2) → (v2 < Xi S 904 3) → (Xi T14 904 3 = Xi S 904 3) → (v2 < v4) → (v4 ≤ Xi S 904 3) → (Xi T14 908 (v1).toNat = v2) → ((5002 - v2).toNat ≤ n8) → n281 = (5002 - v4).toNat → Rl lay0 (d + 3) m_mo_cut 281 [(0, .ref 904), (1, iv v1), (2, iv v2), (4, iv v4), (5, iv v5)] [] T14 (Q_mo_cut S) := by
        intro n281
        induction n281 using Nat.strongRecOn with
        | ind n281 ih281 =>
          intro T14 hHT14 hFT14 v1 v2 v4 v5 w139 w140 w141 w142 C281 w143 w144 w145 w146 w147 w148 w149 hm281
          have w150 : Xi T14 904 3 = Xi S 904 3 := hFT14.x _ _ rfl
          have w151 : 0 ≤ Xi T14 904 3 ∧ Xi T14 904 3 ≤ 5000 := hHT14.c _ _
          have C337 : ∀  (T15 : sS) (_ : HI T15) (_ : FR md_mo_cut S T15) (v1 : Int) (v2 : Int) (v4 : Int) (v5 : Int), (0 ≤ v1 ∧ v1 ≤ 5000) → (0 ≤ v2 ∧ v2 ≤ 4999) → (1 ≤ v4 ∧ v4 ≤ 5000) → (0 ≤ v5 ∧ v5 ≤ 1) → (CT T15 v1 v2) → (v1 ≤ v2) → (v2 < Xi S 904 3) → (Xi T15 904 3 = Xi S 904 3) → (v2 < v4) → (v4 ≤ Xi S 904 3) → (Xi T15 908 (v1).toNat = v2) → ((5002 - v2).toNat ≤ n8) → Rl lay0 (d + 3) m_mo_cut 337 [(0, .ref 904), (1, iv v1), (2, iv v2), (4, iv v4), (5, iv v5)] [] T15 (Q_mo_cut S) := by
            intro T15 hHT15 hFT15 v1 v2 v4 v5 w152 w153 w154 w155 C337 w156 w157 w158 w159 w160 w161 w162
            have w163 : Xi T15 904 3 = Xi S 904 3 := hFT15.x _ _ rfl
            have w164 : 0 ≤ Xi T15 904 3 ∧ Xi T15 904 3 ≤ 5000 := hHT15.c _ _
            refine l_aload_n rfl rfl ?_
            refine l_gfr rfl rfl rfl rfl rfl (hHT15.r 904 4 907 rfl) ?_
            refine l_iload_n rfl rfl ?_
            refine l_iload rfl rfl ?_
            refine l_if_eq rfl rfl (by unfold rg; omega) (fun w165 => ?_) (fun w166 => ?_)
            · refine l_iconst rfl ?_
              refine l_iastore (n := 5002) rfl rfl (by omega) (by omega) (by unfold rg; omega) ?_
              obtain ⟨U16, eU16⟩ : ∃ T : sS, T = uI T15 907 ((v1).toNat) (Int32.ofInt 2) := ⟨_, rfl⟩
              rw [← eU16]
              have hHU16 : HI U16 := by rw [eU16]; exact HI_w hHT15 (show 0 ≤ 2 by omega) (show 2 ≤ 154 by omega)
              have hFU16 : FR md_mo_cut S U16 := by rw [eU16]; exact FR.wI hFT15 (mdf_i (r := (907, 908, 0, 100000)) (List.mem_of_getElem? (i := 0) rfl) (inR_i (by omega) (by omega) (by omega) (by omega)))
              have w167 : Xi U16 907 ((v1).toNat) = 2 := by rw [eU16]; exact Xi_same (by unfold rg; omega)
              have c372 : CT U16 v1 v2 := C337.w eU16 (by omega)
              refine l_aload_n rfl rfl ?_
              refine l_gfr rfl rfl rfl rfl rfl (hHU16.r 904 6 909 rfl) ?_
              refine l_iload_n rfl rfl ?_
              refine l_iload rfl rfl ?_
              refine l_iload_n rfl rfl ?_
              refine l_isub rfl ?_
              refine l_iconst rfl ?_
              refine l_isub rfl ?_
              refine l_iastore (n := 5002) rfl rfl (by omega) (by omega) (by unfold rg; omega) ?_
              obtain ⟨U17, eU17⟩ : ∃ T : sS, T = uI U16 909 ((v1).toNat) (Int32.ofInt ((v4 - v2) - 1)) := ⟨_, rfl⟩
              rw [← eU17]
              have hHU17 : HI U17 := by rw [eU17]; exact HI_w hHU16 (show 0 ≤ ((v4 - v2) - 1) by omega) (show ((v4 - v2) - 1) ≤ 5000 by omega)
              have hFU17 : FR md_mo_cut S U17 := by rw [eU17]; exact FR.wI hFU16 (mdf_i (r := (909, 910, 0, 100000)) (List.mem_of_getElem? (i := 2) rfl) (inR_i (by omega) (by omega) (by omega) (by omega)))
              have w168 : Xi U17 909 ((v1).toNat) = ((v4 - v2) - 1) := by rw [eU17]; exact Xi_same (by unfold rg; omega)
              have c384 : CT U17 v1 v2 := c372.w eU17 (by omega)
              refine l_iinc rfl rfl rfl rfl ?_
              refine l_goto rfl rfl ?_
              have w169 : Xi U17 908 (v1).toNat = Xi T15 908 (v1).toNat := (show Xi U17 908 (v1).toNat = Xi U16 908 (v1).toNat from by rw [eU17]; exact Xi_ne (by omega)).trans ((show Xi U16 908 (v1).toNat = Xi T15 908 (v1).toNat from by rw [eU16]; exact Xi_ne (by omega)))
              have w170 : Xi U17 907 (v1).toNat = Xi U16 907 (v1).toNat := (show Xi U17 907 (v1).toNat = Xi U16 907 (v1).toNat from by rw [eU17]; exact Xi_ne (by omega))
              have w171 : Xi U17 904 3 = Xi T15 904 3 := (show Xi U17 904 3 = Xi U16 904 3 from by rw [eU17]; exact Xi_ne (by omega)).trans ((show Xi U16 904 3 = Xi T15 904 3 from by rw [eU16]; exact Xi_ne (by omega)))
              have w172 : 0 ≤ Xi T15 904 3 ∧ Xi T15 904 3 ≤ 5000 := hHT15.c _ _
              exact Rl_weak (C426 U17 hHU17 hFU17 (v1) ((v4 + 1)) (by omega) (by omega) (by rw [show Xi U17 908 (v1).toNat = v2 by omega]; assumption) (by omega) (by omega) (by omega) (by omega) (by omega) (by omega) (by omega) (by first | exact fun q => ⟨by have := k153 q; omega, by have := k153 q; omega⟩ | exact fun q => absurd q (by unfold K3; omega)) (by omega)) (And.intro rfl (And.intro rfl (And.intro rfl (True.intro))))
            · refine l_iload rfl rfl ?_
              refine l_aload_n rfl rfl ?_
              refine l_gfi rfl rfl rfl rfl rfl ?_
              refine l_icmp_ge rfl rfl (by unfold rg; omega) (by unfold rg; omega) (fun w173 => ?_) (fun w174 => ?_)
              · refine l_iconst rfl ?_
                refine l_iastore (n := 5002) rfl rfl (by omega) (by omega) (by unfold rg; omega) ?_
                obtain ⟨U18, eU18⟩ : ∃ T : sS, T = uI T15 907 ((v1).toNat) (Int32.ofInt 2) := ⟨_, rfl⟩
                rw [← eU18]
                have hHU18 : HI U18 := by rw [eU18]; exact HI_w hHT15 (show 0 ≤ 2 by omega) (show 2 ≤ 154 by omega)
                have hFU18 : FR md_mo_cut S U18 := by rw [eU18]; exact FR.wI hFT15 (mdf_i (r := (907, 908, 0, 100000)) (List.mem_of_getElem? (i := 0) rfl) (inR_i (by omega) (by omega) (by omega) (by omega)))
                have w175 : Xi U18 907 ((v1).toNat) = 2 := by rw [eU18]; exact Xi_same (by unfold rg; omega)
                have c372 : CT U18 v1 v2 := C337.w eU18 (by omega)
                refine l_aload_n rfl rfl ?_
                refine l_gfr rfl rfl rfl rfl rfl (hHU18.r 904 6 909 rfl) ?_
                refine l_iload_n rfl rfl ?_
                refine l_iload rfl rfl ?_
                refine l_iload_n rfl rfl ?_
                refine l_isub rfl ?_
                refine l_iconst rfl ?_
                refine l_isub rfl ?_
                refine l_iastore (n := 5002) rfl rfl (by omega) (by omega) (by unfold rg; omega) ?_
                obtain ⟨U19, eU19⟩ : ∃ T : sS, T = uI U18 909 ((v1).toNat) (Int32.ofInt ((v4 - v2) - 1)) := ⟨_, rfl⟩
                rw [← eU19]
                have hHU19 : HI U19 := by rw [eU19]; exact HI_w hHU18 (show 0 ≤ ((v4 - v2) - 1) by omega) (show ((v4 - v2) - 1) ≤ 5000 by omega)
                have hFU19 : FR md_mo_cut S U19 := by rw [eU19]; exact FR.wI hFU18 (mdf_i (r := (909, 910, 0, 100000)) (List.mem_of_getElem? (i := 2) rfl) (inR_i (by omega) (by omega) (by omega) (by omega)))
                have w176 : Xi U19 909 ((v1).toNat) = ((v4 - v2) - 1) := by rw [eU19]; exact Xi_same (by unfold rg; omega)
                have c384 : CT U19 v1 v2 := c372.w eU19 (by omega)
                refine l_iinc rfl rfl rfl rfl ?_
                refine l_goto rfl rfl ?_
                have w177 : Xi U19 908 (v1).toNat = Xi T15 908 (v1).toNat := (show Xi U19 908 (v1).toNat = Xi U18 908 (v1).toNat from by rw [eU19]; exact Xi_ne (by omega)).trans ((show Xi U18 908 (v1).toNat = Xi T15 908 (v1).toNat from by rw [eU18]; exact Xi_ne (by omega)))
                have w178 : Xi U19 907 (v1).toNat = Xi U18 907 (v1).toNat := (show Xi U19 907 (v1).toNat = Xi U18 907 (v1).toNat from by rw [eU19]; exact Xi_ne (by omega))
                have w179 : Xi U19 904 3 = Xi T15 904 3 := (show Xi U19 904 3 = Xi U18 904 3 from by rw [eU19]; exact Xi_ne (by omega)).trans ((show Xi U18 904 3 = Xi T15 904 3 from by rw [eU18]; exact Xi_ne (by omega)))
                have w180 : 0 ≤ Xi T15 904 3 ∧ Xi T15 904 3 ≤ 5000 := hHT15.c _ _
                exact Rl_weak (C426 U19 hHU19 hFU19 (v1) ((v4 + 1)) (by omega) (by omega) (by rw [show Xi U19 908 (v1).toNat = v2 by omega]; assumption) (by omega) (by omega) (by omega) (by omega) (by omega) (by omega) (by omega) (by first | exact fun q => ⟨by have := k153 q; omega, by have := k153 q; omega⟩ | exact fun q => absurd q (by unfold K3; omega)) (by omega)) (And.intro rfl (And.intro rfl (And.intro rfl (True.intro))))
              · refine l_iload rfl rfl ?_
                refine l_iload_n rfl rfl ?_
                refine l_isub rfl ?_
                refine l_iconst rfl ?_
                refine l_isub rfl ?_
                refine l_bipush rfl rfl ?_
                refine l_icmp_gt rfl rfl (by unfold rg; omega) (by unfold rg; omega) (fun w181 => ?_) (fun w182 => ?_)
                · refine l_iconst rfl ?_
                  refine l_iastore (n := 5002) rfl rfl (by omega) (by omega) (by unfold rg; omega) ?_
                  obtain ⟨U20, eU20⟩ : ∃ T : sS, T = uI T15 907 ((v1).toNat) (Int32.ofInt 2) := ⟨_, rfl⟩
                  rw [← eU20]
                  have hHU20 : HI U20 := by rw [eU20]; exact HI_w hHT15 (show 0 ≤ 2 by omega) (show 2 ≤ 154 by omega)
                  have hFU20 : FR md_mo_cut S U20 := by rw [eU20]; exact FR.wI hFT15 (mdf_i (r := (907, 908, 0, 100000)) (List.mem_of_getElem? (i := 0) rfl) (inR_i (by omega) (by omega) (by omega) (by omega)))
                  have w183 : Xi U20 907 ((v1).toNat) = 2 := by rw [eU20]; exact Xi_same (by unfold rg; omega)
                  have c372 : CT U20 v1 v2 := C337.w eU20 (by omega)
                  refine l_aload_n rfl rfl ?_
                  refine l_gfr rfl rfl rfl rfl rfl (hHU20.r 904 6 909 rfl) ?_
                  refine l_iload_n rfl rfl ?_
                  refine l_iload rfl rfl ?_
                  refine l_iload_n rfl rfl ?_
                  refine l_isub rfl ?_
                  refine l_iconst rfl ?_
                  refine l_isub rfl ?_
                  refine l_iastore (n := 5002) rfl rfl (by omega) (by omega) (by unfold rg; omega) ?_
                  obtain ⟨U21, eU21⟩ : ∃ T : sS, T = uI U20 909 ((v1).toNat) (Int32.ofInt ((v4 - v2) - 1)) := ⟨_, rfl⟩
                  rw [← eU21]
                  have hHU21 : HI U21 := by rw [eU21]; exact HI_w hHU20 (show 0 ≤ ((v4 - v2) - 1) by omega) (show ((v4 - v2) - 1) ≤ 5000 by omega)
                  have hFU21 : FR md_mo_cut S U21 := by rw [eU21]; exact FR.wI hFU20 (mdf_i (r := (909, 910, 0, 100000)) (List.mem_of_getElem? (i := 2) rfl) (inR_i (by omega) (by omega) (by omega) (by omega)))
                  have w184 : Xi U21 909 ((v1).toNat) = ((v4 - v2) - 1) := by rw [eU21]; exact Xi_same (by unfold rg; omega)
                  have c384 : CT U21 v1 v2 := c372.w eU21 (by omega)
                  refine l_iinc rfl rfl rfl rfl ?_
                  refine l_goto rfl rfl ?_
                  have w185 : Xi U21 908 (v1).toNat = Xi T15 908 (v1).toNat := (show Xi U21 908 (v1).toNat = Xi U20 908 (v1).toNat from by rw [eU21]; exact Xi_ne (by omega)).trans ((show Xi U20 908 (v1).toNat = Xi T15 908 (v1).toNat from by rw [eU20]; exact Xi_ne (by omega)))
                  have w186 : Xi U21 907 (v1).toNat = Xi U20 907 (v1).toNat := (show Xi U21 907 (v1).toNat = Xi U20 907 (v1).toNat from by rw [eU21]; exact Xi_ne (by omega))
                  have w187 : Xi U21 904 3 = Xi T15 904 3 := (show Xi U21 904 3 = Xi U20 904 3 from by rw [eU21]; exact Xi_ne (by omega)).trans ((show Xi U20 904 3 = Xi T15 904 3 from by rw [eU20]; exact Xi_ne (by omega)))
                  have w188 : 0 ≤ Xi T15 904 3 ∧ Xi T15 904 3 ≤ 5000 := hHT15.c _ _
                  exact Rl_weak (C426 U21 hHU21 hFU21 (v1) ((v4 + 1)) (by omega) (by omega) (by rw [show Xi U21 908 (v1).toNat = v2 by omega]; assumption) (by omega) (by omega) (by omega) (by omega) (by omega) (by omega) (by omega) (by first | exact fun q => ⟨by have := k153 q; omega, by have := k153 q; omega⟩ | exact fun q => absurd q (by unfold K3; omega)) (by omega)) (And.intro rfl (And.intro rfl (And.intro rfl (True.intro))))
                · refine l_iconst rfl ?_
                  refine l_goto rfl rfl ?_
                  refine l_iastore (n := 5002) rfl rfl (by omega) (by omega) (by unfold rg; omega) ?_
                  obtain ⟨U22, eU22⟩ : ∃ T : sS, T = uI T15 907 ((v1).toNat) (Int32.ofInt 5) := ⟨_, rfl⟩
                  rw [← eU22]
                  have hHU22 : HI U22 := by rw [eU22]; exact HI_w hHT15 (show 0 ≤ 5 by omega) (show 5 ≤ 154 by omega)
                  have hFU22 : FR md_mo_cut S U22 := by rw [eU22]; exact FR.wI hFT15 (mdf_i (r := (907, 908, 0, 100000)) (List.mem_of_getElem? (i := 0) rfl) (inR_i (by omega) (by omega) (by omega) (by omega)))
                  have w189 : Xi U22 907 ((v1).toNat) = 5 := by rw [eU22]; exact Xi_same (by unfold rg; omega)
                  have c372 : CT U22 v1 v2 := C337.w eU22 (by omega)
                  refine l_aload_n rfl rfl ?_
                  refine l_gfr rfl rfl rfl rfl rfl (hHU22.r 904 6 909 rfl) ?_
                  refine l_iload_n rfl rfl ?_
                  refine l_iload rfl rfl ?_
                  refine l_iload_n rfl rfl ?_
                  refine l_isub rfl ?_
                  refine l_iconst rfl ?_
                  refine l_isub rfl ?_
                  refine l_iastore (n := 5002) rfl rfl (by omega) (by omega) (by unfold rg; omega) ?_
                  obtain ⟨U23, eU23⟩ : ∃ T : sS, T = uI U22 909 ((v1).toNat) (Int32.ofInt ((v4 - v2) - 1)) := ⟨_, rfl⟩
                  rw [← eU23]
                  have hHU23 : HI U23 := by rw [eU23]; exact HI_w hHU22 (show 0 ≤ ((v4 - v2) - 1) by omega) (show ((v4 - v2) - 1) ≤ 5000 by omega)
                  have hFU23 : FR md_mo_cut S U23 := by rw [eU23]; exact FR.wI hFU22 (mdf_i (r := (909, 910, 0, 100000)) (List.mem_of_getElem? (i := 2) rfl) (inR_i (by omega) (by omega) (by omega) (by omega)))
                  have w190 : Xi U23 909 ((v1).toNat) = ((v4 - v2) - 1) := by rw [eU23]; exact Xi_same (by unfold rg; omega)
                  have c384 : CT U23 v1 v2 := c372.w eU23 (by omega)
                  refine l_iinc rfl rfl rfl rfl ?_
                  refine l_goto rfl rfl ?_
                  have w191 : Xi U23 908 (v1).toNat = Xi T15 908 (v1).toNat := (show Xi U23 908 (v1).toNat = Xi U22 908 (v1).toNat from by rw [eU23]; exact Xi_ne (by omega)).trans ((show Xi U22 908 (v1).toNat = Xi T15 908 (v1).toNat from by rw [eU22]; exact Xi_ne (by omega)))
                  have w192 : Xi U23 907 (v1).toNat = Xi U22 907 (v1).toNat := (show Xi U23 907 (v1).toNat = Xi U22 907 (v1).toNat from by rw [eU23]; exact Xi_ne (by omega))
                  have w193 : Xi U23 904 3 = Xi T15 904 3 := (show Xi U23 904 3 = Xi U22 904 3 from by rw [eU23]; exact Xi_ne (by omega)).trans ((show Xi U22 904 3 = Xi T15 904 3 from by rw [eU22]; exact Xi_ne (by omega)))
                  have w194 : 0 ≤ Xi T15 904 3 ∧ Xi T15 904 3 ≤ 5000 := hHT15.c _ _
                  exact Rl_weak (C426 U23 hHU23 hFU23 (v1) ((v4 + 1)) (by omega) (by omega) (by rw [show Xi U23 908 (v1).toNat = v2 by omega]; assumption) (by omega) (by omega) (by omega) (by omega) (by omega) (by omega) (by omega) (by first | exact fun q => ⟨by have := k153 q; omega, by have := k153 q; omega⟩ | exact fun q => absurd q (by unfold K3; omega)) (by omega)) (And.intro rfl (And.intro rfl (And.intro rfl (True.intro))))
          refine l_iload rfl rfl ?_
          refine l_aload_n rfl rfl ?_
          refine l_gfi rfl rfl rfl rfl rfl ?_
          refine l_icmp_ge rfl rfl (by unfold rg; omega) (by unfold rg; omega) (fun w195 => ?_) (fun w196 => ?_)
          · have w197 : 0 ≤ Xi T14 904 3 ∧ Xi T14 904 3 ≤ 5000 := hHT14.c _ _
            exact Rl_weak (C337 T14 hHT14 hFT14 (v1) (v2) (v4) (v5) (by omega) (by omega) (by omega) (by omega) (C281) (by omega) (by omega) (by omega) (by omega) (by omega) (by omega) (by omega)) (And.intro rfl (And.intro rfl (And.intro rfl (And.intro rfl (And.intro rfl (True.intro))))))
          · refine l_aload_n rfl rfl ?_
            refine l_gfr rfl rfl rfl rfl rfl (hHT14.r 904 2 906 rfl) ?_
            refine l_iload rfl rfl ?_
            refine l_baload (n := 5000) rfl rfl rfl (by decide) (by omega) (by omega) (by unfold rg; omega) ?_
            have w198 : -128 ≤ (Xi T14 906 ((v4).toNat)) ∧ (Xi T14 906 ((v4).toNat)) ≤ 127 := hHT14.c _ _
            refine l_bipush rfl rfl ?_
            refine l_icmp_eq rfl rfl (by unfold rg; omega) (by unfold rg; omega) (fun w199 => ?_) (fun w200 => ?_)
            · have w201 : 0 ≤ Xi T14 904 3 ∧ Xi T14 904 3 ≤ 5000 := hHT14.c _ _
              exact Rl_weak (C337 T14 hHT14 hFT14 (v1) (v2) (v4) (v5) (by omega) (by omega) (by omega) (by omega) (C281) (by omega) (by omega) (by omega) (by omega) (by omega) (by omega) (by omega)) (And.intro rfl (And.intro rfl (And.intro rfl (And.intro rfl (And.intro rfl (True.intro))))))
            · refine l_iload rfl rfl ?_
              refine l_if_eq rfl rfl (by unfold rg; omega) (fun w202 => ?_) (fun w203 => ?_)
              · refine l_iconst rfl ?_
                refine l_istore rfl rfl rfl ?_
                refine l_iinc rfl rfl rfl rfl ?_
                refine l_goto rfl rfl ?_
                have w204 : 0 ≤ Xi T14 904 3 ∧ Xi T14 904 3 ≤ 5000 := hHT14.c _ _
                exact Rl_weak (ih281 _ (by omega) T14 hHT14 hFT14 (v1) (v2) ((v4 + 1)) (0) (by omega) (by omega) (by omega) (by omega) (by first | exact C281 | exact c50) (by omega) (by omega) (by omega) (by omega) (by omega) (by omega) (by omega) rfl) (And.intro rfl (And.intro rfl (And.intro rfl (And.intro rfl (And.intro rfl (True.intro))))))
              · refine l_aload_n rfl rfl ?_
                refine l_gfr rfl rfl rfl rfl rfl (hHT14.r 904 2 906 rfl) ?_
                refine l_iload rfl rfl ?_
                refine l_baload (n := 5000) rfl rfl rfl (by decide) (by omega) (by omega) (by unfold rg; omega) ?_
                refine l_bipush rfl rfl ?_
                refine l_bipush rfl rfl ?_
                have w205 : 0 ≤ Xi T14 904 3 ∧ Xi T14 904 3 ≤ 5000 := hHT14.c _ _
                refine l_callS rfl rfl (by decide) rfl (t_mo_in hHT14 (Xi T14 906 ((v4).toNat)) 32 126 ⟨by omega, by omega⟩ ⟨by omega, by omega⟩ ⟨by omega, by omega⟩ _) ?_
                rintro _ _ ⟨rfl, z207, rfl, w207, w206⟩
                show Rl _ _ _ _ _ [iv z207] _ _
                refine l_if_eq rfl rfl (by unfold rg; omega) (fun w208 => ?_) (fun w209 => ?_)
                · refine l_iconst rfl ?_
                  refine l_istore rfl rfl rfl ?_
                  refine l_iinc rfl rfl rfl rfl ?_
                  refine l_goto rfl rfl ?_
                  have w210 : 0 ≤ Xi T14 904 3 ∧ Xi T14 904 3 ≤ 5000 := hHT14.c _ _
                  exact Rl_weak (ih281 _ (by omega) T14 hHT14 hFT14 (v1) (v2) ((v4 + 1)) (0) (by omega) (by omega) (by omega) (by omega) (by first | exact C281 | exact c50) (by omega) (by omega) (by omega) (by omega) (by omega) (by omega) (by omega) rfl) (And.intro rfl (And.intro rfl (And.intro rfl (And.intro rfl (And.intro rfl (True.intro))))))
                · refine l_iconst rfl ?_
                  refine l_goto rfl rfl ?_
                  refine l_istore rfl rfl rfl ?_
                  refine l_iinc rfl rfl rfl rfl ?_
                  refine l_goto rfl rfl ?_
                  have w211 : 0 ≤ Xi T14 904 3 ∧ Xi T14 904 3 ≤ 5000 := hHT14.c _ _
                  exact Rl_weak (ih281 _ (by omega) T14 hHT14 hFT14 (v1) (v2) ((v4 + 1)) (1) (by omega) (by omega) (by omega) (by omega) (by first | exact C281 | exact c50) (by omega) (by omega) (by omega) (by omega) (by omega) (by omega) (by omega) rfl) (And.intro rfl (And.intro rfl (And.intro rfl (And.intro rfl (And.intro rfl (True.intro))))))
      have C439 : ∀  (T24 : sS) (_ : HI T24) (_ : FR md_mo_cut S T24) (v1 : Int), (0 ≤ v1 ∧ v1 ≤ 5000) → (CT T24 v1 (Xi S 904 3)) → (v1 ≤ 5000) → (Xi T24 904 3 = Xi S 904 3) → Rl lay0 (d + 3) m_mo_cut 439 [(0, .ref 904), (1, iv v1)] [] T24 (Q_mo_cut S) := by
        intro T24 hHT24 hFT24 v1 w212 D439 w213 w214
        have w215 : Xi T24 904 3 = Xi S 904 3 := hFT24.x _ _ rfl
        have w216 : 0 ≤ Xi T24 904 3 ∧ Xi T24 904 3 ≤ 5000 := hHT24.c _ _
        refine l_aload_n rfl rfl ?_
        refine l_gfr rfl rfl rfl rfl rfl (hHT24.r 904 4 907 rfl) ?_
        refine l_iload_n rfl rfl ?_
        refine l_iconst rfl ?_
        refine l_iastore (n := 5002) rfl rfl (by omega) (by omega) (by unfold rg; omega) ?_
        obtain ⟨U25, eU25⟩ : ∃ T : sS, T = uI T24 907 ((v1).toNat) (Int32.ofInt 1) := ⟨_, rfl⟩
        rw [← eU25]
        have hHU25 : HI U25 := by rw [eU25]; exact HI_w hHT24 (show 0 ≤ 1 by omega) (show 1 ≤ 154 by omega)
        have hFU25 : FR md_mo_cut S U25 := by rw [eU25]; exact FR.wI hFT24 (mdf_i (r := (907, 908, 0, 100000)) (List.mem_of_getElem? (i := 0) rfl) (inR_i (by omega) (by omega) (by omega) (by omega)))
        have w217 : Xi U25 907 ((v1).toNat) = 1 := by rw [eU25]; exact Xi_same (by unfold rg; omega)
        refine l_aload_n rfl rfl ?_
        refine l_gfr rfl rfl rfl rfl rfl (hHU25.r 904 5 908 rfl) ?_
        refine l_iload_n rfl rfl ?_
        refine l_aload_n rfl rfl ?_
        refine l_gfi rfl rfl rfl rfl rfl ?_
        have w218 : (Xi U25 904 3) = (Xi T24 904 3) := (show Xi U25 904 3 = Xi T24 904 3 from by rw [eU25]; exact Xi_ne (by omega))
        rw [w218]
        refine l_iastore (n := 5002) rfl rfl (by omega) (by omega) (by unfold rg; omega) ?_
        obtain ⟨U26, eU26⟩ : ∃ T : sS, T = uI U25 908 ((v1).toNat) (Int32.ofInt (Xi T24 904 3)) := ⟨_, rfl⟩
        rw [← eU26]
        have hHU26 : HI U26 := by rw [eU26]; exact HI_w hHU25 (show 0 ≤ (Xi T24 904 3) by omega) (show (Xi T24 904 3) ≤ 5000 by omega)
        have hFU26 : FR md_mo_cut S U26 := by rw [eU26]; exact FR.wI hFU25 (mdf_i (r := (908, 909, 0, 100000)) (List.mem_of_getElem? (i := 1) rfl) (inR_i (by omega) (by omega) (by omega) (by omega)))
        have w219 : Xi U26 908 ((v1).toNat) = (Xi T24 904 3) := by rw [eU26]; exact Xi_same (by unfold rg; omega)
        refine l_return rfl rfl ?_
        have w220 : Xi U26 907 (v1).toNat = Xi U25 907 (v1).toNat := (show Xi U26 907 (v1).toNat = Xi U25 907 (v1).toNat from by rw [eU26]; exact Xi_ne (by omega))
        have w221 : Xi U26 909 (v1).toNat = Xi T24 909 (v1).toNat := (show Xi U26 909 (v1).toNat = Xi U25 909 (v1).toNat from by rw [eU26]; exact Xi_ne (by omega)).trans ((show Xi U25 909 (v1).toNat = Xi T24 909 (v1).toNat from by rw [eU25]; exact Xi_ne (by omega)))
        have w222 : Xi U26 904 3 = Xi T24 904 3 := (show Xi U26 904 3 = Xi U25 904 3 from by rw [eU26]; exact Xi_ne (by omega)).trans ((show Xi U25 904 3 = Xi T24 904 3 from by rw [eU25]; exact Xi_ne (by omega)))
        have w223 : 0 ≤ Xi T24 904 3 ∧ Xi T24 904 3 ≤ 5000 := hHT24.c _ _
        exact ⟨hHU26, hFU26, rfl, (⟨_, ct_tk D439 (by omega) (by omega) eU25 eU26 rfl rfl (by omega) (by omega)⟩)⟩
      refine l_iload_n rfl rfl ?_
      refine l_aload_n rfl rfl ?_
      refine l_gfi rfl rfl rfl rfl rfl ?_
      refine l_icmp_ge rfl rfl (by unfold rg; omega) (by unfold rg; omega) (fun w224 => ?_) (fun w225 => ?_)
      · have w226 : 0 ≤ Xi T1 904 3 ∧ Xi T1 904 3 ≤ 5000 := hHT1.c _ _
        exact Rl_weak (C439 T1 hHT1 hFT1 (v1) (by omega) (D8) (by omega) (by omega)) (And.intro rfl (And.intro rfl (True.intro)))
      · refine l_iload_n rfl rfl ?_
        refine l_if_eq rfl rfl (by unfold rg; omega) (fun w227 => ?_) (fun w228 => ?_)
        · refine l_aload_n rfl rfl ?_
          refine l_gfr rfl rfl rfl rfl rfl (hHT1.r 904 2 906 rfl) ?_
          refine l_iload_n rfl rfl ?_
          refine l_baload (n := 5000) rfl rfl rfl (by decide) (by omega) (by omega) (by unfold rg; omega) ?_
          have w229 : -128 ≤ (Xi T1 906 ((v2).toNat)) ∧ (Xi T1 906 ((v2).toNat)) ≤ 127 := hHT1.c _ _
          have e37 : (Xi T1 906 ((v2).toNat)) = Xi S 906 (v2).toNat := by first | rfl | exact (hFT1.cx 906 rfl _).1
          refine l_istore_n rfl rfl rfl ?_
          refine l_iload_n rfl rfl ?_
          refine l_iconst rfl ?_
          refine l_iadd rfl ?_
          refine l_istore rfl rfl rfl ?_
          refine l_aload_n rfl rfl ?_
          refine l_gfr rfl rfl rfl rfl rfl (hHT1.r 904 5 908 rfl) ?_
          refine l_iload_n rfl rfl ?_
          refine l_iload_n rfl rfl ?_
          refine l_iastore (n := 5002) rfl rfl (by omega) (by omega) (by unfold rg; omega) ?_
          obtain ⟨U27, eU27⟩ : ∃ T : sS, T = uI T1 908 ((v1).toNat) (Int32.ofInt v2) := ⟨_, rfl⟩
          rw [← eU27]
          have hHU27 : HI U27 := by rw [eU27]; exact HI_w hHT1 (show 0 ≤ v2 by omega) (show v2 ≤ 5000 by omega)
          have hFU27 : FR md_mo_cut S U27 := by rw [eU27]; exact FR.wI hFT1 (mdf_i (r := (908, 909, 0, 100000)) (List.mem_of_getElem? (i := 1) rfl) (inR_i (by omega) (by omega) (by omega) (by omega)))
          have w230 : Xi U27 908 ((v1).toNat) = v2 := by rw [eU27]; exact Xi_same (by unfold rg; omega)
          have c50 : CT U27 v1 v2 := C8.w eU27 (by omega)
          refine l_iload_n rfl rfl ?_
          have w231 : Xi U27 904 3 = Xi T1 904 3 := (show Xi U27 904 3 = Xi T1 904 3 from by rw [eU27]; exact Xi_ne (by omega))
          have w232 : 0 ≤ Xi T1 904 3 ∧ Xi T1 904 3 ≤ 5000 := hHT1.c _ _
          refine l_callS rfl rfl (by decide) rfl (t_mo_isLetter hHU27 (Xi T1 906 ((v2).toNat)) ⟨by omega, by omega⟩ _) ?_
          rintro _ _ ⟨rfl, z234, rfl, w234, w233⟩
          show Rl _ _ _ _ _ [iv z234] _ _
          have l52 : z234 = 1 → ltr (Xi S 906 (v2).toNat) = 1 := fun q => by rw [← e37, ← (by assumption : z234 = ltr _)]; exact q
          refine l_if_eq rfl rfl (by unfold rg; omega) (fun w235 => ?_) (fun w236 => ?_)
          · refine l_iload_n rfl rfl ?_
            refine l_bipush rfl rfl ?_
            refine l_bipush rfl rfl ?_
            have w237 : Xi U27 904 3 = Xi T1 904 3 := (show Xi U27 904 3 = Xi T1 904 3 from by rw [eU27]; exact Xi_ne (by omega))
            have w238 : 0 ≤ Xi T1 904 3 ∧ Xi T1 904 3 ≤ 5000 := hHT1.c _ _
            refine l_callS rfl rfl (by decide) rfl (t_mo_in hHU27 (Xi T1 906 ((v2).toNat)) 48 57 ⟨by omega, by omega⟩ ⟨by omega, by omega⟩ ⟨by omega, by omega⟩ _) ?_
            rintro _ _ ⟨rfl, z240, rfl, w240, w239⟩
            show Rl _ _ _ _ _ [iv z240] _ _
            refine l_if_eq rfl rfl (by unfold rg; omega) (fun w241 => ?_) (fun w242 => ?_)
            · refine l_iload_n rfl rfl ?_
              refine l_bipush rfl rfl ?_
              refine l_icmp_ne rfl rfl (by unfold rg; omega) (by unfold rg; omega) (fun w243 => ?_) (fun w244 => ?_)
              · refine l_aload_n rfl rfl ?_
                refine l_gfr rfl rfl rfl rfl rfl (hHU27.r 904 4 907 rfl) ?_
                refine l_iload_n rfl rfl ?_
                refine l_iload_n rfl rfl ?_
                refine l_bipush rfl rfl ?_
                refine l_icmp_eq rfl rfl (by unfold rg; omega) (by unfold rg; omega) (fun w245 => ?_) (fun w246 => ?_)
                · refine l_iload_n rfl rfl ?_
                  refine l_goto rfl rfl ?_
                  refine l_iastore (n := 5002) rfl rfl (by omega) (by omega) (by unfold rg; omega) ?_
                  obtain ⟨U28, eU28⟩ : ∃ T : sS, T = uI U27 907 ((v1).toNat) (Int32.ofInt (Xi T1 906 ((v2).toNat))) := ⟨_, rfl⟩
                  rw [← eU28]
                  have hHU28 : HI U28 := by rw [eU28]; exact HI_w hHU27 (show 0 ≤ (Xi T1 906 ((v2).toNat)) by omega) (show (Xi T1 906 ((v2).toNat)) ≤ 154 by omega)
                  have hFU28 : FR md_mo_cut S U28 := by rw [eU28]; exact FR.wI hFU27 (mdf_i (r := (907, 908, 0, 100000)) (List.mem_of_getElem? (i := 0) rfl) (inR_i (by omega) (by omega) (by omega) (by omega)))
                  have w247 : Xi U28 907 ((v1).toNat) = (Xi T1 906 ((v2).toNat)) := by rw [eU28]; exact Xi_same (by unfold rg; omega)
                  have c425 : CT U28 v1 v2 := c50.w eU28 (by omega)
                  have w248 : Xi U28 908 (v1).toNat = Xi U27 908 (v1).toNat := (show Xi U28 908 (v1).toNat = Xi U27 908 (v1).toNat from by rw [eU28]; exact Xi_ne (by omega))
                  have w249 : Xi U28 909 (v1).toNat = Xi T1 909 (v1).toNat := (show Xi U28 909 (v1).toNat = Xi U27 909 (v1).toNat from by rw [eU28]; exact Xi_ne (by omega)).trans ((show Xi U27 909 (v1).toNat = Xi T1 909 (v1).toNat from by rw [eU27]; exact Xi_ne (by omega)))
                  have w250 : Xi U28 904 3 = Xi T1 904 3 := (show Xi U28 904 3 = Xi U27 904 3 from by rw [eU28]; exact Xi_ne (by omega)).trans ((show Xi U27 904 3 = Xi T1 904 3 from by rw [eU27]; exact Xi_ne (by omega)))
                  have w251 : 0 ≤ Xi T1 904 3 ∧ Xi T1 904 3 ≤ 5000 := hHT1.c _ _
                  exact Rl_weak (C426 U28 hHU28 hFU28 (v1) ((v2 + 1)) (by omega) (by omega) (by rw [show Xi U28 908 (v1).toNat = v2 by omega]; assumption) (by omega) (by omega) (by omega) (by omega) (by omega) (by omega) (by omega) (by first | exact fun q => ⟨by have := k153 q; omega, by have := k153 q; omega⟩ | exact fun q => absurd q (by unfold K3; omega)) (by omega)) (And.intro rfl (And.intro rfl (And.intro rfl (True.intro))))
                · refine l_iload_n rfl rfl ?_
                  refine l_bipush rfl rfl ?_
                  refine l_icmp_eq rfl rfl (by unfold rg; omega) (by unfold rg; omega) (fun w252 => ?_) (fun w253 => ?_)
                  · refine l_iload_n rfl rfl ?_
                    refine l_goto rfl rfl ?_
                    refine l_iastore (n := 5002) rfl rfl (by omega) (by omega) (by unfold rg; omega) ?_
                    obtain ⟨U29, eU29⟩ : ∃ T : sS, T = uI U27 907 ((v1).toNat) (Int32.ofInt (Xi T1 906 ((v2).toNat))) := ⟨_, rfl⟩
                    rw [← eU29]
                    have hHU29 : HI U29 := by rw [eU29]; exact HI_w hHU27 (show 0 ≤ (Xi T1 906 ((v2).toNat)) by omega) (show (Xi T1 906 ((v2).toNat)) ≤ 154 by omega)
                    have hFU29 : FR md_mo_cut S U29 := by rw [eU29]; exact FR.wI hFU27 (mdf_i (r := (907, 908, 0, 100000)) (List.mem_of_getElem? (i := 0) rfl) (inR_i (by omega) (by omega) (by omega) (by omega)))
                    have w254 : Xi U29 907 ((v1).toNat) = (Xi T1 906 ((v2).toNat)) := by rw [eU29]; exact Xi_same (by unfold rg; omega)
                    have c425 : CT U29 v1 v2 := c50.w eU29 (by omega)
                    have w255 : Xi U29 908 (v1).toNat = Xi U27 908 (v1).toNat := (show Xi U29 908 (v1).toNat = Xi U27 908 (v1).toNat from by rw [eU29]; exact Xi_ne (by omega))
                    have w256 : Xi U29 909 (v1).toNat = Xi T1 909 (v1).toNat := (show Xi U29 909 (v1).toNat = Xi U27 909 (v1).toNat from by rw [eU29]; exact Xi_ne (by omega)).trans ((show Xi U27 909 (v1).toNat = Xi T1 909 (v1).toNat from by rw [eU27]; exact Xi_ne (by omega)))
                    have w257 : Xi U29 904 3 = Xi T1 904 3 := (show Xi U29 904 3 = Xi U27 904 3 from by rw [eU29]; exact Xi_ne (by omega)).trans ((show Xi U27 904 3 = Xi T1 904 3 from by rw [eU27]; exact Xi_ne (by omega)))
                    have w258 : 0 ≤ Xi T1 904 3 ∧ Xi T1 904 3 ≤ 5000 := hHT1.c _ _
                    exact Rl_weak (C426 U29 hHU29 hFU29 (v1) ((v2 + 1)) (by omega) (by omega) (by rw [show Xi U29 908 (v1).toNat = v2 by omega]; assumption) (by omega) (by omega) (by omega) (by omega) (by omega) (by omega) (by omega) (by first | exact fun q => ⟨by have := k153 q; omega, by have := k153 q; omega⟩ | exact fun q => absurd q (by unfold K3; omega)) (by omega)) (And.intro rfl (And.intro rfl (And.intro rfl (True.intro))))
                  · refine l_iload_n rfl rfl ?_
                    refine l_bipush rfl rfl ?_
                    refine l_icmp_eq rfl rfl (by unfold rg; omega) (by unfold rg; omega) (fun w259 => ?_) (fun w260 => ?_)
                    · refine l_iload_n rfl rfl ?_
                      refine l_goto rfl rfl ?_
                      refine l_iastore (n := 5002) rfl rfl (by omega) (by omega) (by unfold rg; omega) ?_
                      obtain ⟨U30, eU30⟩ : ∃ T : sS, T = uI U27 907 ((v1).toNat) (Int32.ofInt (Xi T1 906 ((v2).toNat))) := ⟨_, rfl⟩
                      rw [← eU30]
                      have hHU30 : HI U30 := by rw [eU30]; exact HI_w hHU27 (show 0 ≤ (Xi T1 906 ((v2).toNat)) by omega) (show (Xi T1 906 ((v2).toNat)) ≤ 154 by omega)
                      have hFU30 : FR md_mo_cut S U30 := by rw [eU30]; exact FR.wI hFU27 (mdf_i (r := (907, 908, 0, 100000)) (List.mem_of_getElem? (i := 0) rfl) (inR_i (by omega) (by omega) (by omega) (by omega)))
                      have w261 : Xi U30 907 ((v1).toNat) = (Xi T1 906 ((v2).toNat)) := by rw [eU30]; exact Xi_same (by unfold rg; omega)
                      have c425 : CT U30 v1 v2 := c50.w eU30 (by omega)
                      have w262 : Xi U30 908 (v1).toNat = Xi U27 908 (v1).toNat := (show Xi U30 908 (v1).toNat = Xi U27 908 (v1).toNat from by rw [eU30]; exact Xi_ne (by omega))
                      have w263 : Xi U30 909 (v1).toNat = Xi T1 909 (v1).toNat := (show Xi U30 909 (v1).toNat = Xi U27 909 (v1).toNat from by rw [eU30]; exact Xi_ne (by omega)).trans ((show Xi U27 909 (v1).toNat = Xi T1 909 (v1).toNat from by rw [eU27]; exact Xi_ne (by omega)))
                      have w264 : Xi U30 904 3 = Xi T1 904 3 := (show Xi U30 904 3 = Xi U27 904 3 from by rw [eU30]; exact Xi_ne (by omega)).trans ((show Xi U27 904 3 = Xi T1 904 3 from by rw [eU27]; exact Xi_ne (by omega)))
                      have w265 : 0 ≤ Xi T1 904 3 ∧ Xi T1 904 3 ≤ 5000 := hHT1.c _ _
                      exact Rl_weak (C426 U30 hHU30 hFU30 (v1) ((v2 + 1)) (by omega) (by omega) (by rw [show Xi U30 908 (v1).toNat = v2 by omega]; assumption) (by omega) (by omega) (by omega) (by omega) (by omega) (by omega) (by omega) (by first | exact fun q => ⟨by have := k153 q; omega, by have := k153 q; omega⟩ | exact fun q => absurd q (by unfold K3; omega)) (by omega)) (And.intro rfl (And.intro rfl (And.intro rfl (True.intro))))
                    · refine l_iload_n rfl rfl ?_
                      refine l_bipush rfl rfl ?_
                      refine l_icmp_ne rfl rfl (by unfold rg; omega) (by unfold rg; omega) (fun w266 => ?_) (fun w267 => ?_)
                      · refine l_iconst rfl ?_
                        refine l_iastore (n := 5002) rfl rfl (by omega) (by omega) (by unfold rg; omega) ?_
                        obtain ⟨U31, eU31⟩ : ∃ T : sS, T = uI U27 907 ((v1).toNat) (Int32.ofInt 2) := ⟨_, rfl⟩
                        rw [← eU31]
                        have hHU31 : HI U31 := by rw [eU31]; exact HI_w hHU27 (show 0 ≤ 2 by omega) (show 2 ≤ 154 by omega)
                        have hFU31 : FR md_mo_cut S U31 := by rw [eU31]; exact FR.wI hFU27 (mdf_i (r := (907, 908, 0, 100000)) (List.mem_of_getElem? (i := 0) rfl) (inR_i (by omega) (by omega) (by omega) (by omega)))
                        have w268 : Xi U31 907 ((v1).toNat) = 2 := by rw [eU31]; exact Xi_same (by unfold rg; omega)
                        have c425 : CT U31 v1 v2 := c50.w eU31 (by omega)
                        have w269 : Xi U31 908 (v1).toNat = Xi U27 908 (v1).toNat := (show Xi U31 908 (v1).toNat = Xi U27 908 (v1).toNat from by rw [eU31]; exact Xi_ne (by omega))
                        have w270 : Xi U31 909 (v1).toNat = Xi T1 909 (v1).toNat := (show Xi U31 909 (v1).toNat = Xi U27 909 (v1).toNat from by rw [eU31]; exact Xi_ne (by omega)).trans ((show Xi U27 909 (v1).toNat = Xi T1 909 (v1).toNat from by rw [eU27]; exact Xi_ne (by omega)))
                        have w271 : Xi U31 904 3 = Xi T1 904 3 := (show Xi U31 904 3 = Xi U27 904 3 from by rw [eU31]; exact Xi_ne (by omega)).trans ((show Xi U27 904 3 = Xi T1 904 3 from by rw [eU27]; exact Xi_ne (by omega)))
                        have w272 : 0 ≤ Xi T1 904 3 ∧ Xi T1 904 3 ≤ 5000 := hHT1.c _ _
                        exact Rl_weak (C426 U31 hHU31 hFU31 (v1) ((v2 + 1)) (by omega) (by omega) (by rw [show Xi U31 908 (v1).toNat = v2 by omega]; assumption) (by omega) (by omega) (by omega) (by omega) (by omega) (by omega) (by omega) (by first | exact fun q => ⟨by have := k153 q; omega, by have := k153 q; omega⟩ | exact fun q => absurd q (by unfold K3; omega)) (by omega)) (And.intro rfl (And.intro rfl (And.intro rfl (True.intro))))
                      · refine l_iload_n rfl rfl ?_
                        refine l_goto rfl rfl ?_
                        refine l_iastore (n := 5002) rfl rfl (by omega) (by omega) (by unfold rg; omega) ?_
                        obtain ⟨U32, eU32⟩ : ∃ T : sS, T = uI U27 907 ((v1).toNat) (Int32.ofInt (Xi T1 906 ((v2).toNat))) := ⟨_, rfl⟩
                        rw [← eU32]
                        have hHU32 : HI U32 := by rw [eU32]; exact HI_w hHU27 (show 0 ≤ (Xi T1 906 ((v2).toNat)) by omega) (show (Xi T1 906 ((v2).toNat)) ≤ 154 by omega)
                        have hFU32 : FR md_mo_cut S U32 := by rw [eU32]; exact FR.wI hFU27 (mdf_i (r := (907, 908, 0, 100000)) (List.mem_of_getElem? (i := 0) rfl) (inR_i (by omega) (by omega) (by omega) (by omega)))
                        have w273 : Xi U32 907 ((v1).toNat) = (Xi T1 906 ((v2).toNat)) := by rw [eU32]; exact Xi_same (by unfold rg; omega)
                        have c425 : CT U32 v1 v2 := c50.w eU32 (by omega)
                        have w274 : Xi U32 908 (v1).toNat = Xi U27 908 (v1).toNat := (show Xi U32 908 (v1).toNat = Xi U27 908 (v1).toNat from by rw [eU32]; exact Xi_ne (by omega))
                        have w275 : Xi U32 909 (v1).toNat = Xi T1 909 (v1).toNat := (show Xi U32 909 (v1).toNat = Xi U27 909 (v1).toNat from by rw [eU32]; exact Xi_ne (by omega)).trans ((show Xi U27 909 (v1).toNat = Xi T1 909 (v1).toNat from by rw [eU27]; exact Xi_ne (by omega)))
                        have w276 : Xi U32 904 3 = Xi T1 904 3 := (show Xi U32 904 3 = Xi U27 904 3 from by rw [eU32]; exact Xi_ne (by omega)).trans ((show Xi U27 904 3 = Xi T1 904 3 from by rw [eU27]; exact Xi_ne (by omega)))
                        have w277 : 0 ≤ Xi T1 904 3 ∧ Xi T1 904 3 ≤ 5000 := hHT1.c _ _
                        exact Rl_weak (C426 U32 hHU32 hFU32 (v1) ((v2 + 1)) (by omega) (by omega) (by rw [show Xi U32 908 (v1).toNat = v2 by omega]; assumption) (by omega) (by omega) (by omega) (by omega) (by omega) (by omega) (by omega) (by first | exact fun q => ⟨by have := k153 q; omega, by have := k153 q; omega⟩ | exact fun q => absurd q (by unfold K3; omega)) (by omega)) (And.intro rfl (And.intro rfl (And.intro rfl (True.intro))))
              · refine l_iconst rfl ?_
                refine l_istore rfl rfl rfl ?_
                have w278 : Xi U27 907 (v1).toNat = Xi T1 907 (v1).toNat := (show Xi U27 907 (v1).toNat = Xi T1 907 (v1).toNat from by rw [eU27]; exact Xi_ne (by omega))
                have w279 : Xi U27 909 (v1).toNat = Xi T1 909 (v1).toNat := (show Xi U27 909 (v1).toNat = Xi T1 909 (v1).toNat from by rw [eU27]; exact Xi_ne (by omega))
                have w280 : Xi U27 904 3 = Xi T1 904 3 := (show Xi U27 904 3 = Xi T1 904 3 from by rw [eU27]; exact Xi_ne (by omega))
                have w281 : 0 ≤ Xi T1 904 3 ∧ Xi T1 904 3 ≤ 5000 := hHT1.c _ _
                exact Rl_weak (C281 _ U27 hHU27 hFU27 (v1) (v2) ((v2 + 1)) (1) (by omega) (by omega) (by omega) (by omega) (by first | exact C281 | exact c50) (by omega) (by omega) (by omega) (by omega) (by omega) (by omega) (by omega) rfl) (And.intro rfl (And.intro rfl (And.intro rfl (And.intro rfl (And.intro rfl (True.intro))))))
            · refine l_lconst (z := 0) rfl rfl ?_
              refine l_lstore rfl rfl rfl rfl ?_
              refine l_iload_n rfl rfl ?_
              refine l_istore rfl rfl rfl ?_
              have w282 : Xi U27 907 (v1).toNat = Xi T1 907 (v1).toNat := (show Xi U27 907 (v1).toNat = Xi T1 907 (v1).toNat from by rw [eU27]; exact Xi_ne (by omega))
              have w283 : Xi U27 909 (v1).toNat = Xi T1 909 (v1).toNat := (show Xi U27 909 (v1).toNat = Xi T1 909 (v1).toNat from by rw [eU27]; exact Xi_ne (by omega))
              have w284 : Xi U27 904 3 = Xi T1 904 3 := (show Xi U27 904 3 = Xi T1 904 3 from by rw [eU27]; exact Xi_ne (by omega))
              have w285 : 0 ≤ Xi T1 904 3 ∧ Xi T1 904 3 ≤ 5000 := hHT1.c _ _
              exact Rl_weak (C174 _ U27 hHU27 hFU27 (v1) (v2) (v2) (0) (by omega) (by omega) (by omega) (by first | exact C174 | exact c50) (by omega) (by omega) (by omega) (by omega) (by omega) (by omega) (by omega) rfl) (And.intro rfl (And.intro rfl (And.intro rfl (And.intro rfl (And.intro rfl (True.intro))))))
          · have w286 : Xi U27 907 (v1).toNat = Xi T1 907 (v1).toNat := (show Xi U27 907 (v1).toNat = Xi T1 907 (v1).toNat from by rw [eU27]; exact Xi_ne (by omega))
            have w287 : Xi U27 909 (v1).toNat = Xi T1 909 (v1).toNat := (show Xi U27 909 (v1).toNat = Xi T1 909 (v1).toNat from by rw [eU27]; exact Xi_ne (by omega))
            have w288 : Xi U27 904 3 = Xi T1 904 3 := (show Xi U27 904 3 = Xi T1 904 3 from by rw [eU27]; exact Xi_ne (by omega))
            have w289 : 0 ≤ Xi T1 904 3 ∧ Xi T1 904 3 ≤ 5000 := hHT1.c _ _
            exact Rl_weak (C58 _ U27 hHU27 hFU27 (v1) (v2) ((v2 + 1)) (by omega) (by omega) (by omega) (by first | exact C58 | exact c50) (by omega) (by omega) (by omega) (by omega) (by omega) (by omega) (by first | exact (fun i a b => (Int.lt_or_le (i : Int) v4).elim (fun q => L58 i a q) (fun q => by rw [show i = (v4).toNat by omega]; exact l74 (by omega))) | exact (fun i a b => by rw [show i = (v2).toNat by omega]; exact l52 (by omega))) (by omega) rfl) (And.intro rfl (And.intro rfl (And.intro rfl (And.intro rfl (True.intro)))))
        · refine l_aload_n rfl rfl ?_
          refine l_gfr rfl rfl rfl rfl rfl (hHT1.r 904 4 907 rfl) ?_
          refine l_iload_n rfl rfl ?_
          refine l_iconst rfl ?_
          refine l_isub rfl ?_
          refine l_iaload (n := 5002) rfl rfl (by omega) (by omega) (by unfold rg; omega) ?_
          have w290 : 0 ≤ (Xi T1 907 (((v1 - 1)).toNat)) ∧ (Xi T1 907 (((v1 - 1)).toNat)) ≤ 154 := hHT1.c _ _
          refine l_iconst rfl ?_
          refine l_icmp_eq rfl rfl (by unfold rg; omega) (by unfold rg; omega) (fun w291 => ?_) (fun w292 => ?_)
          · have w293 : 0 ≤ Xi T1 904 3 ∧ Xi T1 904 3 ≤ 5000 := hHT1.c _ _
            exact Rl_weak (C439 T1 hHT1 hFT1 (v1) (by omega) (D8) (by omega) (by omega)) (And.intro rfl (And.intro rfl (True.intro)))
          · refine l_aload_n rfl rfl ?_
            refine l_gfr rfl rfl rfl rfl rfl (hHT1.r 904 2 906 rfl) ?_
            refine l_iload_n rfl rfl ?_
            refine l_baload (n := 5000) rfl rfl rfl (by decide) (by omega) (by omega) (by unfold rg; omega) ?_
            have w294 : -128 ≤ (Xi T1 906 ((v2).toNat)) ∧ (Xi T1 906 ((v2).toNat)) ≤ 127 := hHT1.c _ _
            have e37 : (Xi T1 906 ((v2).toNat)) = Xi S 906 (v2).toNat := by first | rfl | exact (hFT1.cx 906 rfl _).1
            refine l_istore_n rfl rfl rfl ?_
            refine l_iload_n rfl rfl ?_
            refine l_iconst rfl ?_
            refine l_iadd rfl ?_
            refine l_istore rfl rfl rfl ?_
            refine l_aload_n rfl rfl ?_
            refine l_gfr rfl rfl rfl rfl rfl (hHT1.r 904 5 908 rfl) ?_
            refine l_iload_n rfl rfl ?_
            refine l_iload_n rfl rfl ?_
            refine l_iastore (n := 5002) rfl rfl (by omega) (by omega) (by unfold rg; omega) ?_
            obtain ⟨U33, eU33⟩ : ∃ T : sS, T = uI T1 908 ((v1).toNat) (Int32.ofInt v2) := ⟨_, rfl⟩
            rw [← eU33]
            have hHU33 : HI U33 := by rw [eU33]; exact HI_w hHT1 (show 0 ≤ v2 by omega) (show v2 ≤ 5000 by omega)
            have hFU33 : FR md_mo_cut S U33 := by rw [eU33]; exact FR.wI hFT1 (mdf_i (r := (908, 909, 0, 100000)) (List.mem_of_getElem? (i := 1) rfl) (inR_i (by omega) (by omega) (by omega) (by omega)))
            have w295 : Xi U33 908 ((v1).toNat) = v2 := by rw [eU33]; exact Xi_same (by unfold rg; omega)
            have c50 : CT U33 v1 v2 := C8.w eU33 (by omega)
            refine l_iload_n rfl rfl ?_
            have w296 : Xi U33 904 3 = Xi T1 904 3 := (show Xi U33 904 3 = Xi T1 904 3 from by rw [eU33]; exact Xi_ne (by omega))
            have w297 : 0 ≤ Xi T1 904 3 ∧ Xi T1 904 3 ≤ 5000 := hHT1.c _ _
            refine l_callS rfl rfl (by decide) rfl (t_mo_isLetter hHU33 (Xi T1 906 ((v2).toNat)) ⟨by omega, by omega⟩ _) ?_
            rintro _ _ ⟨rfl, z299, rfl, w299, w298⟩
            show Rl _ _ _ _ _ [iv z299] _ _
            have l52 : z299 = 1 → ltr (Xi S 906 (v2).toNat) = 1 := fun q => by rw [← e37, ← (by assumption : z299 = ltr _)]; exact q
            refine l_if_eq rfl rfl (by unfold rg; omega) (fun w300 => ?_) (fun w301 => ?_)
            · refine l_iload_n rfl rfl ?_
              refine l_bipush rfl rfl ?_
              refine l_bipush rfl rfl ?_
              have w302 : Xi U33 904 3 = Xi T1 904 3 := (show Xi U33 904 3 = Xi T1 904 3 from by rw [eU33]; exact Xi_ne (by omega))
              have w303 : 0 ≤ Xi T1 904 3 ∧ Xi T1 904 3 ≤ 5000 := hHT1.c _ _
              refine l_callS rfl rfl (by decide) rfl (t_mo_in hHU33 (Xi T1 906 ((v2).toNat)) 48 57 ⟨by omega, by omega⟩ ⟨by omega, by omega⟩ ⟨by omega, by omega⟩ _) ?_
              rintro _ _ ⟨rfl, z305, rfl, w305, w304⟩
              show Rl _ _ _ _ _ [iv z305] _ _
              refine l_if_eq rfl rfl (by unfold rg; omega) (fun w306 => ?_) (fun w307 => ?_)
              · refine l_iload_n rfl rfl ?_
                refine l_bipush rfl rfl ?_
                refine l_icmp_ne rfl rfl (by unfold rg; omega) (by unfold rg; omega) (fun w308 => ?_) (fun w309 => ?_)
                · refine l_aload_n rfl rfl ?_
                  refine l_gfr rfl rfl rfl rfl rfl (hHU33.r 904 4 907 rfl) ?_
                  refine l_iload_n rfl rfl ?_
                  refine l_iload_n rfl rfl ?_
                  refine l_bipush rfl rfl ?_
                  refine l_icmp_eq rfl rfl (by unfold rg; omega) (by unfold rg; omega) (fun w310 => ?_) (fun w311 => ?_)
                  · refine l_iload_n rfl rfl ?_
                    refine l_goto rfl rfl ?_
                    refine l_iastore (n := 5002) rfl rfl (by omega) (by omega) (by unfold rg; omega) ?_
                    obtain ⟨U34, eU34⟩ : ∃ T : sS, T = uI U33 907 ((v1).toNat) (Int32.ofInt (Xi T1 906 ((v2).toNat))) := ⟨_, rfl⟩
                    rw [← eU34]
                    have hHU34 : HI U34 := by rw [eU34]; exact HI_w hHU33 (show 0 ≤ (Xi T1 906 ((v2).toNat)) by omega) (show (Xi T1 906 ((v2).toNat)) ≤ 154 by omega)
                    have hFU34 : FR md_mo_cut S U34 := by rw [eU34]; exact FR.wI hFU33 (mdf_i (r := (907, 908, 0, 100000)) (List.mem_of_getElem? (i := 0) rfl) (inR_i (by omega) (by omega) (by omega) (by omega)))
                    have w312 : Xi U34 907 ((v1).toNat) = (Xi T1 906 ((v2).toNat)) := by rw [eU34]; exact Xi_same (by unfold rg; omega)
                    have c425 : CT U34 v1 v2 := c50.w eU34 (by omega)
                    have w313 : Xi U34 908 (v1).toNat = Xi U33 908 (v1).toNat := (show Xi U34 908 (v1).toNat = Xi U33 908 (v1).toNat from by rw [eU34]; exact Xi_ne (by omega))
                    have w314 : Xi U34 909 (v1).toNat = Xi T1 909 (v1).toNat := (show Xi U34 909 (v1).toNat = Xi U33 909 (v1).toNat from by rw [eU34]; exact Xi_ne (by omega)).trans ((show Xi U33 909 (v1).toNat = Xi T1 909 (v1).toNat from by rw [eU33]; exact Xi_ne (by omega)))
                    have w315 : Xi U34 904 3 = Xi T1 904 3 := (show Xi U34 904 3 = Xi U33 904 3 from by rw [eU34]; exact Xi_ne (by omega)).trans ((show Xi U33 904 3 = Xi T1 904 3 from by rw [eU33]; exact Xi_ne (by omega)))
                    have w316 : 0 ≤ Xi T1 904 3 ∧ Xi T1 904 3 ≤ 5000 := hHT1.c _ _
                    exact Rl_weak (C426 U34 hHU34 hFU34 (v1) ((v2 + 1)) (by omega) (by omega) (by rw [show Xi U34 908 (v1).toNat = v2 by omega]; assumption) (by omega) (by omega) (by omega) (by omega) (by omega) (by omega) (by omega) (by first | exact fun q => ⟨by have := k153 q; omega, by have := k153 q; omega⟩ | exact fun q => absurd q (by unfold K3; omega)) (by omega)) (And.intro rfl (And.intro rfl (And.intro rfl (True.intro))))
                  · refine l_iload_n rfl rfl ?_
                    refine l_bipush rfl rfl ?_
                    refine l_icmp_eq rfl rfl (by unfold rg; omega) (by unfold rg; omega) (fun w317 => ?_) (fun w318 => ?_)
                    · refine l_iload_n rfl rfl ?_
                      refine l_goto rfl rfl ?_
                      refine l_iastore (n := 5002) rfl rfl (by omega) (by omega) (by unfold rg; omega) ?_
                      obtain ⟨U35, eU35⟩ : ∃ T : sS, T = uI U33 907 ((v1).toNat) (Int32.ofInt (Xi T1 906 ((v2).toNat))) := ⟨_, rfl⟩
                      rw [← eU35]
                      have hHU35 : HI U35 := by rw [eU35]; exact HI_w hHU33 (show 0 ≤ (Xi T1 906 ((v2).toNat)) by omega) (show (Xi T1 906 ((v2).toNat)) ≤ 154 by omega)
                      have hFU35 : FR md_mo_cut S U35 := by rw [eU35]; exact FR.wI hFU33 (mdf_i (r := (907, 908, 0, 100000)) (List.mem_of_getElem? (i := 0) rfl) (inR_i (by omega) (by omega) (by omega) (by omega)))
                      have w319 : Xi U35 907 ((v1).toNat) = (Xi T1 906 ((v2).toNat)) := by rw [eU35]; exact Xi_same (by unfold rg; omega)
                      have c425 : CT U35 v1 v2 := c50.w eU35 (by omega)
                      have w320 : Xi U35 908 (v1).toNat = Xi U33 908 (v1).toNat := (show Xi U35 908 (v1).toNat = Xi U33 908 (v1).toNat from by rw [eU35]; exact Xi_ne (by omega))
                      have w321 : Xi U35 909 (v1).toNat = Xi T1 909 (v1).toNat := (show Xi U35 909 (v1).toNat = Xi U33 909 (v1).toNat from by rw [eU35]; exact Xi_ne (by omega)).trans ((show Xi U33 909 (v1).toNat = Xi T1 909 (v1).toNat from by rw [eU33]; exact Xi_ne (by omega)))
                      have w322 : Xi U35 904 3 = Xi T1 904 3 := (show Xi U35 904 3 = Xi U33 904 3 from by rw [eU35]; exact Xi_ne (by omega)).trans ((show Xi U33 904 3 = Xi T1 904 3 from by rw [eU33]; exact Xi_ne (by omega)))
                      have w323 : 0 ≤ Xi T1 904 3 ∧ Xi T1 904 3 ≤ 5000 := hHT1.c _ _
                      exact Rl_weak (C426 U35 hHU35 hFU35 (v1) ((v2 + 1)) (by omega) (by omega) (by rw [show Xi U35 908 (v1).toNat = v2 by omega]; assumption) (by omega) (by omega) (by omega) (by omega) (by omega) (by omega) (by omega) (by first | exact fun q => ⟨by have := k153 q; omega, by have := k153 q; omega⟩ | exact fun q => absurd q (by unfold K3; omega)) (by omega)) (And.intro rfl (And.intro rfl (And.intro rfl (True.intro))))
                    · refine l_iload_n rfl rfl ?_
                      refine l_bipush rfl rfl ?_
                      refine l_icmp_eq rfl rfl (by unfold rg; omega) (by unfold rg; omega) (fun w324 => ?_) (fun w325 => ?_)
                      · refine l_iload_n rfl rfl ?_
                        refine l_goto rfl rfl ?_
                        refine l_iastore (n := 5002) rfl rfl (by omega) (by omega) (by unfold rg; omega) ?_
                        obtain ⟨U36, eU36⟩ : ∃ T : sS, T = uI U33 907 ((v1).toNat) (Int32.ofInt (Xi T1 906 ((v2).toNat))) := ⟨_, rfl⟩
                        rw [← eU36]
                        have hHU36 : HI U36 := by rw [eU36]; exact HI_w hHU33 (show 0 ≤ (Xi T1 906 ((v2).toNat)) by omega) (show (Xi T1 906 ((v2).toNat)) ≤ 154 by omega)
                        have hFU36 : FR md_mo_cut S U36 := by rw [eU36]; exact FR.wI hFU33 (mdf_i (r := (907, 908, 0, 100000)) (List.mem_of_getElem? (i := 0) rfl) (inR_i (by omega) (by omega) (by omega) (by omega)))
                        have w326 : Xi U36 907 ((v1).toNat) = (Xi T1 906 ((v2).toNat)) := by rw [eU36]; exact Xi_same (by unfold rg; omega)
                        have c425 : CT U36 v1 v2 := c50.w eU36 (by omega)
                        have w327 : Xi U36 908 (v1).toNat = Xi U33 908 (v1).toNat := (show Xi U36 908 (v1).toNat = Xi U33 908 (v1).toNat from by rw [eU36]; exact Xi_ne (by omega))
                        have w328 : Xi U36 909 (v1).toNat = Xi T1 909 (v1).toNat := (show Xi U36 909 (v1).toNat = Xi U33 909 (v1).toNat from by rw [eU36]; exact Xi_ne (by omega)).trans ((show Xi U33 909 (v1).toNat = Xi T1 909 (v1).toNat from by rw [eU33]; exact Xi_ne (by omega)))
                        have w329 : Xi U36 904 3 = Xi T1 904 3 := (show Xi U36 904 3 = Xi U33 904 3 from by rw [eU36]; exact Xi_ne (by omega)).trans ((show Xi U33 904 3 = Xi T1 904 3 from by rw [eU33]; exact Xi_ne (by omega)))
                        have w330 : 0 ≤ Xi T1 904 3 ∧ Xi T1 904 3 ≤ 5000 := hHT1.c _ _
                        exact Rl_weak (C426 U36 hHU36 hFU36 (v1) ((v2 + 1)) (by omega) (by omega) (by rw [show Xi U36 908 (v1).toNat = v2 by omega]; assumption) (by omega) (by omega) (by omega) (by omega) (by omega) (by omega) (by omega) (by first | exact fun q => ⟨by have := k153 q; omega, by have := k153 q; omega⟩ | exact fun q => absurd q (by unfold K3; omega)) (by omega)) (And.intro rfl (And.intro rfl (And.intro rfl (True.intro))))
                      · refine l_iload_n rfl rfl ?_
                        refine l_bipush rfl rfl ?_
                        refine l_icmp_ne rfl rfl (by unfold rg; omega) (by unfold rg; omega) (fun w331 => ?_) (fun w332 => ?_)
                        · refine l_iconst rfl ?_
                          refine l_iastore (n := 5002) rfl rfl (by omega) (by omega) (by unfold rg; omega) ?_
                          obtain ⟨U37, eU37⟩ : ∃ T : sS, T = uI U33 907 ((v1).toNat) (Int32.ofInt 2) := ⟨_, rfl⟩
                          rw [← eU37]
                          have hHU37 : HI U37 := by rw [eU37]; exact HI_w hHU33 (show 0 ≤ 2 by omega) (show 2 ≤ 154 by omega)
                          have hFU37 : FR md_mo_cut S U37 := by rw [eU37]; exact FR.wI hFU33 (mdf_i (r := (907, 908, 0, 100000)) (List.mem_of_getElem? (i := 0) rfl) (inR_i (by omega) (by omega) (by omega) (by omega)))
                          have w333 : Xi U37 907 ((v1).toNat) = 2 := by rw [eU37]; exact Xi_same (by unfold rg; omega)
                          have c425 : CT U37 v1 v2 := c50.w eU37 (by omega)
                          have w334 : Xi U37 908 (v1).toNat = Xi U33 908 (v1).toNat := (show Xi U37 908 (v1).toNat = Xi U33 908 (v1).toNat from by rw [eU37]; exact Xi_ne (by omega))
                          have w335 : Xi U37 909 (v1).toNat = Xi T1 909 (v1).toNat := (show Xi U37 909 (v1).toNat = Xi U33 909 (v1).toNat from by rw [eU37]; exact Xi_ne (by omega)).trans ((show Xi U33 909 (v1).toNat = Xi T1 909 (v1).toNat from by rw [eU33]; exact Xi_ne (by omega)))
                          have w336 : Xi U37 904 3 = Xi T1 904 3 := (show Xi U37 904 3 = Xi U33 904 3 from by rw [eU37]; exact Xi_ne (by omega)).trans ((show Xi U33 904 3 = Xi T1 904 3 from by rw [eU33]; exact Xi_ne (by omega)))
                          have w337 : 0 ≤ Xi T1 904 3 ∧ Xi T1 904 3 ≤ 5000 := hHT1.c _ _
                          exact Rl_weak (C426 U37 hHU37 hFU37 (v1) ((v2 + 1)) (by omega) (by omega) (by rw [show Xi U37 908 (v1).toNat = v2 by omega]; assumption) (by omega) (by omega) (by omega) (by omega) (by omega) (by omega) (by omega) (by first | exact fun q => ⟨by have := k153 q; omega, by have := k153 q; omega⟩ | exact fun q => absurd q (by unfold K3; omega)) (by omega)) (And.intro rfl (And.intro rfl (And.intro rfl (True.intro))))
                        · refine l_iload_n rfl rfl ?_
                          refine l_goto rfl rfl ?_
                          refine l_iastore (n := 5002) rfl rfl (by omega) (by omega) (by unfold rg; omega) ?_
                          obtain ⟨U38, eU38⟩ : ∃ T : sS, T = uI U33 907 ((v1).toNat) (Int32.ofInt (Xi T1 906 ((v2).toNat))) := ⟨_, rfl⟩
                          rw [← eU38]
                          have hHU38 : HI U38 := by rw [eU38]; exact HI_w hHU33 (show 0 ≤ (Xi T1 906 ((v2).toNat)) by omega) (show (Xi T1 906 ((v2).toNat)) ≤ 154 by omega)
                          have hFU38 : FR md_mo_cut S U38 := by rw [eU38]; exact FR.wI hFU33 (mdf_i (r := (907, 908, 0, 100000)) (List.mem_of_getElem? (i := 0) rfl) (inR_i (by omega) (by omega) (by omega) (by omega)))
                          have w338 : Xi U38 907 ((v1).toNat) = (Xi T1 906 ((v2).toNat)) := by rw [eU38]; exact Xi_same (by unfold rg; omega)
                          have c425 : CT U38 v1 v2 := c50.w eU38 (by omega)
                          have w339 : Xi U38 908 (v1).toNat = Xi U33 908 (v1).toNat := (show Xi U38 908 (v1).toNat = Xi U33 908 (v1).toNat from by rw [eU38]; exact Xi_ne (by omega))
                          have w340 : Xi U38 909 (v1).toNat = Xi T1 909 (v1).toNat := (show Xi U38 909 (v1).toNat = Xi U33 909 (v1).toNat from by rw [eU38]; exact Xi_ne (by omega)).trans ((show Xi U33 909 (v1).toNat = Xi T1 909 (v1).toNat from by rw [eU33]; exact Xi_ne (by omega)))
                          have w341 : Xi U38 904 3 = Xi T1 904 3 := (show Xi U38 904 3 = Xi U33 904 3 from by rw [eU38]; exact Xi_ne (by omega)).trans ((show Xi U33 904 3 = Xi T1 904 3 from by rw [eU33]; exact Xi_ne (by omega)))
                          have w342 : 0 ≤ Xi T1 904 3 ∧ Xi T1 904 3 ≤ 5000 := hHT1.c _ _
                          exact Rl_weak (C426 U38 hHU38 hFU38 (v1) ((v2 + 1)) (by omega) (by omega) (by rw [show Xi U38 908 (v1).toNat = v2 by omega]; assumption) (by omega) (by omega) (by omega) (by omega) (by omega) (by omega) (by omega) (by first | exact fun q => ⟨by have := k153 q; omega, by have := k153 q; omega⟩ | exact fun q => absurd q (by unfold K3; omega)) (by omega)) (And.intro rfl (And.intro rfl (And.intro rfl (True.intro))))
                · refine l_iconst rfl ?_
                  refine l_istore rfl rfl rfl ?_
                  have w343 : Xi U33 907 (v1).toNat = Xi T1 907 (v1).toNat := (show Xi U33 907 (v1).toNat = Xi T1 907 (v1).toNat from by rw [eU33]; exact Xi_ne (by omega))
                  have w344 : Xi U33 909 (v1).toNat = Xi T1 909 (v1).toNat := (show Xi U33 909 (v1).toNat = Xi T1 909 (v1).toNat from by rw [eU33]; exact Xi_ne (by omega))
                  have w345 : Xi U33 904 3 = Xi T1 904 3 := (show Xi U33 904 3 = Xi T1 904 3 from by rw [eU33]; exact Xi_ne (by omega))
                  have w346 : 0 ≤ Xi T1 904 3 ∧ Xi T1 904 3 ≤ 5000 := hHT1.c _ _
                  exact Rl_weak (C281 _ U33 hHU33 hFU33 (v1) (v2) ((v2 + 1)) (1) (by omega) (by omega) (by omega) (by omega) (by first | exact C281 | exact c50) (by omega) (by omega) (by omega) (by omega) (by omega) (by omega) (by omega) rfl) (And.intro rfl (And.intro rfl (And.intro rfl (And.intro rfl (And.intro rfl (True.intro))))))
              · refine l_lconst (z := 0) rfl rfl ?_
                refine l_lstore rfl rfl rfl rfl ?_
                refine l_iload_n rfl rfl ?_
                refine l_istore rfl rfl rfl ?_
                have w347 : Xi U33 907 (v1).toNat = Xi T1 907 (v1).toNat := (show Xi U33 907 (v1).toNat = Xi T1 907 (v1).toNat from by rw [eU33]; exact Xi_ne (by omega))
                have w348 : Xi U33 909 (v1).toNat = Xi T1 909 (v1).toNat := (show Xi U33 909 (v1).toNat = Xi T1 909 (v1).toNat from by rw [eU33]; exact Xi_ne (by omega))
                have w349 : Xi U33 904 3 = Xi T1 904 3 := (show Xi U33 904 3 = Xi T1 904 3 from by rw [eU33]; exact Xi_ne (by omega))
                have w350 : 0 ≤ Xi T1 904 3 ∧ Xi T1 904 3 ≤ 5000 := hHT1.c _ _
                exact Rl_weak (C174 _ U33 hHU33 hFU33 (v1) (v2) (v2) (0) (by omega) (by omega) (by omega) (by first | exact C174 | exact c50) (by omega) (by omega) (by omega) (by omega) (by omega) (by omega) (by omega) rfl) (And.intro rfl (And.intro rfl (And.intro rfl (And.intro rfl (And.intro rfl (True.intro))))))
            · have w351 : Xi U33 907 (v1).toNat = Xi T1 907 (v1).toNat := (show Xi U33 907 (v1).toNat = Xi T1 907 (v1).toNat from by rw [eU33]; exact Xi_ne (by omega))
              have w352 : Xi U33 909 (v1).toNat = Xi T1 909 (v1).toNat := (show Xi U33 909 (v1).toNat = Xi T1 909 (v1).toNat from by rw [eU33]; exact Xi_ne (by omega))
              have w353 : Xi U33 904 3 = Xi T1 904 3 := (show Xi U33 904 3 = Xi T1 904 3 from by rw [eU33]; exact Xi_ne (by omega))
              have w354 : 0 ≤ Xi T1 904 3 ∧ Xi T1 904 3 ≤ 5000 := hHT1.c _ _
              exact Rl_weak (C58 _ U33 hHU33 hFU33 (v1) (v2) ((v2 + 1)) (by omega) (by omega) (by omega) (by first | exact C58 | exact c50) (by omega) (by omega) (by omega) (by omega) (by omega) (by omega) (by first | exact (fun i a b => (Int.lt_or_le (i : Int) v4).elim (fun q => L58 i a q) (fun q => by rw [show i = (v4).toNat by omega]; exact l74 (by omega))) | exact (fun i a b => by rw [show i = (v2).toNat by omega]; exact l52 (by omega))) (by omega) rfl) (And.intro rfl (And.intro rfl (And.intro rfl (And.intro rfl (True.intro)))))
  refine l_iconst rfl ?_
  refine l_istore_n rfl rfl rfl ?_
  refine l_aload_n rfl rfl ?_
  refine l_iconst rfl ?_
  have w355 : 0 ≤ Xi S 904 3 ∧ Xi S 904 3 ≤ 5000 := hH.c _ _
  refine l_callV rfl rfl rfl (t_mo_blanks hH 0 ⟨by omega, by omega⟩ _) ?_
  rintro _ _ ⟨rfl, z358, rfl, w358, w356, w357⟩
  show Rl _ _ _ _ _ [iv z358] _ _
  refine l_istore_n rfl rfl rfl ?_
  have w359 : 0 ≤ Xi S 904 3 ∧ Xi S 904 3 ≤ 5000 := hH.c _ _
  exact Rl_weak (C8 _ S hH hF (0) (z358) (by omega) (by omega) (by first | exact CT.rf | exact C426.add (by omega) (by omega) (by omega) (by omega) (by omega) (fun q => by have := K426 q; omega)) (by first | exact CT.rf | exact C426.add (by omega) (by omega) (by omega) (by omega) (by omega) (fun q => by have := K426 q; omega)) (by omega) (by omega) (by omega) rfl) (And.intro rfl (And.intro rfl (And.intro rfl (True.intro))))
def md_mo_askCommand : List rec := [(904, 905, 104, 105), (904, 905, 105, 106), (904, 905, 106, 107), (904, 905, 150, 151), (904, 905, 151, 152), (904, 905, 153, 154), (991, 992, 0, 100000), (992, 993, 0, 100000)]
abbrev Q_mo_askCommand (S : sS) (n : Nat) : pst := fun r S1 => HI S1 ∧ FR md_mo_askCommand S S1 ∧ (r = none ∧ (Xi S1 904 106 = 0 → Xi S 904 55 < 20 ∧ rnR S 0 11 ≠ -1))
set_option maxRecDepth 100000 in
set_option maxHeartbeats 4000000 in
theorem t_mo_askCommand {S : sS} (hH : HI S) (n : Nat) (hT : TK S n) (hv : RNV S n) (hM : LXM S) (hB : ABV S) (hK : TXK S n) (h1 : 1 ≤ Xi S 904 69) (ht : Xi S 904 81 < n ∧ Xi S 907 (Xi S 904 81).toNat = 5) (d : Nat) : Mt lay0 (d + 6) m_mo_askCommand [.ref 904] S (Q_mo_askCommand S n) := by
  refine Mt_R rfl rfl ?_
  have hF : FR md_mo_askCommand S S := FR.rf
  have w1 : 0 ≤ Xi S 904 106 ∧ Xi S 904 106 ≤ 9 := hH.c _ _
  have w2 : 0 ≤ Xi S 904 15 ∧ Xi S 904 15 ≤ 300 := hH.c _ _
  have w3 : 0 ≤ Xi S 904 49 ∧ Xi S 904 49 ≤ 12 := hH.c _ _
  have w4 : 0 ≤ Xi S 904 55 ∧ Xi S 904 55 ≤ 20 := hH.c _ _
  have w5 : 0 ≤ Xi S 904 69 ∧ Xi S 904 69 ≤ 2600 := hH.c _ _
  have w6 : 0 ≤ Xi S 904 81 ∧ Xi S 904 81 ≤ 5010 := hH.c _ _
  have hn5 := hT.1
  have hc69 : 0 ≤ Xi S 904 69 ∧ Xi S 904 69 ≤ 2600 := hH.c _ _
  have q0 := hv 0 (by omega)
  have g0 : 0 ≤ Xi S 950 0 ∧ Xi S 950 0 ≤ 5010 := hH.c 950 0
  have hc81 : 0 ≤ Xi S 904 81 ∧ Xi S 904 81 ≤ 5010 := hH.c _ _
  have hc16 : 0 ≤ Xi S 904 16 ∧ Xi S 904 16 ≤ 16 := hH.c _ _
  have hc49 : 0 ≤ Xi S 904 49 ∧ Xi S 904 49 ≤ 12 := hH.c _ _
  have tx : Xi S 908 (Xi S 904 81).toNat + 1 + Xi S 909 (Xi S 904 81).toNat ≤ 5000 := hK (Xi S 904 81).toNat (by omega) ht.2
  have g8 : 0 ≤ Xi S 908 (Xi S 904 81).toNat ∧ 0 ≤ Xi S 909 (Xi S 904 81).toNat := ⟨(hH.c 908 _).1, (hH.c 909 _).1⟩
  have C78 : ∀  (T1 : sS) (_ : HI T1) (_ : FR md_mo_askCommand S T1) (v1 : Int) (v2 : Int), (0 ≤ v1 ∧ v1 ≤ 1) → (-1 ≤ v2 ∧ v2 ≤ 11) → (v2 ≠ -1 → v2 < Xi S 904 49) → (Xi T1 904 106 = 0 → Xi S 904 55 < 20 ∧ v2 ≠ -1) → (v2 = rnR S 0 11) → (Xi T1 904 81 = Xi S 904 81) → Rl lay0 (d + 5) m_mo_askCommand 78 [(0, .ref 904), (1, iv v1), (2, iv v2)] [] T1 (Q_mo_askCommand S n) := by
    intro T1 hHT1 hFT1 v1 v2 w7 w8 w9 w10 w11 w12
    have w13 : Xi T1 904 15 = Xi S 904 15 := hFT1.x _ _ rfl
    have w14 : Xi T1 904 49 = Xi S 904 49 := hFT1.x _ _ rfl
    have w15 : Xi T1 904 55 = Xi S 904 55 := hFT1.x _ _ rfl
    have w16 : Xi T1 904 69 = Xi S 904 69 := hFT1.x _ _ rfl
    have w17 : Xi T1 904 81 = Xi S 904 81 := hFT1.x _ _ rfl
    have w18 : 0 ≤ Xi T1 904 106 ∧ Xi T1 904 106 ≤ 9 := hHT1.c _ _
    have w19 : 0 ≤ Xi T1 904 81 ∧ Xi T1 904 81 ≤ 5010 := hHT1.c _ _
    have C295 : ∀  (T2 : sS) (_ : HI T2) (_ : FR md_mo_askCommand S T2) (v1 : Int), (0 ≤ v1 ∧ v1 ≤ 1) → (Xi T2 904 106 = 0 → Xi S 904 55 < 20 ∧ rnR S 0 11 ≠ -1) → (Xi T2 904 81 = Xi S 904 81) → Rl lay0 (d + 5) m_mo_askCommand 295 [(0, .ref 904), (1, iv v1)] [] T2 (Q_mo_askCommand S n) := by
      intro T2 hHT2 hFT2 v1 w20 w21 w22
      have w23 : Xi T2 904 15 = Xi S 904 15 := hFT2.x _ _ rfl
      have w24 : Xi T2 904 49 = Xi S 904 49 := hFT2.x _ _ rfl
      have w25 : Xi T2 904 55 = Xi S 904 55 := hFT2.x _ _ rfl
      have w26 : Xi T2 904 69 = Xi S 904 69 := hFT2.x _ _ rfl
      have w27 : Xi T2 904 81 = Xi S 904 81 := hFT2.x _ _ rfl
      have w28 : 0 ≤ Xi T2 904 106 ∧ Xi T2 904 106 ≤ 9 := hHT2.c _ _
      have w29 : 0 ≤ Xi T2 904 81 ∧ Xi T2 904 81 ≤ 5010 := hHT2.c _ _
      refine l_aload_n rfl rfl ?_
      refine l_iload_n rfl rfl ?_
      refine l_bipush rfl rfl ?_
      refine l_aload_n rfl rfl ?_
      refine l_gfi rfl rfl rfl rfl rfl ?_
      have w30 : 0 ≤ Xi T2 904 106 ∧ Xi T2 904 106 ≤ 9 := hHT2.c _ _
      have w31 : 0 ≤ Xi T2 904 150 ∧ Xi T2 904 150 ≤ 5000 := hHT2.c _ _
      have w32 : 0 ≤ Xi T2 904 81 ∧ Xi T2 904 81 ≤ 5010 := hHT2.c _ _
      refine l_callV rfl rfl rfl (t_mo_need hHT2 v1 8 (Xi T2 904 81) ⟨by omega, by omega⟩ ⟨by omega, by omega⟩ ⟨by omega, by omega⟩ _) ?_
      rintro _ T3 ⟨hHT3, w36, rfl, w33, w34⟩
      have hFT3 : FR md_mo_askCommand S T3 := FR.tr hFT2 w36 rfl
      show Rl _ _ _ _ _ [] _ _
      refine l_return rfl rfl ?_
      have w37 : 0 ≤ Xi T3 904 106 ∧ Xi T3 904 106 ≤ 9 := hHT3.c _ _
      have w38 : Xi T3 904 150 = Xi T2 904 150 := (show Xi T3 904 150 = Xi T2 904 150 from w36.x _ _ rfl)
      have w39 : 0 ≤ Xi T2 904 150 ∧ Xi T2 904 150 ≤ 5000 := hHT2.c _ _
      have w40 : Xi T3 904 81 = Xi T2 904 81 := (show Xi T3 904 81 = Xi T2 904 81 from w36.x _ _ rfl)
      have w41 : 0 ≤ Xi T2 904 81 ∧ Xi T2 904 81 ≤ 5010 := hHT2.c _ _
      exact ⟨hHT3, hFT3, rfl, (by first | assumption | omega)⟩
    have C238 : ∀  (T4 : sS) (_ : HI T4) (_ : FR md_mo_askCommand S T4) (v2 : Int) (v3 : Int), (0 ≤ v2 ∧ v2 ≤ 11) → (-1 ≤ v3 ∧ v3 ≤ 299) → (0 ≤ v2 ∧ v2 < Xi S 904 49) → (v3 ≠ -1 → v3 < Xi S 904 15) → (Xi T4 904 106 = 0 → Xi S 904 55 < 20 ∧ rnR S 0 11 ≠ -1) → (Xi T4 904 81 = Xi S 904 81) → Rl lay0 (d + 5) m_mo_askCommand 238 [(0, .ref 904), (2, iv v2), (3, iv v3)] [] T4 (Q_mo_askCommand S n) := by
      intro T4 hHT4 hFT4 v2 v3 w42 w43 w44 w45 w46 w47
      have w48 : Xi T4 904 15 = Xi S 904 15 := hFT4.x _ _ rfl
      have w49 : Xi T4 904 49 = Xi S 904 49 := hFT4.x _ _ rfl
      have w50 : Xi T4 904 55 = Xi S 904 55 := hFT4.x _ _ rfl
      have w51 : Xi T4 904 69 = Xi S 904 69 := hFT4.x _ _ rfl
      have w52 : Xi T4 904 81 = Xi S 904 81 := hFT4.x _ _ rfl
      have w53 : 0 ≤ Xi T4 904 106 ∧ Xi T4 904 106 ≤ 9 := hHT4.c _ _
      have w54 : 0 ≤ Xi T4 904 81 ∧ Xi T4 904 81 ≤ 5010 := hHT4.c _ _
      refine l_iload_n rfl rfl ?_
      refine l_iconst rfl ?_
      refine l_icmp_eq rfl rfl (by unfold rg; omega) (by unfold rg; omega) (fun w55 => ?_) (fun w56 => ?_)
      · refine l_iconst rfl ?_
        refine l_istore_n rfl rfl rfl ?_
        refine l_aload_n rfl rfl ?_
        refine l_iload_n rfl rfl ?_
        refine l_if_eq rfl rfl (by unfold rg; omega) (fun w57 => ?_) (fun w58 => absurd w58 (by omega))
        · refine l_iconst rfl ?_
          refine l_pfi rfl rfl rfl rfl ?_
          obtain ⟨U5, eU5⟩ : ∃ T : sS, T = uI T4 904 153 (Int32.ofInt (-1)) := ⟨_, rfl⟩
          rw [← eU5]
          have hHU5 : HI U5 := by rw [eU5]; exact HI_w hHT4 (show -2 ≤ (-1) by omega) (show (-1) ≤ 15 by omega)
          have hFU5 : FR md_mo_askCommand S U5 := by rw [eU5]; exact FR.wI hFT4 (mdf_i (r := (904, 905, 153, 154)) (List.mem_of_getElem? (i := 5) rfl) (inR_i (by omega) (by omega) (by omega) (by omega)))
          have w59 : Xi U5 904 153 = (-1) := by rw [eU5]; exact Xi_same (by unfold rg; omega)
          have w60 : Xi U5 904 106 = Xi T4 904 106 := (show Xi U5 904 106 = Xi T4 904 106 from by rw [eU5]; exact Xi_ne (by omega))
          have w61 : 0 ≤ Xi T4 904 106 ∧ Xi T4 904 106 ≤ 9 := hHT4.c _ _
          have w62 : Xi U5 904 150 = Xi T4 904 150 := (show Xi U5 904 150 = Xi T4 904 150 from by rw [eU5]; exact Xi_ne (by omega))
          have w63 : 0 ≤ Xi T4 904 150 ∧ Xi T4 904 150 ≤ 5000 := hHT4.c _ _
          have w64 : Xi U5 904 81 = Xi T4 904 81 := (show Xi U5 904 81 = Xi T4 904 81 from by rw [eU5]; exact Xi_ne (by omega))
          have w65 : 0 ≤ Xi T4 904 81 ∧ Xi T4 904 81 ≤ 5010 := hHT4.c _ _
          exact Rl_weak (C295 U5 hHU5 hFU5 (0) (by omega) (by omega) (by omega)) (And.intro rfl (And.intro rfl (True.intro)))
      · refine l_aload_n rfl rfl ?_
        refine l_gfr rfl rfl rfl rfl rfl (hHT4.r 904 12 914 rfl) ?_
        refine l_iload_n rfl rfl ?_
        refine l_iaload (n := 300) rfl rfl (by omega) (by omega) (by unfold rg; omega) ?_
        have w66 : 0 ≤ (Xi T4 914 ((v3).toNat)) ∧ (Xi T4 914 ((v3).toNat)) ≤ 12 := hHT4.c _ _
        refine l_if_ne rfl rfl (by unfold rg; omega) (fun w67 => ?_) (fun w68 => ?_)
        · refine l_iconst rfl ?_
          refine l_istore_n rfl rfl rfl ?_
          refine l_aload_n rfl rfl ?_
          refine l_iload_n rfl rfl ?_
          refine l_if_eq rfl rfl (by unfold rg; omega) (fun w69 => ?_) (fun w70 => absurd w70 (by omega))
          · refine l_iconst rfl ?_
            refine l_pfi rfl rfl rfl rfl ?_
            obtain ⟨U6, eU6⟩ : ∃ T : sS, T = uI T4 904 153 (Int32.ofInt (-1)) := ⟨_, rfl⟩
            rw [← eU6]
            have hHU6 : HI U6 := by rw [eU6]; exact HI_w hHT4 (show -2 ≤ (-1) by omega) (show (-1) ≤ 15 by omega)
            have hFU6 : FR md_mo_askCommand S U6 := by rw [eU6]; exact FR.wI hFT4 (mdf_i (r := (904, 905, 153, 154)) (List.mem_of_getElem? (i := 5) rfl) (inR_i (by omega) (by omega) (by omega) (by omega)))
            have w71 : Xi U6 904 153 = (-1) := by rw [eU6]; exact Xi_same (by unfold rg; omega)
            have w72 : Xi U6 904 106 = Xi T4 904 106 := (show Xi U6 904 106 = Xi T4 904 106 from by rw [eU6]; exact Xi_ne (by omega))
            have w73 : 0 ≤ Xi T4 904 106 ∧ Xi T4 904 106 ≤ 9 := hHT4.c _ _
            have w74 : Xi U6 904 150 = Xi T4 904 150 := (show Xi U6 904 150 = Xi T4 904 150 from by rw [eU6]; exact Xi_ne (by omega))
            have w75 : 0 ≤ Xi T4 904 150 ∧ Xi T4 904 150 ≤ 5000 := hHT4.c _ _
            have w76 : Xi U6 904 81 = Xi T4 904 81 := (show Xi U6 904 81 = Xi T4 904 81 from by rw [eU6]; exact Xi_ne (by omega))
            have w77 : 0 ≤ Xi T4 904 81 ∧ Xi T4 904 81 ≤ 5010 := hHT4.c _ _
            exact Rl_weak (C295 U6 hHU6 hFU6 (0) (by omega) (by omega) (by omega)) (And.intro rfl (And.intro rfl (True.intro)))
        · refine l_aload_n rfl rfl ?_
          refine l_aload_n rfl rfl ?_
          refine l_gfr rfl rfl rfl rfl rfl (hHT4.r 904 13 915 rfl) ?_
          refine l_iload_n rfl rfl ?_
          refine l_iaload (n := 300) rfl rfl (by omega) (by omega) (by unfold rg; omega) ?_
          have w78 : 0 ≤ (Xi T4 915 ((v3).toNat)) ∧ (Xi T4 915 ((v3).toNat)) ≤ 63 := hHT4.c _ _
          refine l_aload_n rfl rfl ?_
          refine l_gfr rfl rfl rfl rfl rfl (hHT4.r 904 50 942 rfl) ?_
          refine l_iload_n rfl rfl ?_
          refine l_iaload (n := 12) rfl rfl (by omega) (by omega) (by unfold rg; omega) ?_
          have w79 : -2 ≤ (Xi T4 942 ((v2).toNat)) ∧ (Xi T4 942 ((v2).toNat)) ≤ 15 := hHT4.c _ _
          have w80 : 0 ≤ Xi T4 904 106 ∧ Xi T4 904 106 ≤ 9 := hHT4.c _ _
          have w81 : 0 ≤ Xi T4 904 150 ∧ Xi T4 904 150 ≤ 5000 := hHT4.c _ _
          have w82 : 0 ≤ Xi T4 904 81 ∧ Xi T4 904 81 ≤ 5010 := hHT4.c _ _
          refine l_callV rfl rfl rfl (t_mo_isBelow hHT4 (Xi T4 915 ((v3).toNat)) (Xi T4 942 ((v2).toNat)) ⟨by omega, by omega⟩ ⟨by omega, by omega⟩ (by first | assumption | exact (ABV_FR hFT4 rfl (by assumption : ABV S))) _) ?_
          rintro _ _ ⟨rfl, z84, rfl, w84, w83⟩
          show Rl _ _ _ _ _ [iv z84] _ _
          refine l_if_eq rfl rfl (by unfold rg; omega) (fun w85 => ?_) (fun w86 => ?_)
          · refine l_iconst rfl ?_
            refine l_istore_n rfl rfl rfl ?_
            refine l_aload_n rfl rfl ?_
            refine l_iload_n rfl rfl ?_
            refine l_if_eq rfl rfl (by unfold rg; omega) (fun w87 => ?_) (fun w88 => absurd w88 (by omega))
            · refine l_iconst rfl ?_
              refine l_pfi rfl rfl rfl rfl ?_
              obtain ⟨U7, eU7⟩ : ∃ T : sS, T = uI T4 904 153 (Int32.ofInt (-1)) := ⟨_, rfl⟩
              rw [← eU7]
              have hHU7 : HI U7 := by rw [eU7]; exact HI_w hHT4 (show -2 ≤ (-1) by omega) (show (-1) ≤ 15 by omega)
              have hFU7 : FR md_mo_askCommand S U7 := by rw [eU7]; exact FR.wI hFT4 (mdf_i (r := (904, 905, 153, 154)) (List.mem_of_getElem? (i := 5) rfl) (inR_i (by omega) (by omega) (by omega) (by omega)))
              have w89 : Xi U7 904 153 = (-1) := by rw [eU7]; exact Xi_same (by unfold rg; omega)
              have w90 : Xi U7 904 106 = Xi T4 904 106 := (show Xi U7 904 106 = Xi T4 904 106 from by rw [eU7]; exact Xi_ne (by omega))
              have w91 : 0 ≤ Xi T4 904 106 ∧ Xi T4 904 106 ≤ 9 := hHT4.c _ _
              have w92 : Xi U7 904 150 = Xi T4 904 150 := (show Xi U7 904 150 = Xi T4 904 150 from by rw [eU7]; exact Xi_ne (by omega))
              have w93 : 0 ≤ Xi T4 904 150 ∧ Xi T4 904 150 ≤ 5000 := hHT4.c _ _
              have w94 : Xi U7 904 81 = Xi T4 904 81 := (show Xi U7 904 81 = Xi T4 904 81 from by rw [eU7]; exact Xi_ne (by omega))
              have w95 : 0 ≤ Xi T4 904 81 ∧ Xi T4 904 81 ≤ 5010 := hHT4.c _ _
              exact Rl_weak (C295 U7 hHU7 hFU7 (0) (by omega) (by omega) (by omega)) (And.intro rfl (And.intro rfl (True.intro)))
          · refine l_iconst rfl ?_
            refine l_goto rfl rfl ?_
            refine l_istore_n rfl rfl rfl ?_
            refine l_aload_n rfl rfl ?_
            refine l_iload_n rfl rfl ?_
            refine l_if_eq rfl rfl (by unfold rg; omega) (fun w96 => absurd w96 (by omega)) (fun w97 => ?_)
            · refine l_aload_n rfl rfl ?_
              refine l_gfr rfl rfl rfl rfl rfl (hHT4.r 904 13 915 rfl) ?_
              refine l_iload_n rfl rfl ?_
              have x286 : Xi T4 914 (v3).toNat = 0 → v3 < 16 := fun q => by have t := lxm (s := 0) (LXM_FR hFT4 rfl hM) (k := v3) (by omega) (by rw [hFT4.x 904 15 rfl]; omega) q; rw [cM0, hFT4.x 904 16 rfl] at t; omega
              refine l_iaload (n := 300) rfl rfl (by omega) (by omega) (by unfold rg; omega) ?_
              refine l_goto rfl rfl ?_
              refine l_pfi rfl rfl rfl rfl ?_
              obtain ⟨U8, eU8⟩ : ∃ T : sS, T = uI T4 904 153 (Int32.ofInt (Xi T4 915 ((v3).toNat))) := ⟨_, rfl⟩
              rw [← eU8]
              have hHU8 : HI U8 := by rw [eU8]; exact HI_w hHT4 (show -2 ≤ (Xi T4 915 ((v3).toNat)) by omega) (show (Xi T4 915 ((v3).toNat)) ≤ 15 by omega)
              have hFU8 : FR md_mo_askCommand S U8 := by rw [eU8]; exact FR.wI hFT4 (mdf_i (r := (904, 905, 153, 154)) (List.mem_of_getElem? (i := 5) rfl) (inR_i (by omega) (by omega) (by omega) (by omega)))
              have w98 : Xi U8 904 153 = (Xi T4 915 ((v3).toNat)) := by rw [eU8]; exact Xi_same (by unfold rg; omega)
              have w99 : Xi U8 904 106 = Xi T4 904 106 := (show Xi U8 904 106 = Xi T4 904 106 from by rw [eU8]; exact Xi_ne (by omega))
              have w100 : 0 ≤ Xi T4 904 106 ∧ Xi T4 904 106 ≤ 9 := hHT4.c _ _
              have w101 : Xi U8 904 150 = Xi T4 904 150 := (show Xi U8 904 150 = Xi T4 904 150 from by rw [eU8]; exact Xi_ne (by omega))
              have w102 : 0 ≤ Xi T4 904 150 ∧ Xi T4 904 150 ≤ 5000 := hHT4.c _ _
              have w103 : Xi U8 904 81 = Xi T4 904 81 := (show Xi U8 904 81 = Xi T4 904 81 from by rw [eU8]; exact Xi_ne (by omega))
              have w104 : 0 ≤ Xi T4 904 81 ∧ Xi T4 904 81 ≤ 5010 := hHT4.c _ _
              exact Rl_weak (C295 U8 hHU8 hFU8 (1) (by omega) (by omega) (by omega)) (And.intro rfl (And.intro rfl (True.intro)))
    refine l_aload_n rfl rfl ?_
    refine l_iconst rfl ?_
    refine l_pfi rfl rfl rfl rfl ?_
    obtain ⟨U9, eU9⟩ : ∃ T : sS, T = uI T1 904 153 (Int32.ofInt (-1)) := ⟨_, rfl⟩
    rw [← eU9]
    have hHU9 : HI U9 := by rw [eU9]; exact HI_w hHT1 (show -2 ≤ (-1) by omega) (show (-1) ≤ 15 by omega)
    have hFU9 : FR md_mo_askCommand S U9 := by rw [eU9]; exact FR.wI hFT1 (mdf_i (r := (904, 905, 153, 154)) (List.mem_of_getElem? (i := 5) rfl) (inR_i (by omega) (by omega) (by omega) (by omega)))
    have w105 : Xi U9 904 153 = (-1) := by rw [eU9]; exact Xi_same (by unfold rg; omega)
    refine l_iload_n rfl rfl ?_
    refine l_if_eq rfl rfl (by unfold rg; omega) (fun w106 => ?_) (fun w107 => ?_)
    · have w108 : Xi U9 904 106 = Xi T1 904 106 := (show Xi U9 904 106 = Xi T1 904 106 from by rw [eU9]; exact Xi_ne (by omega))
      have w109 : 0 ≤ Xi T1 904 106 ∧ Xi T1 904 106 ≤ 9 := hHT1.c _ _
      have w110 : Xi U9 904 150 = Xi T1 904 150 := (show Xi U9 904 150 = Xi T1 904 150 from by rw [eU9]; exact Xi_ne (by omega))
      have w111 : 0 ≤ Xi T1 904 150 ∧ Xi T1 904 150 ≤ 5000 := hHT1.c _ _
      have w112 : Xi U9 904 81 = Xi T1 904 81 := (show Xi U9 904 81 = Xi T1 904 81 from by rw [eU9]; exact Xi_ne (by omega))
      have w113 : 0 ≤ Xi T1 904 81 ∧ Xi T1 904 81 ≤ 5010 := hHT1.c _ _
      exact Rl_weak (C295 U9 hHU9 hFU9 (v1) (by omega) (by omega) (by omega)) (And.intro rfl (And.intro rfl (True.intro)))
    · refine l_iload_n rfl rfl ?_
      refine l_iconst rfl ?_
      refine l_icmp_eq rfl rfl (by unfold rg; omega) (by unfold rg; omega) (fun w114 => ?_) (fun w115 => ?_)
      · have w116 : Xi U9 904 106 = Xi T1 904 106 := (show Xi U9 904 106 = Xi T1 904 106 from by rw [eU9]; exact Xi_ne (by omega))
        have w117 : 0 ≤ Xi T1 904 106 ∧ Xi T1 904 106 ≤ 9 := hHT1.c _ _
        have w118 : Xi U9 904 150 = Xi T1 904 150 := (show Xi U9 904 150 = Xi T1 904 150 from by rw [eU9]; exact Xi_ne (by omega))
        have w119 : 0 ≤ Xi T1 904 150 ∧ Xi T1 904 150 ≤ 5000 := hHT1.c _ _
        have w120 : Xi U9 904 81 = Xi T1 904 81 := (show Xi U9 904 81 = Xi T1 904 81 from by rw [eU9]; exact Xi_ne (by omega))
        have w121 : 0 ≤ Xi T1 904 81 ∧ Xi T1 904 81 ≤ 5010 := hHT1.c _ _
        exact Rl_weak (C295 U9 hHU9 hFU9 (v1) (by omega) (by omega) (by omega)) (And.intro rfl (And.intro rfl (True.intro)))
      · refine l_aload_n rfl rfl ?_
        refine l_gfr rfl rfl rfl rfl rfl (hHU9.r 904 50 942 rfl) ?_
        refine l_iload_n rfl rfl ?_
        refine l_iaload (n := 12) rfl rfl (by omega) (by omega) (by unfold rg; omega) ?_
        have w122 : -2 ≤ (Xi U9 942 ((v2).toNat)) ∧ (Xi U9 942 ((v2).toNat)) ≤ 15 := hHU9.c _ _
        refine l_iconst rfl ?_
        refine l_icmp_ne rfl rfl (by unfold rg; omega) (by unfold rg; omega) (fun w123 => ?_) (fun w124 => ?_)
        · refine l_aload_n rfl rfl ?_
          refine l_gfr rfl rfl rfl rfl rfl (hHU9.r 904 50 942 rfl) ?_
          refine l_iload_n rfl rfl ?_
          refine l_iaload (n := 12) rfl rfl (by omega) (by omega) (by unfold rg; omega) ?_
          refine l_bipush rfl rfl ?_
          refine l_icmp_ne rfl rfl (by unfold rg; omega) (by unfold rg; omega) (fun w125 => ?_) (fun w126 => ?_)
          · refine l_aload_n rfl rfl ?_
            refine l_gfi rfl rfl rfl rfl rfl ?_
            have w127 : 0 ≤ (Xi U9 904 150) ∧ (Xi U9 904 150) ≤ 5000 := hHU9.c _ _
            refine l_iconst rfl ?_
            refine l_icmp_gt rfl rfl (by unfold rg; omega) (by unfold rg; omega) (fun w128 => ?_) (fun w129 => ?_)
            · refine l_iconst rfl ?_
              refine l_goto rfl rfl ?_
              refine l_istore_n rfl rfl rfl ?_
              have w130 : Xi U9 904 106 = Xi T1 904 106 := (show Xi U9 904 106 = Xi T1 904 106 from by rw [eU9]; exact Xi_ne (by omega))
              have w131 : 0 ≤ Xi T1 904 106 ∧ Xi T1 904 106 ≤ 9 := hHT1.c _ _
              have w132 : Xi U9 904 150 = Xi T1 904 150 := (show Xi U9 904 150 = Xi T1 904 150 from by rw [eU9]; exact Xi_ne (by omega))
              have w133 : 0 ≤ Xi T1 904 150 ∧ Xi T1 904 150 ≤ 5000 := hHT1.c _ _
              have w134 : Xi U9 904 81 = Xi T1 904 81 := (show Xi U9 904 81 = Xi T1 904 81 from by rw [eU9]; exact Xi_ne (by omega))
              have w135 : 0 ≤ Xi T1 904 81 ∧ Xi T1 904 81 ≤ 5010 := hHT1.c _ _
              exact Rl_weak (C238 U9 hHU9 hFU9 (v2) ((-1)) (by omega) (by omega) (by omega) (by omega) (by omega) (by omega)) (And.intro rfl (And.intro rfl (And.intro rfl (True.intro))))
            · refine l_aload_n rfl rfl ?_
              refine l_gfi rfl rfl rfl rfl rfl ?_
              refine l_if_ne rfl rfl (by unfold rg; omega) (fun w136 => ?_) (fun w137 => ?_)
              · refine l_aload_n rfl rfl ?_
                refine l_aload_n rfl rfl ?_
                refine l_gfr rfl rfl rfl rfl rfl (hHU9.r 904 149 991 rfl) ?_
                refine l_iconst rfl ?_
                refine l_laload (n := 3) rfl rfl (by omega) (by omega) (by unfold rg; omega) ?_
                have w138 : -9223372036854775808 ≤ (Xj U9 991 ((0 : Int).toNat)) ∧ (Xj U9 991 ((0 : Int).toNat)) < 9223372036854775808 := Xj_rg
                refine l_aload_n rfl rfl ?_
                refine l_gfi rfl rfl rfl rfl rfl ?_
                refine l_iconst rfl ?_
                refine l_icmp_le rfl rfl (by unfold rg; omega) (by unfold rg; omega) (fun w139 => ?_) (fun w140 => ?_)
                · refine l_lconst (z := 0) rfl rfl ?_
                  refine l_aload_n rfl rfl ?_
                  refine l_gfi rfl rfl rfl rfl rfl ?_
                  refine l_iconst rfl ?_
                  refine l_icmp_le rfl rfl (by unfold rg; omega) (by unfold rg; omega) (fun w141 => ?_) (fun w142 => ?_)
                  · refine l_lconst (z := 0) rfl rfl ?_
                    refine l_aload_n rfl rfl ?_
                    refine l_gfi rfl rfl rfl rfl rfl ?_
                    have w143 : Xi U9 904 106 = Xi T1 904 106 := (show Xi U9 904 106 = Xi T1 904 106 from by rw [eU9]; exact Xi_ne (by omega))
                    have w144 : 0 ≤ Xi T1 904 106 ∧ Xi T1 904 106 ≤ 9 := hHT1.c _ _
                    have w145 : Xi U9 904 15 = Xi T1 904 15 := (show Xi U9 904 15 = Xi T1 904 15 from by rw [eU9]; exact Xi_ne (by omega))
                    have w146 : 0 ≤ Xi T1 904 15 ∧ Xi T1 904 15 ≤ 300 := hHT1.c _ _
                    have w147 : Xi U9 904 150 = Xi T1 904 150 := (show Xi U9 904 150 = Xi T1 904 150 from by rw [eU9]; exact Xi_ne (by omega))
                    have w148 : 0 ≤ Xi T1 904 150 ∧ Xi T1 904 150 ≤ 5000 := hHT1.c _ _
                    have w149 : Xi U9 904 81 = Xi T1 904 81 := (show Xi U9 904 81 = Xi T1 904 81 from by rw [eU9]; exact Xi_ne (by omega))
                    have w150 : 0 ≤ Xi T1 904 81 ∧ Xi T1 904 81 ≤ 5010 := hHT1.c _ _
                    refine l_callV rfl rfl rfl (t_mo_find hHU9 (Xj U9 991 ((0 : Int).toNat)) 0 0 (Xi U9 904 150) ⟨by omega, by omega⟩ _) ?_
                    rintro _ _ ⟨rfl, z152, rfl, w152, w151⟩
                    show Rl _ _ _ _ _ [iv z152] _ _
                    refine l_istore_n rfl rfl rfl ?_
                    have w153 : Xi U9 904 106 = Xi T1 904 106 := (show Xi U9 904 106 = Xi T1 904 106 from by rw [eU9]; exact Xi_ne (by omega))
                    have w154 : 0 ≤ Xi T1 904 106 ∧ Xi T1 904 106 ≤ 9 := hHT1.c _ _
                    have w155 : Xi U9 904 150 = Xi T1 904 150 := (show Xi U9 904 150 = Xi T1 904 150 from by rw [eU9]; exact Xi_ne (by omega))
                    have w156 : 0 ≤ Xi T1 904 150 ∧ Xi T1 904 150 ≤ 5000 := hHT1.c _ _
                    have w157 : Xi U9 904 81 = Xi T1 904 81 := (show Xi U9 904 81 = Xi T1 904 81 from by rw [eU9]; exact Xi_ne (by omega))
                    have w158 : 0 ≤ Xi T1 904 81 ∧ Xi T1 904 81 ≤ 5010 := hHT1.c _ _
                    exact Rl_weak (C238 U9 hHU9 hFU9 (v2) (z152) (by omega) (by omega) (by omega) (by omega) (by omega) (by omega)) (And.intro rfl (And.intro rfl (And.intro rfl (True.intro))))
                  · refine l_aload_n rfl rfl ?_
                    refine l_gfr rfl rfl rfl rfl rfl (hHU9.r 904 149 991 rfl) ?_
                    refine l_iconst rfl ?_
                    refine l_laload (n := 3) rfl rfl (by omega) (by omega) (by unfold rg; omega) ?_
                    have w159 : -9223372036854775808 ≤ (Xj U9 991 ((2 : Int).toNat)) ∧ (Xj U9 991 ((2 : Int).toNat)) < 9223372036854775808 := Xj_rg
                    refine l_goto rfl rfl ?_
                    refine l_aload_n rfl rfl ?_
                    refine l_gfi rfl rfl rfl rfl rfl ?_
                    have w160 : Xi U9 904 106 = Xi T1 904 106 := (show Xi U9 904 106 = Xi T1 904 106 from by rw [eU9]; exact Xi_ne (by omega))
                    have w161 : 0 ≤ Xi T1 904 106 ∧ Xi T1 904 106 ≤ 9 := hHT1.c _ _
                    have w162 : Xi U9 904 15 = Xi T1 904 15 := (show Xi U9 904 15 = Xi T1 904 15 from by rw [eU9]; exact Xi_ne (by omega))
                    have w163 : 0 ≤ Xi T1 904 15 ∧ Xi T1 904 15 ≤ 300 := hHT1.c _ _
                    have w164 : Xi U9 904 150 = Xi T1 904 150 := (show Xi U9 904 150 = Xi T1 904 150 from by rw [eU9]; exact Xi_ne (by omega))
                    have w165 : 0 ≤ Xi T1 904 150 ∧ Xi T1 904 150 ≤ 5000 := hHT1.c _ _
                    have w166 : Xi U9 904 81 = Xi T1 904 81 := (show Xi U9 904 81 = Xi T1 904 81 from by rw [eU9]; exact Xi_ne (by omega))
                    have w167 : 0 ≤ Xi T1 904 81 ∧ Xi T1 904 81 ≤ 5010 := hHT1.c _ _
                    refine l_callV rfl rfl rfl (t_mo_find hHU9 (Xj U9 991 ((0 : Int).toNat)) 0 (Xj U9 991 ((2 : Int).toNat)) (Xi U9 904 150) ⟨by omega, by omega⟩ _) ?_
                    rintro _ _ ⟨rfl, z169, rfl, w169, w168⟩
                    show Rl _ _ _ _ _ [iv z169] _ _
                    refine l_istore_n rfl rfl rfl ?_
                    have w170 : Xi U9 904 106 = Xi T1 904 106 := (show Xi U9 904 106 = Xi T1 904 106 from by rw [eU9]; exact Xi_ne (by omega))
                    have w171 : 0 ≤ Xi T1 904 106 ∧ Xi T1 904 106 ≤ 9 := hHT1.c _ _
                    have w172 : Xi U9 904 150 = Xi T1 904 150 := (show Xi U9 904 150 = Xi T1 904 150 from by rw [eU9]; exact Xi_ne (by omega))
                    have w173 : 0 ≤ Xi T1 904 150 ∧ Xi T1 904 150 ≤ 5000 := hHT1.c _ _
                    have w174 : Xi U9 904 81 = Xi T1 904 81 := (show Xi U9 904 81 = Xi T1 904 81 from by rw [eU9]; exact Xi_ne (by omega))
                    have w175 : 0 ≤ Xi T1 904 81 ∧ Xi T1 904 81 ≤ 5010 := hHT1.c _ _
                    exact Rl_weak (C238 U9 hHU9 hFU9 (v2) (z169) (by omega) (by omega) (by omega) (by omega) (by omega) (by omega)) (And.intro rfl (And.intro rfl (And.intro rfl (True.intro))))
                · refine l_aload_n rfl rfl ?_
                  refine l_gfr rfl rfl rfl rfl rfl (hHU9.r 904 149 991 rfl) ?_
                  refine l_iconst rfl ?_
                  refine l_laload (n := 3) rfl rfl (by omega) (by omega) (by unfold rg; omega) ?_
                  have w176 : -9223372036854775808 ≤ (Xj U9 991 ((1 : Int).toNat)) ∧ (Xj U9 991 ((1 : Int).toNat)) < 9223372036854775808 := Xj_rg
                  refine l_goto rfl rfl ?_
                  refine l_aload_n rfl rfl ?_
                  refine l_gfi rfl rfl rfl rfl rfl ?_
                  refine l_iconst rfl ?_
                  refine l_icmp_le rfl rfl (by unfold rg; omega) (by unfold rg; omega) (fun w177 => ?_) (fun w178 => ?_)
                  · refine l_lconst (z := 0) rfl rfl ?_
                    refine l_aload_n rfl rfl ?_
                    refine l_gfi rfl rfl rfl rfl rfl ?_
                    have w179 : Xi U9 904 106 = Xi T1 904 106 := (show Xi U9 904 106 = Xi T1 904 106 from by rw [eU9]; exact Xi_ne (by omega))
                    have w180 : 0 ≤ Xi T1 904 106 ∧ Xi T1 904 106 ≤ 9 := hHT1.c _ _
                    have w181 : Xi U9 904 15 = Xi T1 904 15 := (show Xi U9 904 15 = Xi T1 904 15 from by rw [eU9]; exact Xi_ne (by omega))
                    have w182 : 0 ≤ Xi T1 904 15 ∧ Xi T1 904 15 ≤ 300 := hHT1.c _ _
                    have w183 : Xi U9 904 150 = Xi T1 904 150 := (show Xi U9 904 150 = Xi T1 904 150 from by rw [eU9]; exact Xi_ne (by omega))
                    have w184 : 0 ≤ Xi T1 904 150 ∧ Xi T1 904 150 ≤ 5000 := hHT1.c _ _
                    have w185 : Xi U9 904 81 = Xi T1 904 81 := (show Xi U9 904 81 = Xi T1 904 81 from by rw [eU9]; exact Xi_ne (by omega))
                    have w186 : 0 ≤ Xi T1 904 81 ∧ Xi T1 904 81 ≤ 5010 := hHT1.c _ _
                    refine l_callV rfl rfl rfl (t_mo_find hHU9 (Xj U9 991 ((0 : Int).toNat)) (Xj U9 991 ((1 : Int).toNat)) 0 (Xi U9 904 150) ⟨by omega, by omega⟩ _) ?_
                    rintro _ _ ⟨rfl, z188, rfl, w188, w187⟩
                    show Rl _ _ _ _ _ [iv z188] _ _
                    refine l_istore_n rfl rfl rfl ?_
                    have w189 : Xi U9 904 106 = Xi T1 904 106 := (show Xi U9 904 106 = Xi T1 904 106 from by rw [eU9]; exact Xi_ne (by omega))
                    have w190 : 0 ≤ Xi T1 904 106 ∧ Xi T1 904 106 ≤ 9 := hHT1.c _ _
                    have w191 : Xi U9 904 150 = Xi T1 904 150 := (show Xi U9 904 150 = Xi T1 904 150 from by rw [eU9]; exact Xi_ne (by omega))
                    have w192 : 0 ≤ Xi T1 904 150 ∧ Xi T1 904 150 ≤ 5000 := hHT1.c _ _
                    have w193 : Xi U9 904 81 = Xi T1 904 81 := (show Xi U9 904 81 = Xi T1 904 81 from by rw [eU9]; exact Xi_ne (by omega))
                    have w194 : 0 ≤ Xi T1 904 81 ∧ Xi T1 904 81 ≤ 5010 := hHT1.c _ _
                    exact Rl_weak (C238 U9 hHU9 hFU9 (v2) (z188) (by omega) (by omega) (by omega) (by omega) (by omega) (by omega)) (And.intro rfl (And.intro rfl (And.intro rfl (True.intro))))
                  · refine l_aload_n rfl rfl ?_
                    refine l_gfr rfl rfl rfl rfl rfl (hHU9.r 904 149 991 rfl) ?_
                    refine l_iconst rfl ?_
                    refine l_laload (n := 3) rfl rfl (by omega) (by omega) (by unfold rg; omega) ?_
                    have w195 : -9223372036854775808 ≤ (Xj U9 991 ((2 : Int).toNat)) ∧ (Xj U9 991 ((2 : Int).toNat)) < 9223372036854775808 := Xj_rg
                    refine l_goto rfl rfl ?_
                    refine l_aload_n rfl rfl ?_
                    refine l_gfi rfl rfl rfl rfl rfl ?_
                    have w196 : Xi U9 904 106 = Xi T1 904 106 := (show Xi U9 904 106 = Xi T1 904 106 from by rw [eU9]; exact Xi_ne (by omega))
                    have w197 : 0 ≤ Xi T1 904 106 ∧ Xi T1 904 106 ≤ 9 := hHT1.c _ _
                    have w198 : Xi U9 904 15 = Xi T1 904 15 := (show Xi U9 904 15 = Xi T1 904 15 from by rw [eU9]; exact Xi_ne (by omega))
                    have w199 : 0 ≤ Xi T1 904 15 ∧ Xi T1 904 15 ≤ 300 := hHT1.c _ _
                    have w200 : Xi U9 904 150 = Xi T1 904 150 := (show Xi U9 904 150 = Xi T1 904 150 from by rw [eU9]; exact Xi_ne (by omega))
                    have w201 : 0 ≤ Xi T1 904 150 ∧ Xi T1 904 150 ≤ 5000 := hHT1.c _ _
                    have w202 : Xi U9 904 81 = Xi T1 904 81 := (show Xi U9 904 81 = Xi T1 904 81 from by rw [eU9]; exact Xi_ne (by omega))
                    have w203 : 0 ≤ Xi T1 904 81 ∧ Xi T1 904 81 ≤ 5010 := hHT1.c _ _
                    refine l_callV rfl rfl rfl (t_mo_find hHU9 (Xj U9 991 ((0 : Int).toNat)) (Xj U9 991 ((1 : Int).toNat)) (Xj U9 991 ((2 : Int).toNat)) (Xi U9 904 150) ⟨by omega, by omega⟩ _) ?_
                    rintro _ _ ⟨rfl, z205, rfl, w205, w204⟩
                    show Rl _ _ _ _ _ [iv z205] _ _
                    refine l_istore_n rfl rfl rfl ?_
                    have w206 : Xi U9 904 106 = Xi T1 904 106 := (show Xi U9 904 106 = Xi T1 904 106 from by rw [eU9]; exact Xi_ne (by omega))
                    have w207 : 0 ≤ Xi T1 904 106 ∧ Xi T1 904 106 ≤ 9 := hHT1.c _ _
                    have w208 : Xi U9 904 150 = Xi T1 904 150 := (show Xi U9 904 150 = Xi T1 904 150 from by rw [eU9]; exact Xi_ne (by omega))
                    have w209 : 0 ≤ Xi T1 904 150 ∧ Xi T1 904 150 ≤ 5000 := hHT1.c _ _
                    have w210 : Xi U9 904 81 = Xi T1 904 81 := (show Xi U9 904 81 = Xi T1 904 81 from by rw [eU9]; exact Xi_ne (by omega))
                    have w211 : 0 ≤ Xi T1 904 81 ∧ Xi T1 904 81 ≤ 5010 := hHT1.c _ _
                    exact Rl_weak (C238 U9 hHU9 hFU9 (v2) (z205) (by omega) (by omega) (by omega) (by omega) (by omega) (by omega)) (And.intro rfl (And.intro rfl (And.intro rfl (True.intro))))
              · refine l_iconst rfl ?_
                refine l_goto rfl rfl ?_
                refine l_istore_n rfl rfl rfl ?_
                have w212 : Xi U9 904 106 = Xi T1 904 106 := (show Xi U9 904 106 = Xi T1 904 106 from by rw [eU9]; exact Xi_ne (by omega))
                have w213 : 0 ≤ Xi T1 904 106 ∧ Xi T1 904 106 ≤ 9 := hHT1.c _ _
                have w214 : Xi U9 904 150 = Xi T1 904 150 := (show Xi U9 904 150 = Xi T1 904 150 from by rw [eU9]; exact Xi_ne (by omega))
                have w215 : 0 ≤ Xi T1 904 150 ∧ Xi T1 904 150 ≤ 5000 := hHT1.c _ _
                have w216 : Xi U9 904 81 = Xi T1 904 81 := (show Xi U9 904 81 = Xi T1 904 81 from by rw [eU9]; exact Xi_ne (by omega))
                have w217 : 0 ≤ Xi T1 904 81 ∧ Xi T1 904 81 ≤ 5010 := hHT1.c _ _
                exact Rl_weak (C238 U9 hHU9 hFU9 (v2) ((-1)) (by omega) (by omega) (by omega) (by omega) (by omega) (by omega)) (And.intro rfl (And.intro rfl (And.intro rfl (True.intro))))
          · refine l_aload_n rfl rfl ?_
            refine l_gfi rfl rfl rfl rfl rfl ?_
            have w218 : 0 ≤ (Xi U9 904 150) ∧ (Xi U9 904 150) ≤ 5000 := hHU9.c _ _
            refine l_iconst rfl ?_
            refine l_icmp_ne rfl rfl (by unfold rg; omega) (by unfold rg; omega) (fun w219 => ?_) (fun w220 => ?_)
            · refine l_iconst rfl ?_
              refine l_istore_n rfl rfl rfl ?_
              refine l_aload_n rfl rfl ?_
              refine l_bipush rfl rfl ?_
              refine l_pfi rfl rfl rfl rfl ?_
              obtain ⟨U10, eU10⟩ : ∃ T : sS, T = uI U9 904 153 (Int32.ofInt (-2)) := ⟨_, rfl⟩
              rw [← eU10]
              have hHU10 : HI U10 := by rw [eU10]; exact HI_w hHU9 (show -2 ≤ (-2) by omega) (show (-2) ≤ 15 by omega)
              have hFU10 : FR md_mo_askCommand S U10 := by rw [eU10]; exact FR.wI hFU9 (mdf_i (r := (904, 905, 153, 154)) (List.mem_of_getElem? (i := 5) rfl) (inR_i (by omega) (by omega) (by omega) (by omega)))
              have w221 : Xi U10 904 153 = (-2) := by rw [eU10]; exact Xi_same (by unfold rg; omega)
              refine l_goto rfl rfl ?_
              have w222 : Xi U10 904 106 = Xi T1 904 106 := (show Xi U10 904 106 = Xi U9 904 106 from by rw [eU10]; exact Xi_ne (by omega)).trans ((show Xi U9 904 106 = Xi T1 904 106 from by rw [eU9]; exact Xi_ne (by omega)))
              have w223 : 0 ≤ Xi T1 904 106 ∧ Xi T1 904 106 ≤ 9 := hHT1.c _ _
              have w224 : Xi U10 904 150 = Xi T1 904 150 := (show Xi U10 904 150 = Xi U9 904 150 from by rw [eU10]; exact Xi_ne (by omega)).trans ((show Xi U9 904 150 = Xi T1 904 150 from by rw [eU9]; exact Xi_ne (by omega)))
              have w225 : 0 ≤ Xi T1 904 150 ∧ Xi T1 904 150 ≤ 5000 := hHT1.c _ _
              have w226 : Xi U10 904 81 = Xi T1 904 81 := (show Xi U10 904 81 = Xi U9 904 81 from by rw [eU10]; exact Xi_ne (by omega)).trans ((show Xi U9 904 81 = Xi T1 904 81 from by rw [eU9]; exact Xi_ne (by omega)))
              have w227 : 0 ≤ Xi T1 904 81 ∧ Xi T1 904 81 ≤ 5010 := hHT1.c _ _
              exact Rl_weak (C295 U10 hHU10 hFU10 (0) (by omega) (by omega) (by omega)) (And.intro rfl (And.intro rfl (True.intro)))
            · refine l_aload_n rfl rfl ?_
              refine l_gfr rfl rfl rfl rfl rfl (hHU9.r 904 149 991 rfl) ?_
              refine l_iconst rfl ?_
              refine l_laload (n := 3) rfl rfl (by omega) (by omega) (by unfold rg; omega) ?_
              have w228 : -9223372036854775808 ≤ (Xj U9 991 ((0 : Int).toNat)) ∧ (Xj U9 991 ((0 : Int).toNat)) < 9223372036854775808 := Xj_rg
              refine l_ldcwR (i := 71) rfl rfl ?_
              have w229 : Xi U9 904 106 = Xi T1 904 106 := (show Xi U9 904 106 = Xi T1 904 106 from by rw [eU9]; exact Xi_ne (by omega))
              have w230 : 0 ≤ Xi T1 904 106 ∧ Xi T1 904 106 ≤ 9 := hHT1.c _ _
              have w231 : Xi U9 904 150 = Xi T1 904 150 := (show Xi U9 904 150 = Xi T1 904 150 from by rw [eU9]; exact Xi_ne (by omega))
              have w232 : 0 ≤ Xi T1 904 150 ∧ Xi T1 904 150 ≤ 5000 := hHT1.c _ _
              have w233 : Xi U9 904 81 = Xi T1 904 81 := (show Xi U9 904 81 = Xi T1 904 81 from by rw [eU9]; exact Xi_ne (by omega))
              have w234 : 0 ≤ Xi T1 904 81 ∧ Xi T1 904 81 ≤ 5010 := hHT1.c _ _
              refine l_callS rfl rfl (by decide) rfl (t_mo_packed hHU9 71 _ rfl _) ?_
              rintro _ _ ⟨rfl, z235, rfl⟩
              show Rl _ _ _ _ _ [jw z235, jw (Xj U9 991 ((0 : Int).toNat))] _ _
              refine l_lcmpA rfl (fun c236 w236 => ?_)
              refine l_if_ne rfl rfl (by unfold rg; omega) (fun w237 => ?_) (fun w238 => ?_)
              · refine l_iconst rfl ?_
                refine l_istore_n rfl rfl rfl ?_
                refine l_aload_n rfl rfl ?_
                refine l_bipush rfl rfl ?_
                refine l_pfi rfl rfl rfl rfl ?_
                obtain ⟨U11, eU11⟩ : ∃ T : sS, T = uI U9 904 153 (Int32.ofInt (-2)) := ⟨_, rfl⟩
                rw [← eU11]
                have hHU11 : HI U11 := by rw [eU11]; exact HI_w hHU9 (show -2 ≤ (-2) by omega) (show (-2) ≤ 15 by omega)
                have hFU11 : FR md_mo_askCommand S U11 := by rw [eU11]; exact FR.wI hFU9 (mdf_i (r := (904, 905, 153, 154)) (List.mem_of_getElem? (i := 5) rfl) (inR_i (by omega) (by omega) (by omega) (by omega)))
                have w239 : Xi U11 904 153 = (-2) := by rw [eU11]; exact Xi_same (by unfold rg; omega)
                refine l_goto rfl rfl ?_
                have w240 : Xi U11 904 106 = Xi T1 904 106 := (show Xi U11 904 106 = Xi U9 904 106 from by rw [eU11]; exact Xi_ne (by omega)).trans ((show Xi U9 904 106 = Xi T1 904 106 from by rw [eU9]; exact Xi_ne (by omega)))
                have w241 : 0 ≤ Xi T1 904 106 ∧ Xi T1 904 106 ≤ 9 := hHT1.c _ _
                have w242 : Xi U11 904 150 = Xi T1 904 150 := (show Xi U11 904 150 = Xi U9 904 150 from by rw [eU11]; exact Xi_ne (by omega)).trans ((show Xi U9 904 150 = Xi T1 904 150 from by rw [eU9]; exact Xi_ne (by omega)))
                have w243 : 0 ≤ Xi T1 904 150 ∧ Xi T1 904 150 ≤ 5000 := hHT1.c _ _
                have w244 : Xi U11 904 81 = Xi T1 904 81 := (show Xi U11 904 81 = Xi U9 904 81 from by rw [eU11]; exact Xi_ne (by omega)).trans ((show Xi U9 904 81 = Xi T1 904 81 from by rw [eU9]; exact Xi_ne (by omega)))
                have w245 : 0 ≤ Xi T1 904 81 ∧ Xi T1 904 81 ≤ 5010 := hHT1.c _ _
                exact Rl_weak (C295 U11 hHU11 hFU11 (0) (by omega) (by omega) (by omega)) (And.intro rfl (And.intro rfl (True.intro)))
              · refine l_iconst rfl ?_
                refine l_goto rfl rfl ?_
                refine l_istore_n rfl rfl rfl ?_
                refine l_aload_n rfl rfl ?_
                refine l_bipush rfl rfl ?_
                refine l_pfi rfl rfl rfl rfl ?_
                obtain ⟨U12, eU12⟩ : ∃ T : sS, T = uI U9 904 153 (Int32.ofInt (-2)) := ⟨_, rfl⟩
                rw [← eU12]
                have hHU12 : HI U12 := by rw [eU12]; exact HI_w hHU9 (show -2 ≤ (-2) by omega) (show (-2) ≤ 15 by omega)
                have hFU12 : FR md_mo_askCommand S U12 := by rw [eU12]; exact FR.wI hFU9 (mdf_i (r := (904, 905, 153, 154)) (List.mem_of_getElem? (i := 5) rfl) (inR_i (by omega) (by omega) (by omega) (by omega)))
                have w246 : Xi U12 904 153 = (-2) := by rw [eU12]; exact Xi_same (by unfold rg; omega)
                refine l_goto rfl rfl ?_
                have w247 : Xi U12 904 106 = Xi T1 904 106 := (show Xi U12 904 106 = Xi U9 904 106 from by rw [eU12]; exact Xi_ne (by omega)).trans ((show Xi U9 904 106 = Xi T1 904 106 from by rw [eU9]; exact Xi_ne (by omega)))
                have w248 : 0 ≤ Xi T1 904 106 ∧ Xi T1 904 106 ≤ 9 := hHT1.c _ _
                have w249 : Xi U12 904 150 = Xi T1 904 150 := (show Xi U12 904 150 = Xi U9 904 150 from by rw [eU12]; exact Xi_ne (by omega)).trans ((show Xi U9 904 150 = Xi T1 904 150 from by rw [eU9]; exact Xi_ne (by omega)))
                have w250 : 0 ≤ Xi T1 904 150 ∧ Xi T1 904 150 ≤ 5000 := hHT1.c _ _
                have w251 : Xi U12 904 81 = Xi T1 904 81 := (show Xi U12 904 81 = Xi U9 904 81 from by rw [eU12]; exact Xi_ne (by omega)).trans ((show Xi U9 904 81 = Xi T1 904 81 from by rw [eU9]; exact Xi_ne (by omega)))
                have w252 : 0 ≤ Xi T1 904 81 ∧ Xi T1 904 81 ≤ 5010 := hHT1.c _ _
                exact Rl_weak (C295 U12 hHU12 hFU12 (1) (by omega) (by omega) (by omega)) (And.intro rfl (And.intro rfl (True.intro)))
        · refine l_aload_n rfl rfl ?_
          refine l_gfi rfl rfl rfl rfl rfl ?_
          have w253 : 0 ≤ (Xi U9 904 150) ∧ (Xi U9 904 150) ≤ 5000 := hHU9.c _ _
          refine l_if_ne rfl rfl (by unfold rg; omega) (fun w254 => ?_) (fun w255 => ?_)
          · refine l_iconst rfl ?_
            refine l_istore_n rfl rfl rfl ?_
            refine l_goto rfl rfl ?_
            have w256 : Xi U9 904 106 = Xi T1 904 106 := (show Xi U9 904 106 = Xi T1 904 106 from by rw [eU9]; exact Xi_ne (by omega))
            have w257 : 0 ≤ Xi T1 904 106 ∧ Xi T1 904 106 ≤ 9 := hHT1.c _ _
            have w258 : Xi U9 904 150 = Xi T1 904 150 := (show Xi U9 904 150 = Xi T1 904 150 from by rw [eU9]; exact Xi_ne (by omega))
            have w259 : 0 ≤ Xi T1 904 150 ∧ Xi T1 904 150 ≤ 5000 := hHT1.c _ _
            have w260 : Xi U9 904 81 = Xi T1 904 81 := (show Xi U9 904 81 = Xi T1 904 81 from by rw [eU9]; exact Xi_ne (by omega))
            have w261 : 0 ≤ Xi T1 904 81 ∧ Xi T1 904 81 ≤ 5010 := hHT1.c _ _
            exact Rl_weak (C295 U9 hHU9 hFU9 (0) (by omega) (by omega) (by omega)) (And.intro rfl (And.intro rfl (True.intro)))
          · refine l_iconst rfl ?_
            refine l_goto rfl rfl ?_
            refine l_istore_n rfl rfl rfl ?_
            refine l_goto rfl rfl ?_
            have w262 : Xi U9 904 106 = Xi T1 904 106 := (show Xi U9 904 106 = Xi T1 904 106 from by rw [eU9]; exact Xi_ne (by omega))
            have w263 : 0 ≤ Xi T1 904 106 ∧ Xi T1 904 106 ≤ 9 := hHT1.c _ _
            have w264 : Xi U9 904 150 = Xi T1 904 150 := (show Xi U9 904 150 = Xi T1 904 150 from by rw [eU9]; exact Xi_ne (by omega))
            have w265 : 0 ≤ Xi T1 904 150 ∧ Xi T1 904 150 ≤ 5000 := hHT1.c _ _
            have w266 : Xi U9 904 81 = Xi T1 904 81 := (show Xi U9 904 81 = Xi T1 904 81 from by rw [eU9]; exact Xi_ne (by omega))
            have w267 : 0 ≤ Xi T1 904 81 ∧ Xi T1 904 81 ≤ 5010 := hHT1.c _ _
            exact Rl_weak (C295 U9 hHU9 hFU9 (1) (by omega) (by omega) (by omega)) (And.intro rfl (And.intro rfl (True.intro)))
  refine l_aload_n rfl rfl ?_
  refine l_aload_n rfl rfl ?_
  refine l_gfi rfl rfl rfl rfl rfl ?_
  refine l_bipush rfl rfl ?_
  refine l_icmp_ge rfl rfl (by unfold rg; omega) (by unfold rg; omega) (fun w268 => ?_) (fun w269 => ?_)
  · refine l_iconst rfl ?_
    refine l_bipush rfl rfl ?_
    refine l_aload_n rfl rfl ?_
    refine l_gfi rfl rfl rfl rfl rfl ?_
    have w270 : 0 ≤ Xi S 904 106 ∧ Xi S 904 106 ≤ 9 := hH.c _ _
    have w271 : 0 ≤ Xi S 904 150 ∧ Xi S 904 150 ≤ 5000 := hH.c _ _
    have w272 : 0 ≤ Xi S 904 81 ∧ Xi S 904 81 ≤ 5010 := hH.c _ _
    refine l_callV rfl rfl rfl (t_mo_need hH 0 9 (Xi S 904 81) ⟨by omega, by omega⟩ ⟨by omega, by omega⟩ ⟨by omega, by omega⟩ _) ?_
    rintro _ T13 ⟨hHT13, w276, rfl, w273, w274⟩
    have hFT13 : FR md_mo_askCommand S T13 := FR.tr hF w276 rfl
    show Rl _ _ _ _ _ [] _ _
    refine l_aload_n rfl rfl ?_
    refine l_aload_n rfl rfl ?_
    refine l_gfr rfl rfl rfl rfl rfl (hHT13.r 904 5 908 rfl) ?_
    refine l_aload_n rfl rfl ?_
    refine l_gfi rfl rfl rfl rfl rfl ?_
    have w277 : (Xi T13 904 81) = (Xi S 904 81) := (show Xi T13 904 81 = Xi S 904 81 from w276.x _ _ rfl)
    rw [w277]
    refine l_iaload (n := 5002) rfl rfl (by omega) (by omega) (by unfold rg; omega) ?_
    have w278 : 0 ≤ (Xi T13 908 (((Xi S 904 81)).toNat)) ∧ (Xi T13 908 (((Xi S 904 81)).toNat)) ≤ 5000 := hHT13.c _ _
    have e33 : (Xi T13 908 (((Xi S 904 81)).toNat)) = Xi S 908 (Xi S 904 81).toNat := by first | exact (hFT13.cx 908 rfl _).1 | (rw [(hFT13.cx 908 rfl _).1, show Xi T13 904 81 = Xi S 904 81 by omega])
    refine l_iconst rfl ?_
    refine l_iadd rfl ?_
    refine l_aload_n rfl rfl ?_
    refine l_gfr rfl rfl rfl rfl rfl (hHT13.r 904 6 909 rfl) ?_
    refine l_aload_n rfl rfl ?_
    refine l_gfi rfl rfl rfl rfl rfl ?_
    have w279 : (Xi T13 904 81) = (Xi S 904 81) := (show Xi T13 904 81 = Xi S 904 81 from w276.x _ _ rfl)
    rw [w279]
    refine l_iaload (n := 5002) rfl rfl (by omega) (by omega) (by unfold rg; omega) ?_
    have w280 : 0 ≤ (Xi T13 909 (((Xi S 904 81)).toNat)) ∧ (Xi T13 909 (((Xi S 904 81)).toNat)) ≤ 5000 := hHT13.c _ _
    have e44 : (Xi T13 909 (((Xi S 904 81)).toNat)) = Xi S 909 (Xi S 904 81).toNat := by first | exact (hFT13.cx 909 rfl _).1 | (rw [(hFT13.cx 909 rfl _).1, show Xi T13 904 81 = Xi S 904 81 by omega])
    have w281 : 0 ≤ Xi T13 904 106 ∧ Xi T13 904 106 ≤ 9 := hHT13.c _ _
    have w282 : Xi T13 904 150 = Xi S 904 150 := (show Xi T13 904 150 = Xi S 904 150 from w276.x _ _ rfl)
    have w283 : 0 ≤ Xi S 904 150 ∧ Xi S 904 150 ≤ 5000 := hH.c _ _
    have w284 : Xi T13 904 81 = Xi S 904 81 := (show Xi T13 904 81 = Xi S 904 81 from w276.x _ _ rfl)
    have w285 : 0 ≤ Xi S 904 81 ∧ Xi S 904 81 ≤ 5010 := hH.c _ _
    refine l_callV rfl rfl rfl (t_mo_isCommand hHT13 ((Xi T13 908 (((Xi S 904 81)).toNat)) + 1) (Xi T13 909 (((Xi S 904 81)).toNat)) ⟨by omega, by omega⟩ ⟨by omega, by omega⟩ (by first | assumption | omega) _) ?_
    rintro _ T14 ⟨hHT14, w287, z286, rfl, w286⟩
    have hFT14 : FR md_mo_askCommand S T14 := FR.tr hFT13 w287 rfl
    show Rl _ _ _ _ _ [iv z286] _ _
    refine l_istore_n rfl rfl rfl ?_
    refine l_aload_n rfl rfl ?_
    refine l_iconst rfl ?_
    refine l_bipush rfl rfl ?_
    have w288 : Xi T14 904 106 = Xi T13 904 106 := (show Xi T14 904 106 = Xi T13 904 106 from w287.x _ _ rfl)
    have w289 : 0 ≤ Xi T13 904 106 ∧ Xi T13 904 106 ≤ 9 := hHT13.c _ _
    have w290 : 0 ≤ Xi T14 904 150 ∧ Xi T14 904 150 ≤ 5000 := hHT14.c _ _
    have w291 : Xi T14 904 69 = Xi S 904 69 := (show Xi T14 904 69 = Xi T13 904 69 from w287.x _ _ rfl).trans ((show Xi T13 904 69 = Xi S 904 69 from w276.x _ _ rfl))
    have w292 : 0 ≤ Xi S 904 69 ∧ Xi S 904 69 ≤ 2600 := hH.c _ _
    have w293 : Xi T14 904 81 = Xi S 904 81 := (show Xi T14 904 81 = Xi T13 904 81 from w287.x _ _ rfl).trans ((show Xi T13 904 81 = Xi S 904 81 from w276.x _ _ rfl))
    have w294 : 0 ≤ Xi S 904 81 ∧ Xi S 904 81 ≤ 5010 := hH.c _ _
    refine l_callV rfl rfl rfl (t_mo_meansRun__2 hHT14 n 0 11 ⟨by omega, by omega⟩ ⟨by omega, by omega⟩ (by first | assumption | exact (TK_FR hFT14 rfl (by assumption : TK S _))) (by first | assumption | exact (RNV_FR hFT14 rfl (by assumption : RNV S _))) (by first | assumption | omega) (by first | assumption | exact (LXM_FR hFT14 rfl (by assumption : LXM S))) _) ?_
    rintro _ _ ⟨rfl, z297, rfl, w297, w295, w296⟩
    show Rl _ _ _ _ _ [iv z297] _ _
    have x53 : z297 ≠ -1 → z297 < Xi S 904 49 := fun q => by have t := (by assumption : z297 ≠ -1 → z297 < cM T14 11) q; rw [cM11, hFT14.x 904 49 rfl] at t; exact t
    have r53 : z297 = rnR S 0 11 := (by assumption : z297 = rnR T14 _ _).trans (rnR_FR hFT14 rfl rfl)
    refine l_istore_n rfl rfl rfl ?_
    refine l_aload_n rfl rfl ?_
    refine l_iload_n rfl rfl ?_
    refine l_iconst rfl ?_
    refine l_icmp_eq rfl rfl (by unfold rg; omega) (by unfold rg; omega) (fun w298 => ?_) (fun w299 => ?_)
    · refine l_iconst rfl ?_
      refine l_iconst rfl ?_
      refine l_aload_n rfl rfl ?_
      refine l_gfr rfl rfl rfl rfl rfl (hHT14.r 904 67 950 rfl) ?_
      refine l_iconst rfl ?_
      refine l_iaload (n := 2600) rfl rfl (by omega) (by omega) (by unfold rg; omega) ?_
      have w300 : 0 ≤ (Xi T14 950 ((0 : Int).toNat)) ∧ (Xi T14 950 ((0 : Int).toNat)) ≤ 5010 := hHT14.c _ _
      have w301 : (Xi T14 950 ((0 : Int).toNat)) = Xi T14 950 0 := rfl
      have w302 : Xi T14 904 106 = Xi T13 904 106 := (show Xi T14 904 106 = Xi T13 904 106 from w287.x _ _ rfl)
      have w303 : 0 ≤ Xi T13 904 106 ∧ Xi T13 904 106 ≤ 9 := hHT13.c _ _
      have w304 : 0 ≤ Xi T14 904 150 ∧ Xi T14 904 150 ≤ 5000 := hHT14.c _ _
      have w305 : Xi T14 904 81 = Xi S 904 81 := (show Xi T14 904 81 = Xi T13 904 81 from w287.x _ _ rfl).trans ((show Xi T13 904 81 = Xi S 904 81 from w276.x _ _ rfl))
      have w306 : 0 ≤ Xi S 904 81 ∧ Xi S 904 81 ≤ 5010 := hH.c _ _
      refine l_callV rfl rfl rfl (t_mo_need hHT14 0 4 (Xi T14 950 ((0 : Int).toNat)) ⟨by omega, by omega⟩ ⟨by omega, by omega⟩ ⟨by omega, by omega⟩ _) ?_
      rintro _ T15 ⟨hHT15, w310, rfl, w307, w308⟩
      have hFT15 : FR md_mo_askCommand S T15 := FR.tr hFT14 w310 rfl
      show Rl _ _ _ _ _ [] _ _
      have w311 : 0 ≤ Xi T15 904 106 ∧ Xi T15 904 106 ≤ 9 := hHT15.c _ _
      have w312 : Xi T15 904 150 = Xi T14 904 150 := (show Xi T15 904 150 = Xi T14 904 150 from w310.x _ _ rfl)
      have w313 : 0 ≤ Xi T14 904 150 ∧ Xi T14 904 150 ≤ 5000 := hHT14.c _ _
      have w314 : Xi T15 904 81 = Xi S 904 81 := (show Xi T15 904 81 = Xi T14 904 81 from w310.x _ _ rfl).trans ( (show Xi T14 904 81 = Xi T13 904 81 from w287.x _ _ rfl).trans ((show Xi T13 904 81 = Xi S 904 81 from w276.x _ _ rfl)))
      have w315 : 0 ≤ Xi S 904 81 ∧ Xi S 904 81 ≤ 5010 := hH.c _ _
      exact Rl_weak (C78 T15 hHT15 hFT15 (z286) (z297) (by omega) (by omega) (by omega) (by omega) (by omega) (by omega)) (And.intro rfl (And.intro rfl (And.intro rfl (True.intro))))
    · refine l_iconst rfl ?_
      refine l_goto rfl rfl ?_
      refine l_iconst rfl ?_
      refine l_aload_n rfl rfl ?_
      refine l_gfr rfl rfl rfl rfl rfl (hHT14.r 904 67 950 rfl) ?_
      refine l_iconst rfl ?_
      refine l_iaload (n := 2600) rfl rfl (by omega) (by omega) (by unfold rg; omega) ?_
      have w316 : 0 ≤ (Xi T14 950 ((0 : Int).toNat)) ∧ (Xi T14 950 ((0 : Int).toNat)) ≤ 5010 := hHT14.c _ _
      have w317 : (Xi T14 950 ((0 : Int).toNat)) = Xi T14 950 0 := rfl
      have w318 : Xi T14 904 106 = Xi T13 904 106 := (show Xi T14 904 106 = Xi T13 904 106 from w287.x _ _ rfl)
      have w319 : 0 ≤ Xi T13 904 106 ∧ Xi T13 904 106 ≤ 9 := hHT13.c _ _
      have w320 : 0 ≤ Xi T14 904 150 ∧ Xi T14 904 150 ≤ 5000 := hHT14.c _ _
      have w321 : Xi T14 904 81 = Xi S 904 81 := (show Xi T14 904 81 = Xi T13 904 81 from w287.x _ _ rfl).trans ((show Xi T13 904 81 = Xi S 904 81 from w276.x _ _ rfl))
      have w322 : 0 ≤ Xi S 904 81 ∧ Xi S 904 81 ≤ 5010 := hH.c _ _
      refine l_callV rfl rfl rfl (t_mo_need hHT14 1 4 (Xi T14 950 ((0 : Int).toNat)) ⟨by omega, by omega⟩ ⟨by omega, by omega⟩ ⟨by omega, by omega⟩ _) ?_
      rintro _ T16 ⟨hHT16, w326, rfl, w323, w324⟩
      have hFT16 : FR md_mo_askCommand S T16 := FR.tr hFT14 w326 rfl
      show Rl _ _ _ _ _ [] _ _
      have w327 : 0 ≤ Xi T16 904 106 ∧ Xi T16 904 106 ≤ 9 := hHT16.c _ _
      have w328 : Xi T16 904 150 = Xi T14 904 150 := (show Xi T16 904 150 = Xi T14 904 150 from w326.x _ _ rfl)
      have w329 : 0 ≤ Xi T14 904 150 ∧ Xi T14 904 150 ≤ 5000 := hHT14.c _ _
      have w330 : Xi T16 904 81 = Xi S 904 81 := (show Xi T16 904 81 = Xi T14 904 81 from w326.x _ _ rfl).trans ( (show Xi T14 904 81 = Xi T13 904 81 from w287.x _ _ rfl).trans ((show Xi T13 904 81 = Xi S 904 81 from w276.x _ _ rfl)))
      have w331 : 0 ≤ Xi S 904 81 ∧ Xi S 904 81 ≤ 5010 := hH.c _ _
      exact Rl_weak (C78 T16 hHT16 hFT16 (z286) (z297) (by omega) (by omega) (by omega) (by omega) (by omega) (by omega)) (And.intro rfl (And.intro rfl (And.intro rfl (True.intro))))
  · refine l_iconst rfl ?_
    refine l_goto rfl rfl ?_
    refine l_bipush rfl rfl ?_
    refine l_aload_n rfl rfl ?_
    refine l_gfi rfl rfl rfl rfl rfl ?_
    have w332 : 0 ≤ Xi S 904 106 ∧ Xi S 904 106 ≤ 9 := hH.c _ _
    have w333 : 0 ≤ Xi S 904 150 ∧ Xi S 904 150 ≤ 5000 := hH.c _ _
    have w334 : 0 ≤ Xi S 904 81 ∧ Xi S 904 81 ≤ 5010 := hH.c _ _
    refine l_callV rfl rfl rfl (t_mo_need hH 1 9 (Xi S 904 81) ⟨by omega, by omega⟩ ⟨by omega, by omega⟩ ⟨by omega, by omega⟩ _) ?_
    rintro _ T17 ⟨hHT17, w338, rfl, w335, w336⟩
    have hFT17 : FR md_mo_askCommand S T17 := FR.tr hF w338 rfl
    show Rl _ _ _ _ _ [] _ _
    refine l_aload_n rfl rfl ?_
    refine l_aload_n rfl rfl ?_
    refine l_gfr rfl rfl rfl rfl rfl (hHT17.r 904 5 908 rfl) ?_
    refine l_aload_n rfl rfl ?_
    refine l_gfi rfl rfl rfl rfl rfl ?_
    have w339 : (Xi T17 904 81) = (Xi S 904 81) := (show Xi T17 904 81 = Xi S 904 81 from w338.x _ _ rfl)
    rw [w339]
    refine l_iaload (n := 5002) rfl rfl (by omega) (by omega) (by unfold rg; omega) ?_
    have w340 : 0 ≤ (Xi T17 908 (((Xi S 904 81)).toNat)) ∧ (Xi T17 908 (((Xi S 904 81)).toNat)) ≤ 5000 := hHT17.c _ _
    have e33 : (Xi T17 908 (((Xi S 904 81)).toNat)) = Xi S 908 (Xi S 904 81).toNat := by first | exact (hFT17.cx 908 rfl _).1 | (rw [(hFT17.cx 908 rfl _).1, show Xi T17 904 81 = Xi S 904 81 by omega])
    refine l_iconst rfl ?_
    refine l_iadd rfl ?_
    refine l_aload_n rfl rfl ?_
    refine l_gfr rfl rfl rfl rfl rfl (hHT17.r 904 6 909 rfl) ?_
    refine l_aload_n rfl rfl ?_
    refine l_gfi rfl rfl rfl rfl rfl ?_
    have w341 : (Xi T17 904 81) = (Xi S 904 81) := (show Xi T17 904 81 = Xi S 904 81 from w338.x _ _ rfl)
    rw [w341]
    refine l_iaload (n := 5002) rfl rfl (by omega) (by omega) (by unfold rg; omega) ?_
    have w342 : 0 ≤ (Xi T17 909 (((Xi S 904 81)).toNat)) ∧ (Xi T17 909 (((Xi S 904 81)).toNat)) ≤ 5000 := hHT17.c _ _
    have e44 : (Xi T17 909 (((Xi S 904 81)).toNat)) = Xi S 909 (Xi S 904 81).toNat := by first | exact (hFT17.cx 909 rfl _).1 | (rw [(hFT17.cx 909 rfl _).1, show Xi T17 904 81 = Xi S 904 81 by omega])
    have w343 : 0 ≤ Xi T17 904 106 ∧ Xi T17 904 106 ≤ 9 := hHT17.c _ _
    have w344 : Xi T17 904 150 = Xi S 904 150 := (show Xi T17 904 150 = Xi S 904 150 from w338.x _ _ rfl)
    have w345 : 0 ≤ Xi S 904 150 ∧ Xi S 904 150 ≤ 5000 := hH.c _ _
    have w346 : Xi T17 904 81 = Xi S 904 81 := (show Xi T17 904 81 = Xi S 904 81 from w338.x _ _ rfl)
    have w347 : 0 ≤ Xi S 904 81 ∧ Xi S 904 81 ≤ 5010 := hH.c _ _
    refine l_callV rfl rfl rfl (t_mo_isCommand hHT17 ((Xi T17 908 (((Xi S 904 81)).toNat)) + 1) (Xi T17 909 (((Xi S 904 81)).toNat)) ⟨by omega, by omega⟩ ⟨by omega, by omega⟩ (by first | assumption | omega) _) ?_
    rintro _ T18 ⟨hHT18, w349, z348, rfl, w348⟩
    have hFT18 : FR md_mo_askCommand S T18 := FR.tr hFT17 w349 rfl
    show Rl _ _ _ _ _ [iv z348] _ _
    refine l_istore_n rfl rfl rfl ?_
    refine l_aload_n rfl rfl ?_
    refine l_iconst rfl ?_
    refine l_bipush rfl rfl ?_
    have w350 : Xi T18 904 106 = Xi T17 904 106 := (show Xi T18 904 106 = Xi T17 904 106 from w349.x _ _ rfl)
    have w351 : 0 ≤ Xi T17 904 106 ∧ Xi T17 904 106 ≤ 9 := hHT17.c _ _
    have w352 : 0 ≤ Xi T18 904 150 ∧ Xi T18 904 150 ≤ 5000 := hHT18.c _ _
    have w353 : Xi T18 904 69 = Xi S 904 69 := (show Xi T18 904 69 = Xi T17 904 69 from w349.x _ _ rfl).trans ((show Xi T17 904 69 = Xi S 904 69 from w338.x _ _ rfl))
    have w354 : 0 ≤ Xi S 904 69 ∧ Xi S 904 69 ≤ 2600 := hH.c _ _
    have w355 : Xi T18 904 81 = Xi S 904 81 := (show Xi T18 904 81 = Xi T17 904 81 from w349.x _ _ rfl).trans ((show Xi T17 904 81 = Xi S 904 81 from w338.x _ _ rfl))
    have w356 : 0 ≤ Xi S 904 81 ∧ Xi S 904 81 ≤ 5010 := hH.c _ _
    refine l_callV rfl rfl rfl (t_mo_meansRun__2 hHT18 n 0 11 ⟨by omega, by omega⟩ ⟨by omega, by omega⟩ (by first | assumption | exact (TK_FR hFT18 rfl (by assumption : TK S _))) (by first | assumption | exact (RNV_FR hFT18 rfl (by assumption : RNV S _))) (by first | assumption | omega) (by first | assumption | exact (LXM_FR hFT18 rfl (by assumption : LXM S))) _) ?_
    rintro _ _ ⟨rfl, z359, rfl, w359, w357, w358⟩
    show Rl _ _ _ _ _ [iv z359] _ _
    have x53 : z359 ≠ -1 → z359 < Xi S 904 49 := fun q => by have t := (by assumption : z359 ≠ -1 → z359 < cM T18 11) q; rw [cM11, hFT18.x 904 49 rfl] at t; exact t
    have r53 : z359 = rnR S 0 11 := (by assumption : z359 = rnR T18 _ _).trans (rnR_FR hFT18 rfl rfl)
    refine l_istore_n rfl rfl rfl ?_
    refine l_aload_n rfl rfl ?_
    refine l_iload_n rfl rfl ?_
    refine l_iconst rfl ?_
    refine l_icmp_eq rfl rfl (by unfold rg; omega) (by unfold rg; omega) (fun w360 => ?_) (fun w361 => ?_)
    · refine l_iconst rfl ?_
      refine l_iconst rfl ?_
      refine l_aload_n rfl rfl ?_
      refine l_gfr rfl rfl rfl rfl rfl (hHT18.r 904 67 950 rfl) ?_
      refine l_iconst rfl ?_
      refine l_iaload (n := 2600) rfl rfl (by omega) (by omega) (by unfold rg; omega) ?_
      have w362 : 0 ≤ (Xi T18 950 ((0 : Int).toNat)) ∧ (Xi T18 950 ((0 : Int).toNat)) ≤ 5010 := hHT18.c _ _
      have w363 : (Xi T18 950 ((0 : Int).toNat)) = Xi T18 950 0 := rfl
      have w364 : Xi T18 904 106 = Xi T17 904 106 := (show Xi T18 904 106 = Xi T17 904 106 from w349.x _ _ rfl)
      have w365 : 0 ≤ Xi T17 904 106 ∧ Xi T17 904 106 ≤ 9 := hHT17.c _ _
      have w366 : 0 ≤ Xi T18 904 150 ∧ Xi T18 904 150 ≤ 5000 := hHT18.c _ _
      have w367 : Xi T18 904 81 = Xi S 904 81 := (show Xi T18 904 81 = Xi T17 904 81 from w349.x _ _ rfl).trans ((show Xi T17 904 81 = Xi S 904 81 from w338.x _ _ rfl))
      have w368 : 0 ≤ Xi S 904 81 ∧ Xi S 904 81 ≤ 5010 := hH.c _ _
      refine l_callV rfl rfl rfl (t_mo_need hHT18 0 4 (Xi T18 950 ((0 : Int).toNat)) ⟨by omega, by omega⟩ ⟨by omega, by omega⟩ ⟨by omega, by omega⟩ _) ?_
      rintro _ T19 ⟨hHT19, w372, rfl, w369, w370⟩
      have hFT19 : FR md_mo_askCommand S T19 := FR.tr hFT18 w372 rfl
      show Rl _ _ _ _ _ [] _ _
      have w373 : 0 ≤ Xi T19 904 106 ∧ Xi T19 904 106 ≤ 9 := hHT19.c _ _
      have w374 : Xi T19 904 150 = Xi T18 904 150 := (show Xi T19 904 150 = Xi T18 904 150 from w372.x _ _ rfl)
      have w375 : 0 ≤ Xi T18 904 150 ∧ Xi T18 904 150 ≤ 5000 := hHT18.c _ _
      have w376 : Xi T19 904 81 = Xi S 904 81 := (show Xi T19 904 81 = Xi T18 904 81 from w372.x _ _ rfl).trans ( (show Xi T18 904 81 = Xi T17 904 81 from w349.x _ _ rfl).trans ((show Xi T17 904 81 = Xi S 904 81 from w338.x _ _ rfl)))
      have w377 : 0 ≤ Xi S 904 81 ∧ Xi S 904 81 ≤ 5010 := hH.c _ _
      exact Rl_weak (C78 T19 hHT19 hFT19 (z348) (z359) (by omega) (by omega) (by omega) (by omega) (by omega) (by omega)) (And.intro rfl (And.intro rfl (And.intro rfl (True.intro))))
    · refine l_iconst rfl ?_
      refine l_goto rfl rfl ?_
      refine l_iconst rfl ?_
      refine l_aload_n rfl rfl ?_
      refine l_gfr rfl rfl rfl rfl rfl (hHT18.r 904 67 950 rfl) ?_
      refine l_iconst rfl ?_
      refine l_iaload (n := 2600) rfl rfl (by omega) (by omega) (by unfold rg; omega) ?_
      have w378 : 0 ≤ (Xi T18 950 ((0 : Int).toNat)) ∧ (Xi T18 950 ((0 : Int).toNat)) ≤ 5010 := hHT18.c _ _
      have w379 : (Xi T18 950 ((0 : Int).toNat)) = Xi T18 950 0 := rfl
      have w380 : Xi T18 904 106 = Xi T17 904 106 := (show Xi T18 904 106 = Xi T17 904 106 from w349.x _ _ rfl)
      have w381 : 0 ≤ Xi T17 904 106 ∧ Xi T17 904 106 ≤ 9 := hHT17.c _ _
      have w382 : 0 ≤ Xi T18 904 150 ∧ Xi T18 904 150 ≤ 5000 := hHT18.c _ _
      have w383 : Xi T18 904 81 = Xi S 904 81 := (show Xi T18 904 81 = Xi T17 904 81 from w349.x _ _ rfl).trans ((show Xi T17 904 81 = Xi S 904 81 from w338.x _ _ rfl))
      have w384 : 0 ≤ Xi S 904 81 ∧ Xi S 904 81 ≤ 5010 := hH.c _ _
      refine l_callV rfl rfl rfl (t_mo_need hHT18 1 4 (Xi T18 950 ((0 : Int).toNat)) ⟨by omega, by omega⟩ ⟨by omega, by omega⟩ ⟨by omega, by omega⟩ _) ?_
      rintro _ T20 ⟨hHT20, w388, rfl, w385, w386⟩
      have hFT20 : FR md_mo_askCommand S T20 := FR.tr hFT18 w388 rfl
      show Rl _ _ _ _ _ [] _ _
      have w389 : 0 ≤ Xi T20 904 106 ∧ Xi T20 904 106 ≤ 9 := hHT20.c _ _
      have w390 : Xi T20 904 150 = Xi T18 904 150 := (show Xi T20 904 150 = Xi T18 904 150 from w388.x _ _ rfl)
      have w391 : 0 ≤ Xi T18 904 150 ∧ Xi T18 904 150 ≤ 5000 := hHT18.c _ _
      have w392 : Xi T20 904 81 = Xi S 904 81 := (show Xi T20 904 81 = Xi T18 904 81 from w388.x _ _ rfl).trans ( (show Xi T18 904 81 = Xi T17 904 81 from w349.x _ _ rfl).trans ((show Xi T17 904 81 = Xi S 904 81 from w338.x _ _ rfl)))
      have w393 : 0 ≤ Xi S 904 81 ∧ Xi S 904 81 ≤ 5010 := hH.c _ _
      exact Rl_weak (C78 T20 hHT20 hFT20 (z348) (z359) (by omega) (by omega) (by omega) (by omega) (by omega) (by omega)) (And.intro rfl (And.intro rfl (And.intro rfl (True.intro))))
def md_mo_askWay : List rec := [(904, 905, 104, 105), (904, 905, 105, 106), (904, 905, 106, 107), (904, 905, 108, 109), (966, 967, 0, 100000)]
abbrev Q_mo_askWay (S : sS) (n : Nat) : pst := fun r S1 => HI S1 ∧ FR md_mo_askWay S S1 ∧ (r = none ∧ (Xi S1 904 106 = 0 → (rnR S (Xi S 904 71) 4 = -1 → Xi S 904 19 < 24 ∧ Xi S 951 (Xi S 904 71).toNat ≤ 3) ∧ rnR S (Xi S 904 78) 12 ≠ -1 ∧ rnR S (Xi S 904 74) 4 ≠ -1))
set_option maxRecDepth 100000 in
set_option maxHeartbeats 4000000 in
theorem t_mo_askWay {S : sS} (hH : HI S) (n : Nat) (hT : TK S n) (hv : RNV S n) (hM : LXM S) (hN : NWV S) (hB : ABV S) (hl : Xi S 904 71 + Xi S 904 72 ≤ Xi S 904 69) (h1 : 1 ≤ Xi S 904 72) (h9 : Xi S 904 108 = 0) (hw : 0 ≤ Xi S 904 78 ∧ Xi S 904 78 < Xi S 904 69) (hp : Xi S 904 74 < Xi S 904 69) (d : Nat) : Mt lay0 (d + 5) m_mo_askWay [.ref 904] S (Q_mo_askWay S n) := by
  refine Mt_R rfl rfl ?_
  have hF : FR md_mo_askWay S S := FR.rf
  have w1 : 0 ≤ Xi S 904 106 ∧ Xi S 904 106 ≤ 9 := hH.c _ _
  have w2 : 0 ≤ Xi S 904 108 ∧ Xi S 904 108 ≤ 2600 := hH.c _ _
  have w3 : 0 ≤ Xi S 904 19 ∧ Xi S 904 19 ≤ 24 := hH.c _ _
  have w4 : 0 ≤ Xi S 904 69 ∧ Xi S 904 69 ≤ 2600 := hH.c _ _
  have w5 : 0 ≤ Xi S 904 71 ∧ Xi S 904 71 ≤ 2600 := hH.c _ _
  have w6 : 0 ≤ Xi S 904 72 ∧ Xi S 904 72 ≤ 2600 := hH.c _ _
  have w7 : 0 ≤ Xi S 904 74 ∧ Xi S 904 74 ≤ 2600 := hH.c _ _
  have w8 : -2 ≤ Xi S 904 78 ∧ Xi S 904 78 ≤ 5010 := hH.c _ _
  have hn5 := hT.1
  have hc69 : 0 ≤ Xi S 904 69 ∧ Xi S 904 69 ≤ 2600 := hH.c _ _
  have hc71 : 0 ≤ Xi S 904 71 ∧ Xi S 904 71 ≤ 2600 := hH.c _ _
  have hc72 : 0 ≤ Xi S 904 72 ∧ Xi S 904 72 ≤ 2600 := hH.c _ _
  have hrf : ∀ r : Int, 0 ≤ r → r < Xi S 904 69 → Xi S 950 r.toNat ≤ n := fun r a b => by have := hv r.toNat (by omega); omega
  have hc19 : 0 ≤ Xi S 904 19 ∧ Xi S 904 19 ≤ 24 := hH.c _ _
  have hc74 : 0 ≤ Xi S 904 74 := (hH.c 904 74).1
  have C69 : ∀  (T1 : sS) (_ : HI T1) (_ : FR md_mo_askWay S T1) (v1 : Int), (0 ≤ v1 ∧ v1 ≤ 2600) → (v1 = Xi S 904 71) → (Xi T1 904 69 = Xi S 904 69) → (Xi T1 904 72 = Xi S 904 72) → (Xi T1 904 78 = Xi S 904 78) → (Xi T1 904 74 = Xi S 904 74) → (Xi T1 904 106 = 0 → (rnR S (Xi S 904 71) 4 = -1 → Xi S 904 19 < 24 ∧ Xi S 951 (Xi S 904 71).toNat ≤ 3)) → Rl lay0 (d + 4) m_mo_askWay 69 [(0, .ref 904), (1, iv v1)] [] T1 (Q_mo_askWay S n) := by
    intro T1 hHT1 hFT1 v1 w9 w10 w11 w12 w13 w14 F69
    have w15 : Xi T1 904 19 = Xi S 904 19 := hFT1.x _ _ rfl
    have w16 : Xi T1 904 69 = Xi S 904 69 := hFT1.x _ _ rfl
    have w17 : Xi T1 904 71 = Xi S 904 71 := hFT1.x _ _ rfl
    have w18 : Xi T1 904 72 = Xi S 904 72 := hFT1.x _ _ rfl
    have w19 : Xi T1 904 74 = Xi S 904 74 := hFT1.x _ _ rfl
    have w20 : Xi T1 904 78 = Xi S 904 78 := hFT1.x _ _ rfl
    have w21 : 0 ≤ Xi T1 904 106 ∧ Xi T1 904 106 ≤ 9 := hHT1.c _ _
    have w22 : 0 ≤ Xi T1 904 69 ∧ Xi T1 904 69 ≤ 2600 := hHT1.c _ _
    have w23 : 0 ≤ Xi T1 904 72 ∧ Xi T1 904 72 ≤ 2600 := hHT1.c _ _
    have w24 : 0 ≤ Xi T1 904 74 ∧ Xi T1 904 74 ≤ 2600 := hHT1.c _ _
    have w25 : -2 ≤ Xi T1 904 78 ∧ Xi T1 904 78 ≤ 5010 := hHT1.c _ _
    refine l_aload_n rfl rfl ?_
    refine l_gfi rfl rfl rfl rfl rfl ?_
    refine l_iconst rfl ?_
    refine l_icmp_le rfl rfl (by unfold rg; omega) (by unfold rg; omega) (fun w26 => ?_) (fun w27 => ?_)
    · refine l_aload_n rfl rfl ?_
      refine l_aload_n rfl rfl ?_
      refine l_aload_n rfl rfl ?_
      refine l_gfi rfl rfl rfl rfl rfl ?_
      refine l_bipush rfl rfl ?_
      have w28 : 0 ≤ Xi T1 904 106 ∧ Xi T1 904 106 ≤ 9 := hHT1.c _ _
      have w29 : 0 ≤ Xi T1 904 108 ∧ Xi T1 904 108 ≤ 2600 := hHT1.c _ _
      have w30 : 0 ≤ Xi T1 904 69 ∧ Xi T1 904 69 ≤ 2600 := hHT1.c _ _
      have w31 : 0 ≤ Xi T1 904 71 ∧ Xi T1 904 71 ≤ 2600 := hHT1.c _ _
      have w32 : 0 ≤ Xi T1 904 72 ∧ Xi T1 904 72 ≤ 2600 := hHT1.c _ _
      have w33 : 0 ≤ Xi T1 904 74 ∧ Xi T1 904 74 ≤ 2600 := hHT1.c _ _
      have w34 : -2 ≤ Xi T1 904 78 ∧ Xi T1 904 78 ≤ 5010 := hHT1.c _ _
      refine l_callV rfl rfl rfl (t_mo_meansRun__2 hHT1 n (Xi T1 904 78) 12 ⟨by omega, by omega⟩ ⟨by omega, by omega⟩ (by first | assumption | exact (TK_FR hFT1 rfl (by assumption : TK S _))) (by first | assumption | exact (RNV_FR hFT1 rfl (by assumption : RNV S _))) (by first | assumption | omega) (by first | assumption | exact (LXM_FR hFT1 rfl (by assumption : LXM S))) _) ?_
      rintro _ _ ⟨rfl, z37, rfl, w37, w35, w36⟩
      show Rl _ _ _ _ _ [iv z37, .ref 904] _ _
      have r98 : z37 = rnR S (Xi S 904 78) 12 := by have t := (by assumption : z37 = rnR T1 _ _).trans (rnR_FR hFT1 rfl rfl); first | exact t | (rw [t]; exact congrArg (fun x : Int => rnR S x 12) (by omega))
      refine l_iconst rfl ?_
      refine l_icmp_eq rfl rfl (by unfold rg; omega) (by unfold rg; omega) (fun w38 => ?_) (fun w39 => ?_)
      · refine l_iconst rfl ?_
        refine l_iconst rfl ?_
        refine l_aload_n rfl rfl ?_
        refine l_gfr rfl rfl rfl rfl rfl (hHT1.r 904 67 950 rfl) ?_
        refine l_aload_n rfl rfl ?_
        refine l_gfi rfl rfl rfl rfl rfl ?_
        refine l_iaload (n := 2600) rfl rfl (by omega) (by omega) (by unfold rg; omega) ?_
        have w40 : 0 ≤ (Xi T1 950 (((Xi T1 904 78)).toNat)) ∧ (Xi T1 950 (((Xi T1 904 78)).toNat)) ≤ 5010 := hHT1.c _ _
        have e119 : (Xi T1 950 (((Xi T1 904 78)).toNat)) = Xi S 950 (Xi S 904 78).toNat := by first | rfl | exact (hFT1.cx 950 rfl _).1 | (rw [(hFT1.cx 950 rfl _).1]; exact congrArg (fun t : Int => Xi S 950 t.toNat) (by omega))
        have f119 := hrf (Xi S 904 78) (by omega) (by omega)
        have w41 : 0 ≤ Xi T1 904 106 ∧ Xi T1 904 106 ≤ 9 := hHT1.c _ _
        have w42 : 0 ≤ Xi T1 904 108 ∧ Xi T1 904 108 ≤ 2600 := hHT1.c _ _
        have w43 : 0 ≤ Xi T1 904 69 ∧ Xi T1 904 69 ≤ 2600 := hHT1.c _ _
        have w44 : 0 ≤ Xi T1 904 71 ∧ Xi T1 904 71 ≤ 2600 := hHT1.c _ _
        have w45 : 0 ≤ Xi T1 904 72 ∧ Xi T1 904 72 ≤ 2600 := hHT1.c _ _
        have w46 : 0 ≤ Xi T1 904 74 ∧ Xi T1 904 74 ≤ 2600 := hHT1.c _ _
        have w47 : -2 ≤ Xi T1 904 78 ∧ Xi T1 904 78 ≤ 5010 := hHT1.c _ _
        refine l_callV rfl rfl rfl (t_mo_need hHT1 0 4 (Xi T1 950 (((Xi T1 904 78)).toNat)) ⟨by omega, by omega⟩ ⟨by omega, by omega⟩ ⟨by omega, by omega⟩ _) ?_
        rintro _ T2 ⟨hHT2, w51, rfl, w48, w49⟩
        have hFT2 : FR md_mo_askWay S T2 := FR.tr hFT1 w51 rfl
        show Rl _ _ _ _ _ [] _ _
        refine l_aload_n rfl rfl ?_
        refine l_aload_n rfl rfl ?_
        refine l_gfi rfl rfl rfl rfl rfl ?_
        have w52 : (Xi T2 904 74) = (Xi T1 904 74) := (show Xi T2 904 74 = Xi T1 904 74 from w51.x _ _ rfl)
        rw [w52]
        refine l_iconst rfl ?_
        have w53 : 0 ≤ Xi T2 904 106 ∧ Xi T2 904 106 ≤ 9 := hHT2.c _ _
        have w54 : Xi T2 904 108 = Xi T1 904 108 := (show Xi T2 904 108 = Xi T1 904 108 from w51.x _ _ rfl)
        have w55 : 0 ≤ Xi T1 904 108 ∧ Xi T1 904 108 ≤ 2600 := hHT1.c _ _
        have w56 : Xi T2 904 69 = Xi T1 904 69 := (show Xi T2 904 69 = Xi T1 904 69 from w51.x _ _ rfl)
        have w57 : 0 ≤ Xi T1 904 69 ∧ Xi T1 904 69 ≤ 2600 := hHT1.c _ _
        have w58 : Xi T2 904 71 = Xi T1 904 71 := (show Xi T2 904 71 = Xi T1 904 71 from w51.x _ _ rfl)
        have w59 : 0 ≤ Xi T1 904 71 ∧ Xi T1 904 71 ≤ 2600 := hHT1.c _ _
        have w60 : Xi T2 904 72 = Xi T1 904 72 := (show Xi T2 904 72 = Xi T1 904 72 from w51.x _ _ rfl)
        have w61 : 0 ≤ Xi T1 904 72 ∧ Xi T1 904 72 ≤ 2600 := hHT1.c _ _
        have w62 : Xi T2 904 74 = Xi T1 904 74 := (show Xi T2 904 74 = Xi T1 904 74 from w51.x _ _ rfl)
        have w63 : 0 ≤ Xi T1 904 74 ∧ Xi T1 904 74 ≤ 2600 := hHT1.c _ _
        have w64 : Xi T2 904 78 = Xi T1 904 78 := (show Xi T2 904 78 = Xi T1 904 78 from w51.x _ _ rfl)
        have w65 : -2 ≤ Xi T1 904 78 ∧ Xi T1 904 78 ≤ 5010 := hHT1.c _ _
        refine l_callV rfl rfl rfl (t_mo_meansRun__2 hHT2 n (Xi T1 904 74) 4 ⟨by omega, by omega⟩ ⟨by omega, by omega⟩ (by first | assumption | exact (TK_FR hFT2 rfl (by assumption : TK S _))) (by first | assumption | exact (RNV_FR hFT2 rfl (by assumption : RNV S _))) (by first | assumption | omega) (by first | assumption | exact (LXM_FR hFT2 rfl (by assumption : LXM S))) _) ?_
        rintro _ _ ⟨rfl, z68, rfl, w68, w66, w67⟩
        show Rl _ _ _ _ _ [iv z68] _ _
        have x129 : z68 ≠ -1 → z68 < Xi S 904 19 := fun q => by have t := (by assumption : z68 ≠ -1 → z68 < cM T2 4) q; rw [cM4, hFT2.x 904 19 rfl] at t; exact t
        have r129 : z68 = rnR S (Xi S 904 74) 4 := by have t := (by assumption : z68 = rnR T2 _ _).trans (rnR_FR hFT2 rfl rfl); first | exact t | (rw [t]; exact congrArg (fun x : Int => rnR S x 4) (by omega))
        refine l_istore_n rfl rfl rfl ?_
        refine l_aload_n rfl rfl ?_
        refine l_iload_n rfl rfl ?_
        refine l_iconst rfl ?_
        refine l_icmp_eq rfl rfl (by unfold rg; omega) (by unfold rg; omega) (fun w69 => ?_) (fun w70 => ?_)
        · refine l_iconst rfl ?_
          refine l_iconst rfl ?_
          refine l_aload_n rfl rfl ?_
          refine l_gfr rfl rfl rfl rfl rfl (hHT2.r 904 67 950 rfl) ?_
          refine l_aload_n rfl rfl ?_
          refine l_gfi rfl rfl rfl rfl rfl ?_
          have w71 : (Xi T2 904 74) = (Xi T1 904 74) := (show Xi T2 904 74 = Xi T1 904 74 from w51.x _ _ rfl)
          rw [w71]
          refine l_iaload (n := 2600) rfl rfl (by omega) (by omega) (by unfold rg; omega) ?_
          have w72 : 0 ≤ (Xi T2 950 (((Xi T1 904 74)).toNat)) ∧ (Xi T2 950 (((Xi T1 904 74)).toNat)) ≤ 5010 := hHT2.c _ _
          have e167 : (Xi T2 950 (((Xi T1 904 74)).toNat)) = Xi S 950 (Xi S 904 74).toNat := by first | rfl | exact (hFT2.cx 950 rfl _).1 | (rw [(hFT2.cx 950 rfl _).1]; exact congrArg (fun t : Int => Xi S 950 t.toNat) (by omega))
          have f167 := hrf (Xi S 904 74) (by omega) (by omega)
          have w73 : 0 ≤ Xi T2 904 106 ∧ Xi T2 904 106 ≤ 9 := hHT2.c _ _
          have w74 : Xi T2 904 108 = Xi T1 904 108 := (show Xi T2 904 108 = Xi T1 904 108 from w51.x _ _ rfl)
          have w75 : 0 ≤ Xi T1 904 108 ∧ Xi T1 904 108 ≤ 2600 := hHT1.c _ _
          have w76 : Xi T2 904 69 = Xi T1 904 69 := (show Xi T2 904 69 = Xi T1 904 69 from w51.x _ _ rfl)
          have w77 : 0 ≤ Xi T1 904 69 ∧ Xi T1 904 69 ≤ 2600 := hHT1.c _ _
          have w78 : Xi T2 904 71 = Xi T1 904 71 := (show Xi T2 904 71 = Xi T1 904 71 from w51.x _ _ rfl)
          have w79 : 0 ≤ Xi T1 904 71 ∧ Xi T1 904 71 ≤ 2600 := hHT1.c _ _
          have w80 : Xi T2 904 72 = Xi T1 904 72 := (show Xi T2 904 72 = Xi T1 904 72 from w51.x _ _ rfl)
          have w81 : 0 ≤ Xi T1 904 72 ∧ Xi T1 904 72 ≤ 2600 := hHT1.c _ _
          have w82 : Xi T2 904 74 = Xi T1 904 74 := (show Xi T2 904 74 = Xi T1 904 74 from w51.x _ _ rfl)
          have w83 : 0 ≤ Xi T1 904 74 ∧ Xi T1 904 74 ≤ 2600 := hHT1.c _ _
          have w84 : Xi T2 904 78 = Xi T1 904 78 := (show Xi T2 904 78 = Xi T1 904 78 from w51.x _ _ rfl)
          have w85 : -2 ≤ Xi T1 904 78 ∧ Xi T1 904 78 ≤ 5010 := hHT1.c _ _
          refine l_callV rfl rfl rfl (t_mo_need hHT2 0 4 (Xi T2 950 (((Xi T1 904 74)).toNat)) ⟨by omega, by omega⟩ ⟨by omega, by omega⟩ ⟨by omega, by omega⟩ _) ?_
          rintro _ T3 ⟨hHT3, w89, rfl, w86, w87⟩
          have hFT3 : FR md_mo_askWay S T3 := FR.tr hFT2 w89 rfl
          show Rl _ _ _ _ _ [] _ _
          refine l_return rfl rfl ?_
          have w90 : 0 ≤ Xi T3 904 106 ∧ Xi T3 904 106 ≤ 9 := hHT3.c _ _
          have w91 : Xi T3 904 108 = Xi T1 904 108 := (show Xi T3 904 108 = Xi T2 904 108 from w89.x _ _ rfl).trans ((show Xi T2 904 108 = Xi T1 904 108 from w51.x _ _ rfl))
          have w92 : 0 ≤ Xi T1 904 108 ∧ Xi T1 904 108 ≤ 2600 := hHT1.c _ _
          have w93 : Xi T3 904 69 = Xi T1 904 69 := (show Xi T3 904 69 = Xi T2 904 69 from w89.x _ _ rfl).trans ((show Xi T2 904 69 = Xi T1 904 69 from w51.x _ _ rfl))
          have w94 : 0 ≤ Xi T1 904 69 ∧ Xi T1 904 69 ≤ 2600 := hHT1.c _ _
          have w95 : Xi T3 904 71 = Xi T1 904 71 := (show Xi T3 904 71 = Xi T2 904 71 from w89.x _ _ rfl).trans ((show Xi T2 904 71 = Xi T1 904 71 from w51.x _ _ rfl))
          have w96 : 0 ≤ Xi T1 904 71 ∧ Xi T1 904 71 ≤ 2600 := hHT1.c _ _
          have w97 : Xi T3 904 72 = Xi T1 904 72 := (show Xi T3 904 72 = Xi T2 904 72 from w89.x _ _ rfl).trans ((show Xi T2 904 72 = Xi T1 904 72 from w51.x _ _ rfl))
          have w98 : 0 ≤ Xi T1 904 72 ∧ Xi T1 904 72 ≤ 2600 := hHT1.c _ _
          have w99 : Xi T3 904 74 = Xi T1 904 74 := (show Xi T3 904 74 = Xi T2 904 74 from w89.x _ _ rfl).trans ((show Xi T2 904 74 = Xi T1 904 74 from w51.x _ _ rfl))
          have w100 : 0 ≤ Xi T1 904 74 ∧ Xi T1 904 74 ≤ 2600 := hHT1.c _ _
          have w101 : Xi T3 904 78 = Xi T1 904 78 := (show Xi T3 904 78 = Xi T2 904 78 from w89.x _ _ rfl).trans ((show Xi T2 904 78 = Xi T1 904 78 from w51.x _ _ rfl))
          have w102 : -2 ≤ Xi T1 904 78 ∧ Xi T1 904 78 ≤ 5010 := hHT1.c _ _
          exact ⟨hHT3, hFT3, rfl, (fun q => ⟨F69 (by omega), by omega, by omega⟩)⟩
        · refine l_aload_n rfl rfl ?_
          refine l_aload_n rfl rfl ?_
          refine l_gfr rfl rfl rfl rfl rfl (hHT2.r 904 20 918 rfl) ?_
          refine l_iload_n rfl rfl ?_
          refine l_iaload (n := 24) rfl rfl (by omega) (by omega) (by unfold rg; omega) ?_
          have w103 : 0 ≤ (Xi T2 918 ((z68).toNat)) ∧ (Xi T2 918 ((z68).toNat)) ≤ 15 := hHT2.c _ _
          refine l_iconst rfl ?_
          have w104 : 0 ≤ Xi T2 904 106 ∧ Xi T2 904 106 ≤ 9 := hHT2.c _ _
          have w105 : Xi T2 904 108 = Xi T1 904 108 := (show Xi T2 904 108 = Xi T1 904 108 from w51.x _ _ rfl)
          have w106 : 0 ≤ Xi T1 904 108 ∧ Xi T1 904 108 ≤ 2600 := hHT1.c _ _
          have w107 : Xi T2 904 69 = Xi T1 904 69 := (show Xi T2 904 69 = Xi T1 904 69 from w51.x _ _ rfl)
          have w108 : 0 ≤ Xi T1 904 69 ∧ Xi T1 904 69 ≤ 2600 := hHT1.c _ _
          have w109 : Xi T2 904 71 = Xi T1 904 71 := (show Xi T2 904 71 = Xi T1 904 71 from w51.x _ _ rfl)
          have w110 : 0 ≤ Xi T1 904 71 ∧ Xi T1 904 71 ≤ 2600 := hHT1.c _ _
          have w111 : Xi T2 904 72 = Xi T1 904 72 := (show Xi T2 904 72 = Xi T1 904 72 from w51.x _ _ rfl)
          have w112 : 0 ≤ Xi T1 904 72 ∧ Xi T1 904 72 ≤ 2600 := hHT1.c _ _
          have w113 : Xi T2 904 74 = Xi T1 904 74 := (show Xi T2 904 74 = Xi T1 904 74 from w51.x _ _ rfl)
          have w114 : 0 ≤ Xi T1 904 74 ∧ Xi T1 904 74 ≤ 2600 := hHT1.c _ _
          have w115 : Xi T2 904 78 = Xi T1 904 78 := (show Xi T2 904 78 = Xi T1 904 78 from w51.x _ _ rfl)
          have w116 : -2 ≤ Xi T1 904 78 ∧ Xi T1 904 78 ≤ 5010 := hHT1.c _ _
          refine l_callV rfl rfl rfl (t_mo_isBelow hHT2 (Xi T2 918 ((z68).toNat)) 1 ⟨by omega, by omega⟩ ⟨by omega, by omega⟩ (by first | assumption | exact (ABV_FR hFT2 rfl (by assumption : ABV S))) _) ?_
          rintro _ _ ⟨rfl, z118, rfl, w118, w117⟩
          show Rl _ _ _ _ _ [iv z118, .ref 904] _ _
          refine l_if_eq rfl rfl (by unfold rg; omega) (fun w119 => ?_) (fun w120 => ?_)
          · refine l_iconst rfl ?_
            refine l_iconst rfl ?_
            refine l_aload_n rfl rfl ?_
            refine l_gfr rfl rfl rfl rfl rfl (hHT2.r 904 67 950 rfl) ?_
            refine l_aload_n rfl rfl ?_
            refine l_gfi rfl rfl rfl rfl rfl ?_
            have w121 : (Xi T2 904 74) = (Xi T1 904 74) := (show Xi T2 904 74 = Xi T1 904 74 from w51.x _ _ rfl)
            rw [w121]
            refine l_iaload (n := 2600) rfl rfl (by omega) (by omega) (by unfold rg; omega) ?_
            have w122 : 0 ≤ (Xi T2 950 (((Xi T1 904 74)).toNat)) ∧ (Xi T2 950 (((Xi T1 904 74)).toNat)) ≤ 5010 := hHT2.c _ _
            have e167 : (Xi T2 950 (((Xi T1 904 74)).toNat)) = Xi S 950 (Xi S 904 74).toNat := by first | rfl | exact (hFT2.cx 950 rfl _).1 | (rw [(hFT2.cx 950 rfl _).1]; exact congrArg (fun t : Int => Xi S 950 t.toNat) (by omega))
            have f167 := hrf (Xi S 904 74) (by omega) (by omega)
            have w123 : 0 ≤ Xi T2 904 106 ∧ Xi T2 904 106 ≤ 9 := hHT2.c _ _
            have w124 : Xi T2 904 108 = Xi T1 904 108 := (show Xi T2 904 108 = Xi T1 904 108 from w51.x _ _ rfl)
            have w125 : 0 ≤ Xi T1 904 108 ∧ Xi T1 904 108 ≤ 2600 := hHT1.c _ _
            have w126 : Xi T2 904 69 = Xi T1 904 69 := (show Xi T2 904 69 = Xi T1 904 69 from w51.x _ _ rfl)
            have w127 : 0 ≤ Xi T1 904 69 ∧ Xi T1 904 69 ≤ 2600 := hHT1.c _ _
            have w128 : Xi T2 904 71 = Xi T1 904 71 := (show Xi T2 904 71 = Xi T1 904 71 from w51.x _ _ rfl)
            have w129 : 0 ≤ Xi T1 904 71 ∧ Xi T1 904 71 ≤ 2600 := hHT1.c _ _
            have w130 : Xi T2 904 72 = Xi T1 904 72 := (show Xi T2 904 72 = Xi T1 904 72 from w51.x _ _ rfl)
            have w131 : 0 ≤ Xi T1 904 72 ∧ Xi T1 904 72 ≤ 2600 := hHT1.c _ _
            have w132 : Xi T2 904 74 = Xi T1 904 74 := (show Xi T2 904 74 = Xi T1 904 74 from w51.x _ _ rfl)
            have w133 : 0 ≤ Xi T1 904 74 ∧ Xi T1 904 74 ≤ 2600 := hHT1.c _ _
            have w134 : Xi T2 904 78 = Xi T1 904 78 := (show Xi T2 904 78 = Xi T1 904 78 from w51.x _ _ rfl)
            have w135 : -2 ≤ Xi T1 904 78 ∧ Xi T1 904 78 ≤ 5010 := hHT1.c _ _
            refine l_callV rfl rfl rfl (t_mo_need hHT2 0 4 (Xi T2 950 (((Xi T1 904 74)).toNat)) ⟨by omega, by omega⟩ ⟨by omega, by omega⟩ ⟨by omega, by omega⟩ _) ?_
            rintro _ T4 ⟨hHT4, w139, rfl, w136, w137⟩
            have hFT4 : FR md_mo_askWay S T4 := FR.tr hFT2 w139 rfl
            show Rl _ _ _ _ _ [] _ _
            refine l_return rfl rfl ?_
            have w140 : 0 ≤ Xi T4 904 106 ∧ Xi T4 904 106 ≤ 9 := hHT4.c _ _
            have w141 : Xi T4 904 108 = Xi T1 904 108 := (show Xi T4 904 108 = Xi T2 904 108 from w139.x _ _ rfl).trans ((show Xi T2 904 108 = Xi T1 904 108 from w51.x _ _ rfl))
            have w142 : 0 ≤ Xi T1 904 108 ∧ Xi T1 904 108 ≤ 2600 := hHT1.c _ _
            have w143 : Xi T4 904 69 = Xi T1 904 69 := (show Xi T4 904 69 = Xi T2 904 69 from w139.x _ _ rfl).trans ((show Xi T2 904 69 = Xi T1 904 69 from w51.x _ _ rfl))
            have w144 : 0 ≤ Xi T1 904 69 ∧ Xi T1 904 69 ≤ 2600 := hHT1.c _ _
            have w145 : Xi T4 904 71 = Xi T1 904 71 := (show Xi T4 904 71 = Xi T2 904 71 from w139.x _ _ rfl).trans ((show Xi T2 904 71 = Xi T1 904 71 from w51.x _ _ rfl))
            have w146 : 0 ≤ Xi T1 904 71 ∧ Xi T1 904 71 ≤ 2600 := hHT1.c _ _
            have w147 : Xi T4 904 72 = Xi T1 904 72 := (show Xi T4 904 72 = Xi T2 904 72 from w139.x _ _ rfl).trans ((show Xi T2 904 72 = Xi T1 904 72 from w51.x _ _ rfl))
            have w148 : 0 ≤ Xi T1 904 72 ∧ Xi T1 904 72 ≤ 2600 := hHT1.c _ _
            have w149 : Xi T4 904 74 = Xi T1 904 74 := (show Xi T4 904 74 = Xi T2 904 74 from w139.x _ _ rfl).trans ((show Xi T2 904 74 = Xi T1 904 74 from w51.x _ _ rfl))
            have w150 : 0 ≤ Xi T1 904 74 ∧ Xi T1 904 74 ≤ 2600 := hHT1.c _ _
            have w151 : Xi T4 904 78 = Xi T1 904 78 := (show Xi T4 904 78 = Xi T2 904 78 from w139.x _ _ rfl).trans ((show Xi T2 904 78 = Xi T1 904 78 from w51.x _ _ rfl))
            have w152 : -2 ≤ Xi T1 904 78 ∧ Xi T1 904 78 ≤ 5010 := hHT1.c _ _
            exact ⟨hHT4, hFT4, rfl, (fun q => ⟨F69 (by omega), by omega, by omega⟩)⟩
          · refine l_iconst rfl ?_
            refine l_goto rfl rfl ?_
            refine l_iconst rfl ?_
            refine l_aload_n rfl rfl ?_
            refine l_gfr rfl rfl rfl rfl rfl (hHT2.r 904 67 950 rfl) ?_
            refine l_aload_n rfl rfl ?_
            refine l_gfi rfl rfl rfl rfl rfl ?_
            have w153 : (Xi T2 904 74) = (Xi T1 904 74) := (show Xi T2 904 74 = Xi T1 904 74 from w51.x _ _ rfl)
            rw [w153]
            refine l_iaload (n := 2600) rfl rfl (by omega) (by omega) (by unfold rg; omega) ?_
            have w154 : 0 ≤ (Xi T2 950 (((Xi T1 904 74)).toNat)) ∧ (Xi T2 950 (((Xi T1 904 74)).toNat)) ≤ 5010 := hHT2.c _ _
            have e167 : (Xi T2 950 (((Xi T1 904 74)).toNat)) = Xi S 950 (Xi S 904 74).toNat := by first | rfl | exact (hFT2.cx 950 rfl _).1 | (rw [(hFT2.cx 950 rfl _).1]; exact congrArg (fun t : Int => Xi S 950 t.toNat) (by omega))
            have f167 := hrf (Xi S 904 74) (by omega) (by omega)
            have w155 : 0 ≤ Xi T2 904 106 ∧ Xi T2 904 106 ≤ 9 := hHT2.c _ _
            have w156 : Xi T2 904 108 = Xi T1 904 108 := (show Xi T2 904 108 = Xi T1 904 108 from w51.x _ _ rfl)
            have w157 : 0 ≤ Xi T1 904 108 ∧ Xi T1 904 108 ≤ 2600 := hHT1.c _ _
            have w158 : Xi T2 904 69 = Xi T1 904 69 := (show Xi T2 904 69 = Xi T1 904 69 from w51.x _ _ rfl)
            have w159 : 0 ≤ Xi T1 904 69 ∧ Xi T1 904 69 ≤ 2600 := hHT1.c _ _
            have w160 : Xi T2 904 71 = Xi T1 904 71 := (show Xi T2 904 71 = Xi T1 904 71 from w51.x _ _ rfl)
            have w161 : 0 ≤ Xi T1 904 71 ∧ Xi T1 904 71 ≤ 2600 := hHT1.c _ _
            have w162 : Xi T2 904 72 = Xi T1 904 72 := (show Xi T2 904 72 = Xi T1 904 72 from w51.x _ _ rfl)
            have w163 : 0 ≤ Xi T1 904 72 ∧ Xi T1 904 72 ≤ 2600 := hHT1.c _ _
            have w164 : Xi T2 904 74 = Xi T1 904 74 := (show Xi T2 904 74 = Xi T1 904 74 from w51.x _ _ rfl)
            have w165 : 0 ≤ Xi T1 904 74 ∧ Xi T1 904 74 ≤ 2600 := hHT1.c _ _
            have w166 : Xi T2 904 78 = Xi T1 904 78 := (show Xi T2 904 78 = Xi T1 904 78 from w51.x _ _ rfl)
            have w167 : -2 ≤ Xi T1 904 78 ∧ Xi T1 904 78 ≤ 5010 := hHT1.c _ _
            refine l_callV rfl rfl rfl (t_mo_need hHT2 1 4 (Xi T2 950 (((Xi T1 904 74)).toNat)) ⟨by omega, by omega⟩ ⟨by omega, by omega⟩ ⟨by omega, by omega⟩ _) ?_
            rintro _ T5 ⟨hHT5, w171, rfl, w168, w169⟩
            have hFT5 : FR md_mo_askWay S T5 := FR.tr hFT2 w171 rfl
            show Rl _ _ _ _ _ [] _ _
            refine l_return rfl rfl ?_
            have w172 : 0 ≤ Xi T5 904 106 ∧ Xi T5 904 106 ≤ 9 := hHT5.c _ _
            have w173 : Xi T5 904 108 = Xi T1 904 108 := (show Xi T5 904 108 = Xi T2 904 108 from w171.x _ _ rfl).trans ((show Xi T2 904 108 = Xi T1 904 108 from w51.x _ _ rfl))
            have w174 : 0 ≤ Xi T1 904 108 ∧ Xi T1 904 108 ≤ 2600 := hHT1.c _ _
            have w175 : Xi T5 904 69 = Xi T1 904 69 := (show Xi T5 904 69 = Xi T2 904 69 from w171.x _ _ rfl).trans ((show Xi T2 904 69 = Xi T1 904 69 from w51.x _ _ rfl))
            have w176 : 0 ≤ Xi T1 904 69 ∧ Xi T1 904 69 ≤ 2600 := hHT1.c _ _
            have w177 : Xi T5 904 71 = Xi T1 904 71 := (show Xi T5 904 71 = Xi T2 904 71 from w171.x _ _ rfl).trans ((show Xi T2 904 71 = Xi T1 904 71 from w51.x _ _ rfl))
            have w178 : 0 ≤ Xi T1 904 71 ∧ Xi T1 904 71 ≤ 2600 := hHT1.c _ _
            have w179 : Xi T5 904 72 = Xi T1 904 72 := (show Xi T5 904 72 = Xi T2 904 72 from w171.x _ _ rfl).trans ((show Xi T2 904 72 = Xi T1 904 72 from w51.x _ _ rfl))
            have w180 : 0 ≤ Xi T1 904 72 ∧ Xi T1 904 72 ≤ 2600 := hHT1.c _ _
            have w181 : Xi T5 904 74 = Xi T1 904 74 := (show Xi T5 904 74 = Xi T2 904 74 from w171.x _ _ rfl).trans ((show Xi T2 904 74 = Xi T1 904 74 from w51.x _ _ rfl))
            have w182 : 0 ≤ Xi T1 904 74 ∧ Xi T1 904 74 ≤ 2600 := hHT1.c _ _
            have w183 : Xi T5 904 78 = Xi T1 904 78 := (show Xi T5 904 78 = Xi T2 904 78 from w171.x _ _ rfl).trans ((show Xi T2 904 78 = Xi T1 904 78 from w51.x _ _ rfl))
            have w184 : -2 ≤ Xi T1 904 78 ∧ Xi T1 904 78 ≤ 5010 := hHT1.c _ _
            exact ⟨hHT5, hFT5, rfl, (fun q => ⟨F69 (by omega), by omega, by omega⟩)⟩
      · refine l_iconst rfl ?_
        refine l_goto rfl rfl ?_
        refine l_iconst rfl ?_
        refine l_aload_n rfl rfl ?_
        refine l_gfr rfl rfl rfl rfl rfl (hHT1.r 904 67 950 rfl) ?_
        refine l_aload_n rfl rfl ?_
        refine l_gfi rfl rfl rfl rfl rfl ?_
        refine l_iaload (n := 2600) rfl rfl (by omega) (by omega) (by unfold rg; omega) ?_
        have w185 : 0 ≤ (Xi T1 950 (((Xi T1 904 78)).toNat)) ∧ (Xi T1 950 (((Xi T1 904 78)).toNat)) ≤ 5010 := hHT1.c _ _
        have e119 : (Xi T1 950 (((Xi T1 904 78)).toNat)) = Xi S 950 (Xi S 904 78).toNat := by first | rfl | exact (hFT1.cx 950 rfl _).1 | (rw [(hFT1.cx 950 rfl _).1]; exact congrArg (fun t : Int => Xi S 950 t.toNat) (by omega))
        have f119 := hrf (Xi S 904 78) (by omega) (by omega)
        have w186 : 0 ≤ Xi T1 904 106 ∧ Xi T1 904 106 ≤ 9 := hHT1.c _ _
        have w187 : 0 ≤ Xi T1 904 108 ∧ Xi T1 904 108 ≤ 2600 := hHT1.c _ _
        have w188 : 0 ≤ Xi T1 904 69 ∧ Xi T1 904 69 ≤ 2600 := hHT1.c _ _
        have w189 : 0 ≤ Xi T1 904 71 ∧ Xi T1 904 71 ≤ 2600 := hHT1.c _ _
        have w190 : 0 ≤ Xi T1 904 72 ∧ Xi T1 904 72 ≤ 2600 := hHT1.c _ _
        have w191 : 0 ≤ Xi T1 904 74 ∧ Xi T1 904 74 ≤ 2600 := hHT1.c _ _
        have w192 : -2 ≤ Xi T1 904 78 ∧ Xi T1 904 78 ≤ 5010 := hHT1.c _ _
        refine l_callV rfl rfl rfl (t_mo_need hHT1 1 4 (Xi T1 950 (((Xi T1 904 78)).toNat)) ⟨by omega, by omega⟩ ⟨by omega, by omega⟩ ⟨by omega, by omega⟩ _) ?_
        rintro _ T6 ⟨hHT6, w196, rfl, w193, w194⟩
        have hFT6 : FR md_mo_askWay S T6 := FR.tr hFT1 w196 rfl
        show Rl _ _ _ _ _ [] _ _
        refine l_aload_n rfl rfl ?_
        refine l_aload_n rfl rfl ?_
        refine l_gfi rfl rfl rfl rfl rfl ?_
        have w197 : (Xi T6 904 74) = (Xi T1 904 74) := (show Xi T6 904 74 = Xi T1 904 74 from w196.x _ _ rfl)
        rw [w197]
        refine l_iconst rfl ?_
        have w198 : 0 ≤ Xi T6 904 106 ∧ Xi T6 904 106 ≤ 9 := hHT6.c _ _
        have w199 : Xi T6 904 108 = Xi T1 904 108 := (show Xi T6 904 108 = Xi T1 904 108 from w196.x _ _ rfl)
        have w200 : 0 ≤ Xi T1 904 108 ∧ Xi T1 904 108 ≤ 2600 := hHT1.c _ _
        have w201 : Xi T6 904 69 = Xi T1 904 69 := (show Xi T6 904 69 = Xi T1 904 69 from w196.x _ _ rfl)
        have w202 : 0 ≤ Xi T1 904 69 ∧ Xi T1 904 69 ≤ 2600 := hHT1.c _ _
        have w203 : Xi T6 904 71 = Xi T1 904 71 := (show Xi T6 904 71 = Xi T1 904 71 from w196.x _ _ rfl)
        have w204 : 0 ≤ Xi T1 904 71 ∧ Xi T1 904 71 ≤ 2600 := hHT1.c _ _
        have w205 : Xi T6 904 72 = Xi T1 904 72 := (show Xi T6 904 72 = Xi T1 904 72 from w196.x _ _ rfl)
        have w206 : 0 ≤ Xi T1 904 72 ∧ Xi T1 904 72 ≤ 2600 := hHT1.c _ _
        have w207 : Xi T6 904 74 = Xi T1 904 74 := (show Xi T6 904 74 = Xi T1 904 74 from w196.x _ _ rfl)
        have w208 : 0 ≤ Xi T1 904 74 ∧ Xi T1 904 74 ≤ 2600 := hHT1.c _ _
        have w209 : Xi T6 904 78 = Xi T1 904 78 := (show Xi T6 904 78 = Xi T1 904 78 from w196.x _ _ rfl)
        have w210 : -2 ≤ Xi T1 904 78 ∧ Xi T1 904 78 ≤ 5010 := hHT1.c _ _
        refine l_callV rfl rfl rfl (t_mo_meansRun__2 hHT6 n (Xi T1 904 74) 4 ⟨by omega, by omega⟩ ⟨by omega, by omega⟩ (by first | assumption | exact (TK_FR hFT6 rfl (by assumption : TK S _))) (by first | assumption | exact (RNV_FR hFT6 rfl (by assumption : RNV S _))) (by first | assumption | omega) (by first | assumption | exact (LXM_FR hFT6 rfl (by assumption : LXM S))) _) ?_
        rintro _ _ ⟨rfl, z213, rfl, w213, w211, w212⟩
        show Rl _ _ _ _ _ [iv z213] _ _
        have x129 : z213 ≠ -1 → z213 < Xi S 904 19 := fun q => by have t := (by assumption : z213 ≠ -1 → z213 < cM T6 4) q; rw [cM4, hFT6.x 904 19 rfl] at t; exact t
        have r129 : z213 = rnR S (Xi S 904 74) 4 := by have t := (by assumption : z213 = rnR T6 _ _).trans (rnR_FR hFT6 rfl rfl); first | exact t | (rw [t]; exact congrArg (fun x : Int => rnR S x 4) (by omega))
        refine l_istore_n rfl rfl rfl ?_
        refine l_aload_n rfl rfl ?_
        refine l_iload_n rfl rfl ?_
        refine l_iconst rfl ?_
        refine l_icmp_eq rfl rfl (by unfold rg; omega) (by unfold rg; omega) (fun w214 => ?_) (fun w215 => ?_)
        · refine l_iconst rfl ?_
          refine l_iconst rfl ?_
          refine l_aload_n rfl rfl ?_
          refine l_gfr rfl rfl rfl rfl rfl (hHT6.r 904 67 950 rfl) ?_
          refine l_aload_n rfl rfl ?_
          refine l_gfi rfl rfl rfl rfl rfl ?_
          have w216 : (Xi T6 904 74) = (Xi T1 904 74) := (show Xi T6 904 74 = Xi T1 904 74 from w196.x _ _ rfl)
          rw [w216]
          refine l_iaload (n := 2600) rfl rfl (by omega) (by omega) (by unfold rg; omega) ?_
          have w217 : 0 ≤ (Xi T6 950 (((Xi T1 904 74)).toNat)) ∧ (Xi T6 950 (((Xi T1 904 74)).toNat)) ≤ 5010 := hHT6.c _ _
          have e167 : (Xi T6 950 (((Xi T1 904 74)).toNat)) = Xi S 950 (Xi S 904 74).toNat := by first | rfl | exact (hFT6.cx 950 rfl _).1 | (rw [(hFT6.cx 950 rfl _).1]; exact congrArg (fun t : Int => Xi S 950 t.toNat) (by omega))
          have f167 := hrf (Xi S 904 74) (by omega) (by omega)
          have w218 : 0 ≤ Xi T6 904 106 ∧ Xi T6 904 106 ≤ 9 := hHT6.c _ _
          have w219 : Xi T6 904 108 = Xi T1 904 108 := (show Xi T6 904 108 = Xi T1 904 108 from w196.x _ _ rfl)
          have w220 : 0 ≤ Xi T1 904 108 ∧ Xi T1 904 108 ≤ 2600 := hHT1.c _ _
          have w221 : Xi T6 904 69 = Xi T1 904 69 := (show Xi T6 904 69 = Xi T1 904 69 from w196.x _ _ rfl)
          have w222 : 0 ≤ Xi T1 904 69 ∧ Xi T1 904 69 ≤ 2600 := hHT1.c _ _
          have w223 : Xi T6 904 71 = Xi T1 904 71 := (show Xi T6 904 71 = Xi T1 904 71 from w196.x _ _ rfl)
          have w224 : 0 ≤ Xi T1 904 71 ∧ Xi T1 904 71 ≤ 2600 := hHT1.c _ _
          have w225 : Xi T6 904 72 = Xi T1 904 72 := (show Xi T6 904 72 = Xi T1 904 72 from w196.x _ _ rfl)
          have w226 : 0 ≤ Xi T1 904 72 ∧ Xi T1 904 72 ≤ 2600 := hHT1.c _ _
          have w227 : Xi T6 904 74 = Xi T1 904 74 := (show Xi T6 904 74 = Xi T1 904 74 from w196.x _ _ rfl)
          have w228 : 0 ≤ Xi T1 904 74 ∧ Xi T1 904 74 ≤ 2600 := hHT1.c _ _
          have w229 : Xi T6 904 78 = Xi T1 904 78 := (show Xi T6 904 78 = Xi T1 904 78 from w196.x _ _ rfl)
          have w230 : -2 ≤ Xi T1 904 78 ∧ Xi T1 904 78 ≤ 5010 := hHT1.c _ _
          refine l_callV rfl rfl rfl (t_mo_need hHT6 0 4 (Xi T6 950 (((Xi T1 904 74)).toNat)) ⟨by omega, by omega⟩ ⟨by omega, by omega⟩ ⟨by omega, by omega⟩ _) ?_
          rintro _ T7 ⟨hHT7, w234, rfl, w231, w232⟩
          have hFT7 : FR md_mo_askWay S T7 := FR.tr hFT6 w234 rfl
          show Rl _ _ _ _ _ [] _ _
          refine l_return rfl rfl ?_
          have w235 : 0 ≤ Xi T7 904 106 ∧ Xi T7 904 106 ≤ 9 := hHT7.c _ _
          have w236 : Xi T7 904 108 = Xi T1 904 108 := (show Xi T7 904 108 = Xi T6 904 108 from w234.x _ _ rfl).trans ((show Xi T6 904 108 = Xi T1 904 108 from w196.x _ _ rfl))
          have w237 : 0 ≤ Xi T1 904 108 ∧ Xi T1 904 108 ≤ 2600 := hHT1.c _ _
          have w238 : Xi T7 904 69 = Xi T1 904 69 := (show Xi T7 904 69 = Xi T6 904 69 from w234.x _ _ rfl).trans ((show Xi T6 904 69 = Xi T1 904 69 from w196.x _ _ rfl))
          have w239 : 0 ≤ Xi T1 904 69 ∧ Xi T1 904 69 ≤ 2600 := hHT1.c _ _
          have w240 : Xi T7 904 71 = Xi T1 904 71 := (show Xi T7 904 71 = Xi T6 904 71 from w234.x _ _ rfl).trans ((show Xi T6 904 71 = Xi T1 904 71 from w196.x _ _ rfl))
          have w241 : 0 ≤ Xi T1 904 71 ∧ Xi T1 904 71 ≤ 2600 := hHT1.c _ _
          have w242 : Xi T7 904 72 = Xi T1 904 72 := (show Xi T7 904 72 = Xi T6 904 72 from w234.x _ _ rfl).trans ((show Xi T6 904 72 = Xi T1 904 72 from w196.x _ _ rfl))
          have w243 : 0 ≤ Xi T1 904 72 ∧ Xi T1 904 72 ≤ 2600 := hHT1.c _ _
          have w244 : Xi T7 904 74 = Xi T1 904 74 := (show Xi T7 904 74 = Xi T6 904 74 from w234.x _ _ rfl).trans ((show Xi T6 904 74 = Xi T1 904 74 from w196.x _ _ rfl))
          have w245 : 0 ≤ Xi T1 904 74 ∧ Xi T1 904 74 ≤ 2600 := hHT1.c _ _
          have w246 : Xi T7 904 78 = Xi T1 904 78 := (show Xi T7 904 78 = Xi T6 904 78 from w234.x _ _ rfl).trans ((show Xi T6 904 78 = Xi T1 904 78 from w196.x _ _ rfl))
          have w247 : -2 ≤ Xi T1 904 78 ∧ Xi T1 904 78 ≤ 5010 := hHT1.c _ _
          exact ⟨hHT7, hFT7, rfl, (fun q => ⟨F69 (by omega), by omega, by omega⟩)⟩
        · refine l_aload_n rfl rfl ?_
          refine l_aload_n rfl rfl ?_
          refine l_gfr rfl rfl rfl rfl rfl (hHT6.r 904 20 918 rfl) ?_
          refine l_iload_n rfl rfl ?_
          refine l_iaload (n := 24) rfl rfl (by omega) (by omega) (by unfold rg; omega) ?_
          have w248 : 0 ≤ (Xi T6 918 ((z213).toNat)) ∧ (Xi T6 918 ((z213).toNat)) ≤ 15 := hHT6.c _ _
          refine l_iconst rfl ?_
          have w249 : 0 ≤ Xi T6 904 106 ∧ Xi T6 904 106 ≤ 9 := hHT6.c _ _
          have w250 : Xi T6 904 108 = Xi T1 904 108 := (show Xi T6 904 108 = Xi T1 904 108 from w196.x _ _ rfl)
          have w251 : 0 ≤ Xi T1 904 108 ∧ Xi T1 904 108 ≤ 2600 := hHT1.c _ _
          have w252 : Xi T6 904 69 = Xi T1 904 69 := (show Xi T6 904 69 = Xi T1 904 69 from w196.x _ _ rfl)
          have w253 : 0 ≤ Xi T1 904 69 ∧ Xi T1 904 69 ≤ 2600 := hHT1.c _ _
          have w254 : Xi T6 904 71 = Xi T1 904 71 := (show Xi T6 904 71 = Xi T1 904 71 from w196.x _ _ rfl)
          have w255 : 0 ≤ Xi T1 904 71 ∧ Xi T1 904 71 ≤ 2600 := hHT1.c _ _
          have w256 : Xi T6 904 72 = Xi T1 904 72 := (show Xi T6 904 72 = Xi T1 904 72 from w196.x _ _ rfl)
          have w257 : 0 ≤ Xi T1 904 72 ∧ Xi T1 904 72 ≤ 2600 := hHT1.c _ _
          have w258 : Xi T6 904 74 = Xi T1 904 74 := (show Xi T6 904 74 = Xi T1 904 74 from w196.x _ _ rfl)
          have w259 : 0 ≤ Xi T1 904 74 ∧ Xi T1 904 74 ≤ 2600 := hHT1.c _ _
          have w260 : Xi T6 904 78 = Xi T1 904 78 := (show Xi T6 904 78 = Xi T1 904 78 from w196.x _ _ rfl)
          have w261 : -2 ≤ Xi T1 904 78 ∧ Xi T1 904 78 ≤ 5010 := hHT1.c _ _
          refine l_callV rfl rfl rfl (t_mo_isBelow hHT6 (Xi T6 918 ((z213).toNat)) 1 ⟨by omega, by omega⟩ ⟨by omega, by omega⟩ (by first | assumption | exact (ABV_FR hFT6 rfl (by assumption : ABV S))) _) ?_
          rintro _ _ ⟨rfl, z263, rfl, w263, w262⟩
          show Rl _ _ _ _ _ [iv z263, .ref 904] _ _
          refine l_if_eq rfl rfl (by unfold rg; omega) (fun w264 => ?_) (fun w265 => ?_)
          · refine l_iconst rfl ?_
            refine l_iconst rfl ?_
            refine l_aload_n rfl rfl ?_
            refine l_gfr rfl rfl rfl rfl rfl (hHT6.r 904 67 950 rfl) ?_
            refine l_aload_n rfl rfl ?_
            refine l_gfi rfl rfl rfl rfl rfl ?_
            have w266 : (Xi T6 904 74) = (Xi T1 904 74) := (show Xi T6 904 74 = Xi T1 904 74 from w196.x _ _ rfl)
            rw [w266]
            refine l_iaload (n := 2600) rfl rfl (by omega) (by omega) (by unfold rg; omega) ?_
            have w267 : 0 ≤ (Xi T6 950 (((Xi T1 904 74)).toNat)) ∧ (Xi T6 950 (((Xi T1 904 74)).toNat)) ≤ 5010 := hHT6.c _ _
            have e167 : (Xi T6 950 (((Xi T1 904 74)).toNat)) = Xi S 950 (Xi S 904 74).toNat := by first | rfl | exact (hFT6.cx 950 rfl _).1 | (rw [(hFT6.cx 950 rfl _).1]; exact congrArg (fun t : Int => Xi S 950 t.toNat) (by omega))
            have f167 := hrf (Xi S 904 74) (by omega) (by omega)
            have w268 : 0 ≤ Xi T6 904 106 ∧ Xi T6 904 106 ≤ 9 := hHT6.c _ _
            have w269 : Xi T6 904 108 = Xi T1 904 108 := (show Xi T6 904 108 = Xi T1 904 108 from w196.x _ _ rfl)
            have w270 : 0 ≤ Xi T1 904 108 ∧ Xi T1 904 108 ≤ 2600 := hHT1.c _ _
            have w271 : Xi T6 904 69 = Xi T1 904 69 := (show Xi T6 904 69 = Xi T1 904 69 from w196.x _ _ rfl)
            have w272 : 0 ≤ Xi T1 904 69 ∧ Xi T1 904 69 ≤ 2600 := hHT1.c _ _
            have w273 : Xi T6 904 71 = Xi T1 904 71 := (show Xi T6 904 71 = Xi T1 904 71 from w196.x _ _ rfl)
            have w274 : 0 ≤ Xi T1 904 71 ∧ Xi T1 904 71 ≤ 2600 := hHT1.c _ _
            have w275 : Xi T6 904 72 = Xi T1 904 72 := (show Xi T6 904 72 = Xi T1 904 72 from w196.x _ _ rfl)
            have w276 : 0 ≤ Xi T1 904 72 ∧ Xi T1 904 72 ≤ 2600 := hHT1.c _ _
            have w277 : Xi T6 904 74 = Xi T1 904 74 := (show Xi T6 904 74 = Xi T1 904 74 from w196.x _ _ rfl)
            have w278 : 0 ≤ Xi T1 904 74 ∧ Xi T1 904 74 ≤ 2600 := hHT1.c _ _
            have w279 : Xi T6 904 78 = Xi T1 904 78 := (show Xi T6 904 78 = Xi T1 904 78 from w196.x _ _ rfl)
            have w280 : -2 ≤ Xi T1 904 78 ∧ Xi T1 904 78 ≤ 5010 := hHT1.c _ _
            refine l_callV rfl rfl rfl (t_mo_need hHT6 0 4 (Xi T6 950 (((Xi T1 904 74)).toNat)) ⟨by omega, by omega⟩ ⟨by omega, by omega⟩ ⟨by omega, by omega⟩ _) ?_
            rintro _ T8 ⟨hHT8, w284, rfl, w281, w282⟩
            have hFT8 : FR md_mo_askWay S T8 := FR.tr hFT6 w284 rfl
            show Rl _ _ _ _ _ [] _ _
            refine l_return rfl rfl ?_
            have w285 : 0 ≤ Xi T8 904 106 ∧ Xi T8 904 106 ≤ 9 := hHT8.c _ _
            have w286 : Xi T8 904 108 = Xi T1 904 108 := (show Xi T8 904 108 = Xi T6 904 108 from w284.x _ _ rfl).trans ((show Xi T6 904 108 = Xi T1 904 108 from w196.x _ _ rfl))
            have w287 : 0 ≤ Xi T1 904 108 ∧ Xi T1 904 108 ≤ 2600 := hHT1.c _ _
            have w288 : Xi T8 904 69 = Xi T1 904 69 := (show Xi T8 904 69 = Xi T6 904 69 from w284.x _ _ rfl).trans ((show Xi T6 904 69 = Xi T1 904 69 from w196.x _ _ rfl))
            have w289 : 0 ≤ Xi T1 904 69 ∧ Xi T1 904 69 ≤ 2600 := hHT1.c _ _
            have w290 : Xi T8 904 71 = Xi T1 904 71 := (show Xi T8 904 71 = Xi T6 904 71 from w284.x _ _ rfl).trans ((show Xi T6 904 71 = Xi T1 904 71 from w196.x _ _ rfl))
            have w291 : 0 ≤ Xi T1 904 71 ∧ Xi T1 904 71 ≤ 2600 := hHT1.c _ _
            have w292 : Xi T8 904 72 = Xi T1 904 72 := (show Xi T8 904 72 = Xi T6 904 72 from w284.x _ _ rfl).trans ((show Xi T6 904 72 = Xi T1 904 72 from w196.x _ _ rfl))
            have w293 : 0 ≤ Xi T1 904 72 ∧ Xi T1 904 72 ≤ 2600 := hHT1.c _ _
            have w294 : Xi T8 904 74 = Xi T1 904 74 := (show Xi T8 904 74 = Xi T6 904 74 from w284.x _ _ rfl).trans ((show Xi T6 904 74 = Xi T1 904 74 from w196.x _ _ rfl))
            have w295 : 0 ≤ Xi T1 904 74 ∧ Xi T1 904 74 ≤ 2600 := hHT1.c _ _
            have w296 : Xi T8 904 78 = Xi T1 904 78 := (show Xi T8 904 78 = Xi T6 904 78 from w284.x _ _ rfl).trans ((show Xi T6 904 78 = Xi T1 904 78 from w196.x _ _ rfl))
            have w297 : -2 ≤ Xi T1 904 78 ∧ Xi T1 904 78 ≤ 5010 := hHT1.c _ _
            exact ⟨hHT8, hFT8, rfl, (fun q => ⟨F69 (by omega), by omega, by omega⟩)⟩
          · refine l_iconst rfl ?_
            refine l_goto rfl rfl ?_
            refine l_iconst rfl ?_
            refine l_aload_n rfl rfl ?_
            refine l_gfr rfl rfl rfl rfl rfl (hHT6.r 904 67 950 rfl) ?_
            refine l_aload_n rfl rfl ?_
            refine l_gfi rfl rfl rfl rfl rfl ?_
            have w298 : (Xi T6 904 74) = (Xi T1 904 74) := (show Xi T6 904 74 = Xi T1 904 74 from w196.x _ _ rfl)
            rw [w298]
            refine l_iaload (n := 2600) rfl rfl (by omega) (by omega) (by unfold rg; omega) ?_
            have w299 : 0 ≤ (Xi T6 950 (((Xi T1 904 74)).toNat)) ∧ (Xi T6 950 (((Xi T1 904 74)).toNat)) ≤ 5010 := hHT6.c _ _
            have e167 : (Xi T6 950 (((Xi T1 904 74)).toNat)) = Xi S 950 (Xi S 904 74).toNat := by first | rfl | exact (hFT6.cx 950 rfl _).1 | (rw [(hFT6.cx 950 rfl _).1]; exact congrArg (fun t : Int => Xi S 950 t.toNat) (by omega))
            have f167 := hrf (Xi S 904 74) (by omega) (by omega)
            have w300 : 0 ≤ Xi T6 904 106 ∧ Xi T6 904 106 ≤ 9 := hHT6.c _ _
            have w301 : Xi T6 904 108 = Xi T1 904 108 := (show Xi T6 904 108 = Xi T1 904 108 from w196.x _ _ rfl)
            have w302 : 0 ≤ Xi T1 904 108 ∧ Xi T1 904 108 ≤ 2600 := hHT1.c _ _
            have w303 : Xi T6 904 69 = Xi T1 904 69 := (show Xi T6 904 69 = Xi T1 904 69 from w196.x _ _ rfl)
            have w304 : 0 ≤ Xi T1 904 69 ∧ Xi T1 904 69 ≤ 2600 := hHT1.c _ _
            have w305 : Xi T6 904 71 = Xi T1 904 71 := (show Xi T6 904 71 = Xi T1 904 71 from w196.x _ _ rfl)
            have w306 : 0 ≤ Xi T1 904 71 ∧ Xi T1 904 71 ≤ 2600 := hHT1.c _ _
            have w307 : Xi T6 904 72 = Xi T1 904 72 := (show Xi T6 904 72 = Xi T1 904 72 from w196.x _ _ rfl)
            have w308 : 0 ≤ Xi T1 904 72 ∧ Xi T1 904 72 ≤ 2600 := hHT1.c _ _
            have w309 : Xi T6 904 74 = Xi T1 904 74 := (show Xi T6 904 74 = Xi T1 904 74 from w196.x _ _ rfl)
            have w310 : 0 ≤ Xi T1 904 74 ∧ Xi T1 904 74 ≤ 2600 := hHT1.c _ _
            have w311 : Xi T6 904 78 = Xi T1 904 78 := (show Xi T6 904 78 = Xi T1 904 78 from w196.x _ _ rfl)
            have w312 : -2 ≤ Xi T1 904 78 ∧ Xi T1 904 78 ≤ 5010 := hHT1.c _ _
            refine l_callV rfl rfl rfl (t_mo_need hHT6 1 4 (Xi T6 950 (((Xi T1 904 74)).toNat)) ⟨by omega, by omega⟩ ⟨by omega, by omega⟩ ⟨by omega, by omega⟩ _) ?_
            rintro _ T9 ⟨hHT9, w316, rfl, w313, w314⟩
            have hFT9 : FR md_mo_askWay S T9 := FR.tr hFT6 w316 rfl
            show Rl _ _ _ _ _ [] _ _
            refine l_return rfl rfl ?_
            have w317 : 0 ≤ Xi T9 904 106 ∧ Xi T9 904 106 ≤ 9 := hHT9.c _ _
            have w318 : Xi T9 904 108 = Xi T1 904 108 := (show Xi T9 904 108 = Xi T6 904 108 from w316.x _ _ rfl).trans ((show Xi T6 904 108 = Xi T1 904 108 from w196.x _ _ rfl))
            have w319 : 0 ≤ Xi T1 904 108 ∧ Xi T1 904 108 ≤ 2600 := hHT1.c _ _
            have w320 : Xi T9 904 69 = Xi T1 904 69 := (show Xi T9 904 69 = Xi T6 904 69 from w316.x _ _ rfl).trans ((show Xi T6 904 69 = Xi T1 904 69 from w196.x _ _ rfl))
            have w321 : 0 ≤ Xi T1 904 69 ∧ Xi T1 904 69 ≤ 2600 := hHT1.c _ _
            have w322 : Xi T9 904 71 = Xi T1 904 71 := (show Xi T9 904 71 = Xi T6 904 71 from w316.x _ _ rfl).trans ((show Xi T6 904 71 = Xi T1 904 71 from w196.x _ _ rfl))
            have w323 : 0 ≤ Xi T1 904 71 ∧ Xi T1 904 71 ≤ 2600 := hHT1.c _ _
            have w324 : Xi T9 904 72 = Xi T1 904 72 := (show Xi T9 904 72 = Xi T6 904 72 from w316.x _ _ rfl).trans ((show Xi T6 904 72 = Xi T1 904 72 from w196.x _ _ rfl))
            have w325 : 0 ≤ Xi T1 904 72 ∧ Xi T1 904 72 ≤ 2600 := hHT1.c _ _
            have w326 : Xi T9 904 74 = Xi T1 904 74 := (show Xi T9 904 74 = Xi T6 904 74 from w316.x _ _ rfl).trans ((show Xi T6 904 74 = Xi T1 904 74 from w196.x _ _ rfl))
            have w327 : 0 ≤ Xi T1 904 74 ∧ Xi T1 904 74 ≤ 2600 := hHT1.c _ _
            have w328 : Xi T9 904 78 = Xi T1 904 78 := (show Xi T9 904 78 = Xi T6 904 78 from w316.x _ _ rfl).trans ((show Xi T6 904 78 = Xi T1 904 78 from w196.x _ _ rfl))
            have w329 : -2 ≤ Xi T1 904 78 ∧ Xi T1 904 78 ≤ 5010 := hHT1.c _ _
            exact ⟨hHT9, hFT9, rfl, (fun q => ⟨F69 (by omega), by omega, by omega⟩)⟩
    · refine l_aload_n rfl rfl ?_
      refine l_iconst rfl ?_
      refine l_aload_n rfl rfl ?_
      refine l_gfr rfl rfl rfl rfl rfl (hHT1.r 904 67 950 rfl) ?_
      refine l_iload_n rfl rfl ?_
      refine l_iconst rfl ?_
      refine l_iadd rfl ?_
      refine l_iaload (n := 2600) rfl rfl (by omega) (by omega) (by unfold rg; omega) ?_
      have w330 : 0 ≤ (Xi T1 950 (((v1 + 1)).toNat)) ∧ (Xi T1 950 (((v1 + 1)).toNat)) ≤ 5010 := hHT1.c _ _
      have e86 : (Xi T1 950 (((v1 + 1)).toNat)) = Xi S 950 (Xi S 904 71 + 1).toNat := by first | rfl | exact (hFT1.cx 950 rfl _).1 | (rw [(hFT1.cx 950 rfl _).1]; exact congrArg (fun t : Int => Xi S 950 t.toNat) (by omega))
      have f86 := hrf (Xi S 904 71 + 1) (by omega) (by omega)
      have w331 : 0 ≤ Xi T1 904 106 ∧ Xi T1 904 106 ≤ 9 := hHT1.c _ _
      have w332 : 0 ≤ Xi T1 904 108 ∧ Xi T1 904 108 ≤ 2600 := hHT1.c _ _
      have w333 : 0 ≤ Xi T1 904 69 ∧ Xi T1 904 69 ≤ 2600 := hHT1.c _ _
      have w334 : 0 ≤ Xi T1 904 71 ∧ Xi T1 904 71 ≤ 2600 := hHT1.c _ _
      have w335 : 0 ≤ Xi T1 904 72 ∧ Xi T1 904 72 ≤ 2600 := hHT1.c _ _
      have w336 : 0 ≤ Xi T1 904 74 ∧ Xi T1 904 74 ≤ 2600 := hHT1.c _ _
      have w337 : -2 ≤ Xi T1 904 78 ∧ Xi T1 904 78 ≤ 5010 := hHT1.c _ _
      refine l_callV rfl rfl rfl (t_mo_note hHT1 4 (Xi T1 950 (((v1 + 1)).toNat)) ⟨by omega, by omega⟩ ⟨by omega, by omega⟩ _) ?_
      rintro _ T10 ⟨hHT10, w340, rfl, w338⟩
      have hFT10 : FR md_mo_askWay S T10 := FR.tr hFT1 w340 rfl
      show Rl _ _ _ _ _ [] _ _
      refine l_aload_n rfl rfl ?_
      refine l_aload_n rfl rfl ?_
      refine l_aload_n rfl rfl ?_
      refine l_gfi rfl rfl rfl rfl rfl ?_
      have w341 : (Xi T10 904 78) = (Xi T1 904 78) := (show Xi T10 904 78 = Xi T1 904 78 from w340.x _ _ rfl)
      rw [w341]
      refine l_bipush rfl rfl ?_
      have w342 : 0 ≤ Xi T10 904 106 ∧ Xi T10 904 106 ≤ 9 := hHT10.c _ _
      have w343 : Xi T10 904 108 = Xi T1 904 108 := (show Xi T10 904 108 = Xi T1 904 108 from w340.x _ _ rfl)
      have w344 : 0 ≤ Xi T1 904 108 ∧ Xi T1 904 108 ≤ 2600 := hHT1.c _ _
      have w345 : Xi T10 904 69 = Xi T1 904 69 := (show Xi T10 904 69 = Xi T1 904 69 from w340.x _ _ rfl)
      have w346 : 0 ≤ Xi T1 904 69 ∧ Xi T1 904 69 ≤ 2600 := hHT1.c _ _
      have w347 : Xi T10 904 71 = Xi T1 904 71 := (show Xi T10 904 71 = Xi T1 904 71 from w340.x _ _ rfl)
      have w348 : 0 ≤ Xi T1 904 71 ∧ Xi T1 904 71 ≤ 2600 := hHT1.c _ _
      have w349 : Xi T10 904 72 = Xi T1 904 72 := (show Xi T10 904 72 = Xi T1 904 72 from w340.x _ _ rfl)
      have w350 : 0 ≤ Xi T1 904 72 ∧ Xi T1 904 72 ≤ 2600 := hHT1.c _ _
      have w351 : Xi T10 904 74 = Xi T1 904 74 := (show Xi T10 904 74 = Xi T1 904 74 from w340.x _ _ rfl)
      have w352 : 0 ≤ Xi T1 904 74 ∧ Xi T1 904 74 ≤ 2600 := hHT1.c _ _
      have w353 : Xi T10 904 78 = Xi T1 904 78 := (show Xi T10 904 78 = Xi T1 904 78 from w340.x _ _ rfl)
      have w354 : -2 ≤ Xi T1 904 78 ∧ Xi T1 904 78 ≤ 5010 := hHT1.c _ _
      refine l_callV rfl rfl rfl (t_mo_meansRun__2 hHT10 n (Xi T1 904 78) 12 ⟨by omega, by omega⟩ ⟨by omega, by omega⟩ (by first | assumption | exact (TK_FR hFT10 rfl (by assumption : TK S _))) (by first | assumption | exact (RNV_FR hFT10 rfl (by assumption : RNV S _))) (by first | assumption | omega) (by first | assumption | exact (LXM_FR hFT10 rfl (by assumption : LXM S))) _) ?_
      rintro _ _ ⟨rfl, z357, rfl, w357, w355, w356⟩
      show Rl _ _ _ _ _ [iv z357, .ref 904] _ _
      have r98 : z357 = rnR S (Xi S 904 78) 12 := by have t := (by assumption : z357 = rnR T10 _ _).trans (rnR_FR hFT10 rfl rfl); first | exact t | (rw [t]; exact congrArg (fun x : Int => rnR S x 12) (by omega))
      refine l_iconst rfl ?_
      refine l_icmp_eq rfl rfl (by unfold rg; omega) (by unfold rg; omega) (fun w358 => ?_) (fun w359 => ?_)
      · refine l_iconst rfl ?_
        refine l_iconst rfl ?_
        refine l_aload_n rfl rfl ?_
        refine l_gfr rfl rfl rfl rfl rfl (hHT10.r 904 67 950 rfl) ?_
        refine l_aload_n rfl rfl ?_
        refine l_gfi rfl rfl rfl rfl rfl ?_
        have w360 : (Xi T10 904 78) = (Xi T1 904 78) := (show Xi T10 904 78 = Xi T1 904 78 from w340.x _ _ rfl)
        rw [w360]
        refine l_iaload (n := 2600) rfl rfl (by omega) (by omega) (by unfold rg; omega) ?_
        have w361 : 0 ≤ (Xi T10 950 (((Xi T1 904 78)).toNat)) ∧ (Xi T10 950 (((Xi T1 904 78)).toNat)) ≤ 5010 := hHT10.c _ _
        have e119 : (Xi T10 950 (((Xi T1 904 78)).toNat)) = Xi S 950 (Xi S 904 78).toNat := by first | rfl | exact (hFT10.cx 950 rfl _).1 | (rw [(hFT10.cx 950 rfl _).1]; exact congrArg (fun t : Int => Xi S 950 t.toNat) (by omega))
        have f119 := hrf (Xi S 904 78) (by omega) (by omega)
        have w362 : 0 ≤ Xi T10 904 106 ∧ Xi T10 904 106 ≤ 9 := hHT10.c _ _
        have w363 : Xi T10 904 108 = Xi T1 904 108 := (show Xi T10 904 108 = Xi T1 904 108 from w340.x _ _ rfl)
        have w364 : 0 ≤ Xi T1 904 108 ∧ Xi T1 904 108 ≤ 2600 := hHT1.c _ _
        have w365 : Xi T10 904 69 = Xi T1 904 69 := (show Xi T10 904 69 = Xi T1 904 69 from w340.x _ _ rfl)
        have w366 : 0 ≤ Xi T1 904 69 ∧ Xi T1 904 69 ≤ 2600 := hHT1.c _ _
        have w367 : Xi T10 904 71 = Xi T1 904 71 := (show Xi T10 904 71 = Xi T1 904 71 from w340.x _ _ rfl)
        have w368 : 0 ≤ Xi T1 904 71 ∧ Xi T1 904 71 ≤ 2600 := hHT1.c _ _
        have w369 : Xi T10 904 72 = Xi T1 904 72 := (show Xi T10 904 72 = Xi T1 904 72 from w340.x _ _ rfl)
        have w370 : 0 ≤ Xi T1 904 72 ∧ Xi T1 904 72 ≤ 2600 := hHT1.c _ _
        have w371 : Xi T10 904 74 = Xi T1 904 74 := (show Xi T10 904 74 = Xi T1 904 74 from w340.x _ _ rfl)
        have w372 : 0 ≤ Xi T1 904 74 ∧ Xi T1 904 74 ≤ 2600 := hHT1.c _ _
        have w373 : Xi T10 904 78 = Xi T1 904 78 := (show Xi T10 904 78 = Xi T1 904 78 from w340.x _ _ rfl)
        have w374 : -2 ≤ Xi T1 904 78 ∧ Xi T1 904 78 ≤ 5010 := hHT1.c _ _
        refine l_callV rfl rfl rfl (t_mo_need hHT10 0 4 (Xi T10 950 (((Xi T1 904 78)).toNat)) ⟨by omega, by omega⟩ ⟨by omega, by omega⟩ ⟨by omega, by omega⟩ _) ?_
        rintro _ T11 ⟨hHT11, w378, rfl, w375, w376⟩
        have hFT11 : FR md_mo_askWay S T11 := FR.tr hFT10 w378 rfl
        show Rl _ _ _ _ _ [] _ _
        refine l_aload_n rfl rfl ?_
        refine l_aload_n rfl rfl ?_
        refine l_gfi rfl rfl rfl rfl rfl ?_
        have w379 : (Xi T11 904 74) = (Xi T1 904 74) := (show Xi T11 904 74 = Xi T10 904 74 from w378.x _ _ rfl).trans ((show Xi T10 904 74 = Xi T1 904 74 from w340.x _ _ rfl))
        rw [w379]
        refine l_iconst rfl ?_
        have w380 : 0 ≤ Xi T11 904 106 ∧ Xi T11 904 106 ≤ 9 := hHT11.c _ _
        have w381 : Xi T11 904 108 = Xi T1 904 108 := (show Xi T11 904 108 = Xi T10 904 108 from w378.x _ _ rfl).trans ((show Xi T10 904 108 = Xi T1 904 108 from w340.x _ _ rfl))
        have w382 : 0 ≤ Xi T1 904 108 ∧ Xi T1 904 108 ≤ 2600 := hHT1.c _ _
        have w383 : Xi T11 904 69 = Xi T1 904 69 := (show Xi T11 904 69 = Xi T10 904 69 from w378.x _ _ rfl).trans ((show Xi T10 904 69 = Xi T1 904 69 from w340.x _ _ rfl))
        have w384 : 0 ≤ Xi T1 904 69 ∧ Xi T1 904 69 ≤ 2600 := hHT1.c _ _
        have w385 : Xi T11 904 71 = Xi T1 904 71 := (show Xi T11 904 71 = Xi T10 904 71 from w378.x _ _ rfl).trans ((show Xi T10 904 71 = Xi T1 904 71 from w340.x _ _ rfl))
        have w386 : 0 ≤ Xi T1 904 71 ∧ Xi T1 904 71 ≤ 2600 := hHT1.c _ _
        have w387 : Xi T11 904 72 = Xi T1 904 72 := (show Xi T11 904 72 = Xi T10 904 72 from w378.x _ _ rfl).trans ((show Xi T10 904 72 = Xi T1 904 72 from w340.x _ _ rfl))
        have w388 : 0 ≤ Xi T1 904 72 ∧ Xi T1 904 72 ≤ 2600 := hHT1.c _ _
        have w389 : Xi T11 904 74 = Xi T1 904 74 := (show Xi T11 904 74 = Xi T10 904 74 from w378.x _ _ rfl).trans ((show Xi T10 904 74 = Xi T1 904 74 from w340.x _ _ rfl))
        have w390 : 0 ≤ Xi T1 904 74 ∧ Xi T1 904 74 ≤ 2600 := hHT1.c _ _
        have w391 : Xi T11 904 78 = Xi T1 904 78 := (show Xi T11 904 78 = Xi T10 904 78 from w378.x _ _ rfl).trans ((show Xi T10 904 78 = Xi T1 904 78 from w340.x _ _ rfl))
        have w392 : -2 ≤ Xi T1 904 78 ∧ Xi T1 904 78 ≤ 5010 := hHT1.c _ _
        refine l_callV rfl rfl rfl (t_mo_meansRun__2 hHT11 n (Xi T1 904 74) 4 ⟨by omega, by omega⟩ ⟨by omega, by omega⟩ (by first | assumption | exact (TK_FR hFT11 rfl (by assumption : TK S _))) (by first | assumption | exact (RNV_FR hFT11 rfl (by assumption : RNV S _))) (by first | assumption | omega) (by first | assumption | exact (LXM_FR hFT11 rfl (by assumption : LXM S))) _) ?_
        rintro _ _ ⟨rfl, z395, rfl, w395, w393, w394⟩
        show Rl _ _ _ _ _ [iv z395] _ _
        have x129 : z395 ≠ -1 → z395 < Xi S 904 19 := fun q => by have t := (by assumption : z395 ≠ -1 → z395 < cM T11 4) q; rw [cM4, hFT11.x 904 19 rfl] at t; exact t
        have r129 : z395 = rnR S (Xi S 904 74) 4 := by have t := (by assumption : z395 = rnR T11 _ _).trans (rnR_FR hFT11 rfl rfl); first | exact t | (rw [t]; exact congrArg (fun x : Int => rnR S x 4) (by omega))
        refine l_istore_n rfl rfl rfl ?_
        refine l_aload_n rfl rfl ?_
        refine l_iload_n rfl rfl ?_
        refine l_iconst rfl ?_
        refine l_icmp_eq rfl rfl (by unfold rg; omega) (by unfold rg; omega) (fun w396 => ?_) (fun w397 => ?_)
        · refine l_iconst rfl ?_
          refine l_iconst rfl ?_
          refine l_aload_n rfl rfl ?_
          refine l_gfr rfl rfl rfl rfl rfl (hHT11.r 904 67 950 rfl) ?_
          refine l_aload_n rfl rfl ?_
          refine l_gfi rfl rfl rfl rfl rfl ?_
          have w398 : (Xi T11 904 74) = (Xi T1 904 74) := (show Xi T11 904 74 = Xi T10 904 74 from w378.x _ _ rfl).trans ((show Xi T10 904 74 = Xi T1 904 74 from w340.x _ _ rfl))
          rw [w398]
          refine l_iaload (n := 2600) rfl rfl (by omega) (by omega) (by unfold rg; omega) ?_
          have w399 : 0 ≤ (Xi T11 950 (((Xi T1 904 74)).toNat)) ∧ (Xi T11 950 (((Xi T1 904 74)).toNat)) ≤ 5010 := hHT11.c _ _
          have e167 : (Xi T11 950 (((Xi T1 904 74)).toNat)) = Xi S 950 (Xi S 904 74).toNat := by first | rfl | exact (hFT11.cx 950 rfl _).1 | (rw [(hFT11.cx 950 rfl _).1]; exact congrArg (fun t : Int => Xi S 950 t.toNat) (by omega))
          have f167 := hrf (Xi S 904 74) (by omega) (by omega)
          have w400 : 0 ≤ Xi T11 904 106 ∧ Xi T11 904 106 ≤ 9 := hHT11.c _ _
          have w401 : Xi T11 904 108 = Xi T1 904 108 := (show Xi T11 904 108 = Xi T10 904 108 from w378.x _ _ rfl).trans ((show Xi T10 904 108 = Xi T1 904 108 from w340.x _ _ rfl))
          have w402 : 0 ≤ Xi T1 904 108 ∧ Xi T1 904 108 ≤ 2600 := hHT1.c _ _
          have w403 : Xi T11 904 69 = Xi T1 904 69 := (show Xi T11 904 69 = Xi T10 904 69 from w378.x _ _ rfl).trans ((show Xi T10 904 69 = Xi T1 904 69 from w340.x _ _ rfl))
          have w404 : 0 ≤ Xi T1 904 69 ∧ Xi T1 904 69 ≤ 2600 := hHT1.c _ _
          have w405 : Xi T11 904 71 = Xi T1 904 71 := (show Xi T11 904 71 = Xi T10 904 71 from w378.x _ _ rfl).trans ((show Xi T10 904 71 = Xi T1 904 71 from w340.x _ _ rfl))
          have w406 : 0 ≤ Xi T1 904 71 ∧ Xi T1 904 71 ≤ 2600 := hHT1.c _ _
          have w407 : Xi T11 904 72 = Xi T1 904 72 := (show Xi T11 904 72 = Xi T10 904 72 from w378.x _ _ rfl).trans ((show Xi T10 904 72 = Xi T1 904 72 from w340.x _ _ rfl))
          have w408 : 0 ≤ Xi T1 904 72 ∧ Xi T1 904 72 ≤ 2600 := hHT1.c _ _
          have w409 : Xi T11 904 74 = Xi T1 904 74 := (show Xi T11 904 74 = Xi T10 904 74 from w378.x _ _ rfl).trans ((show Xi T10 904 74 = Xi T1 904 74 from w340.x _ _ rfl))
          have w410 : 0 ≤ Xi T1 904 74 ∧ Xi T1 904 74 ≤ 2600 := hHT1.c _ _
          have w411 : Xi T11 904 78 = Xi T1 904 78 := (show Xi T11 904 78 = Xi T10 904 78 from w378.x _ _ rfl).trans ((show Xi T10 904 78 = Xi T1 904 78 from w340.x _ _ rfl))
          have w412 : -2 ≤ Xi T1 904 78 ∧ Xi T1 904 78 ≤ 5010 := hHT1.c _ _
          refine l_callV rfl rfl rfl (t_mo_need hHT11 0 4 (Xi T11 950 (((Xi T1 904 74)).toNat)) ⟨by omega, by omega⟩ ⟨by omega, by omega⟩ ⟨by omega, by omega⟩ _) ?_
          rintro _ T12 ⟨hHT12, w416, rfl, w413, w414⟩
          have hFT12 : FR md_mo_askWay S T12 := FR.tr hFT11 w416 rfl
          show Rl _ _ _ _ _ [] _ _
          refine l_return rfl rfl ?_
          have w417 : 0 ≤ Xi T12 904 106 ∧ Xi T12 904 106 ≤ 9 := hHT12.c _ _
          have w418 : Xi T12 904 108 = Xi T1 904 108 := (show Xi T12 904 108 = Xi T11 904 108 from w416.x _ _ rfl).trans ( (show Xi T11 904 108 = Xi T10 904 108 from w378.x _ _ rfl).trans ((show Xi T10 904 108 = Xi T1 904 108 from w340.x _ _ rfl)))
          have w419 : 0 ≤ Xi T1 904 108 ∧ Xi T1 904 108 ≤ 2600 := hHT1.c _ _
          have w420 : Xi T12 904 69 = Xi T1 904 69 := (show Xi T12 904 69 = Xi T11 904 69 from w416.x _ _ rfl).trans ( (show Xi T11 904 69 = Xi T10 904 69 from w378.x _ _ rfl).trans ((show Xi T10 904 69 = Xi T1 904 69 from w340.x _ _ rfl)))
          have w421 : 0 ≤ Xi T1 904 69 ∧ Xi T1 904 69 ≤ 2600 := hHT1.c _ _
          have w422 : Xi T12 904 71 = Xi T1 904 71 := (show Xi T12 904 71 = Xi T11 904 71 from w416.x _ _ rfl).trans ( (show Xi T11 904 71 = Xi T10 904 71 from w378.x _ _ rfl).trans ((show Xi T10 904 71 = Xi T1 904 71 from w340.x _ _ rfl)))
          have w423 : 0 ≤ Xi T1 904 71 ∧ Xi T1 904 71 ≤ 2600 := hHT1.c _ _
          have w424 : Xi T12 904 72 = Xi T1 904 72 := (show Xi T12 904 72 = Xi T11 904 72 from w416.x _ _ rfl).trans ( (show Xi T11 904 72 = Xi T10 904 72 from w378.x _ _ rfl).trans ((show Xi T10 904 72 = Xi T1 904 72 from w340.x _ _ rfl)))
          have w425 : 0 ≤ Xi T1 904 72 ∧ Xi T1 904 72 ≤ 2600 := hHT1.c _ _
          have w426 : Xi T12 904 74 = Xi T1 904 74 := (show Xi T12 904 74 = Xi T11 904 74 from w416.x _ _ rfl).trans ( (show Xi T11 904 74 = Xi T10 904 74 from w378.x _ _ rfl).trans ((show Xi T10 904 74 = Xi T1 904 74 from w340.x _ _ rfl)))
          have w427 : 0 ≤ Xi T1 904 74 ∧ Xi T1 904 74 ≤ 2600 := hHT1.c _ _
          have w428 : Xi T12 904 78 = Xi T1 904 78 := (show Xi T12 904 78 = Xi T11 904 78 from w416.x _ _ rfl).trans ( (show Xi T11 904 78 = Xi T10 904 78 from w378.x _ _ rfl).trans ((show Xi T10 904 78 = Xi T1 904 78 from w340.x _ _ rfl)))
          have w429 : -2 ≤ Xi T1 904 78 ∧ Xi T1 904 78 ≤ 5010 := hHT1.c _ _
          exact ⟨hHT12, hFT12, rfl, (fun q => ⟨F69 (by omega), by omega, by omega⟩)⟩
        · refine l_aload_n rfl rfl ?_
          refine l_aload_n rfl rfl ?_
          refine l_gfr rfl rfl rfl rfl rfl (hHT11.r 904 20 918 rfl) ?_
          refine l_iload_n rfl rfl ?_
          refine l_iaload (n := 24) rfl rfl (by omega) (by omega) (by unfold rg; omega) ?_
          have w430 : 0 ≤ (Xi T11 918 ((z395).toNat)) ∧ (Xi T11 918 ((z395).toNat)) ≤ 15 := hHT11.c _ _
          refine l_iconst rfl ?_
          have w431 : 0 ≤ Xi T11 904 106 ∧ Xi T11 904 106 ≤ 9 := hHT11.c _ _
          have w432 : Xi T11 904 108 = Xi T1 904 108 := (show Xi T11 904 108 = Xi T10 904 108 from w378.x _ _ rfl).trans ((show Xi T10 904 108 = Xi T1 904 108 from w340.x _ _ rfl))
          have w433 : 0 ≤ Xi T1 904 108 ∧ Xi T1 904 108 ≤ 2600 := hHT1.c _ _
          have w434 : Xi T11 904 69 = Xi T1 904 69 := (show Xi T11 904 69 = Xi T10 904 69 from w378.x _ _ rfl).trans ((show Xi T10 904 69 = Xi T1 904 69 from w340.x _ _ rfl))
          have w435 : 0 ≤ Xi T1 904 69 ∧ Xi T1 904 69 ≤ 2600 := hHT1.c _ _
          have w436 : Xi T11 904 71 = Xi T1 904 71 := (show Xi T11 904 71 = Xi T10 904 71 from w378.x _ _ rfl).trans ((show Xi T10 904 71 = Xi T1 904 71 from w340.x _ _ rfl))
          have w437 : 0 ≤ Xi T1 904 71 ∧ Xi T1 904 71 ≤ 2600 := hHT1.c _ _
          have w438 : Xi T11 904 72 = Xi T1 904 72 := (show Xi T11 904 72 = Xi T10 904 72 from w378.x _ _ rfl).trans ((show Xi T10 904 72 = Xi T1 904 72 from w340.x _ _ rfl))
          have w439 : 0 ≤ Xi T1 904 72 ∧ Xi T1 904 72 ≤ 2600 := hHT1.c _ _
          have w440 : Xi T11 904 74 = Xi T1 904 74 := (show Xi T11 904 74 = Xi T10 904 74 from w378.x _ _ rfl).trans ((show Xi T10 904 74 = Xi T1 904 74 from w340.x _ _ rfl))
          have w441 : 0 ≤ Xi T1 904 74 ∧ Xi T1 904 74 ≤ 2600 := hHT1.c _ _
          have w442 : Xi T11 904 78 = Xi T1 904 78 := (show Xi T11 904 78 = Xi T10 904 78 from w378.x _ _ rfl).trans ((show Xi T10 904 78 = Xi T1 904 78 from w340.x _ _ rfl))
          have w443 : -2 ≤ Xi T1 904 78 ∧ Xi T1 904 78 ≤ 5010 := hHT1.c _ _
          refine l_callV rfl rfl rfl (t_mo_isBelow hHT11 (Xi T11 918 ((z395).toNat)) 1 ⟨by omega, by omega⟩ ⟨by omega, by omega⟩ (by first | assumption | exact (ABV_FR hFT11 rfl (by assumption : ABV S))) _) ?_
          rintro _ _ ⟨rfl, z445, rfl, w445, w444⟩
          show Rl _ _ _ _ _ [iv z445, .ref 904] _ _
          refine l_if_eq rfl rfl (by unfold rg; omega) (fun w446 => ?_) (fun w447 => ?_)
          · refine l_iconst rfl ?_
            refine l_iconst rfl ?_
            refine l_aload_n rfl rfl ?_
            refine l_gfr rfl rfl rfl rfl rfl (hHT11.r 904 67 950 rfl) ?_
            refine l_aload_n rfl rfl ?_
            refine l_gfi rfl rfl rfl rfl rfl ?_
            have w448 : (Xi T11 904 74) = (Xi T1 904 74) := (show Xi T11 904 74 = Xi T10 904 74 from w378.x _ _ rfl).trans ((show Xi T10 904 74 = Xi T1 904 74 from w340.x _ _ rfl))
            rw [w448]
            refine l_iaload (n := 2600) rfl rfl (by omega) (by omega) (by unfold rg; omega) ?_
            have w449 : 0 ≤ (Xi T11 950 (((Xi T1 904 74)).toNat)) ∧ (Xi T11 950 (((Xi T1 904 74)).toNat)) ≤ 5010 := hHT11.c _ _
            have e167 : (Xi T11 950 (((Xi T1 904 74)).toNat)) = Xi S 950 (Xi S 904 74).toNat := by first | rfl | exact (hFT11.cx 950 rfl _).1 | (rw [(hFT11.cx 950 rfl _).1]; exact congrArg (fun t : Int => Xi S 950 t.toNat) (by omega))
            have f167 := hrf (Xi S 904 74) (by omega) (by omega)
            have w450 : 0 ≤ Xi T11 904 106 ∧ Xi T11 904 106 ≤ 9 := hHT11.c _ _
            have w451 : Xi T11 904 108 = Xi T1 904 108 := (show Xi T11 904 108 = Xi T10 904 108 from w378.x _ _ rfl).trans ((show Xi T10 904 108 = Xi T1 904 108 from w340.x _ _ rfl))
            have w452 : 0 ≤ Xi T1 904 108 ∧ Xi T1 904 108 ≤ 2600 := hHT1.c _ _
            have w453 : Xi T11 904 69 = Xi T1 904 69 := (show Xi T11 904 69 = Xi T10 904 69 from w378.x _ _ rfl).trans ((show Xi T10 904 69 = Xi T1 904 69 from w340.x _ _ rfl))
            have w454 : 0 ≤ Xi T1 904 69 ∧ Xi T1 904 69 ≤ 2600 := hHT1.c _ _
            have w455 : Xi T11 904 71 = Xi T1 904 71 := (show Xi T11 904 71 = Xi T10 904 71 from w378.x _ _ rfl).trans ((show Xi T10 904 71 = Xi T1 904 71 from w340.x _ _ rfl))
            have w456 : 0 ≤ Xi T1 904 71 ∧ Xi T1 904 71 ≤ 2600 := hHT1.c _ _
            have w457 : Xi T11 904 72 = Xi T1 904 72 := (show Xi T11 904 72 = Xi T10 904 72 from w378.x _ _ rfl).trans ((show Xi T10 904 72 = Xi T1 904 72 from w340.x _ _ rfl))
            have w458 : 0 ≤ Xi T1 904 72 ∧ Xi T1 904 72 ≤ 2600 := hHT1.c _ _
            have w459 : Xi T11 904 74 = Xi T1 904 74 := (show Xi T11 904 74 = Xi T10 904 74 from w378.x _ _ rfl).trans ((show Xi T10 904 74 = Xi T1 904 74 from w340.x _ _ rfl))
            have w460 : 0 ≤ Xi T1 904 74 ∧ Xi T1 904 74 ≤ 2600 := hHT1.c _ _
            have w461 : Xi T11 904 78 = Xi T1 904 78 := (show Xi T11 904 78 = Xi T10 904 78 from w378.x _ _ rfl).trans ((show Xi T10 904 78 = Xi T1 904 78 from w340.x _ _ rfl))
            have w462 : -2 ≤ Xi T1 904 78 ∧ Xi T1 904 78 ≤ 5010 := hHT1.c _ _
            refine l_callV rfl rfl rfl (t_mo_need hHT11 0 4 (Xi T11 950 (((Xi T1 904 74)).toNat)) ⟨by omega, by omega⟩ ⟨by omega, by omega⟩ ⟨by omega, by omega⟩ _) ?_
            rintro _ T13 ⟨hHT13, w466, rfl, w463, w464⟩
            have hFT13 : FR md_mo_askWay S T13 := FR.tr hFT11 w466 rfl
            show Rl _ _ _ _ _ [] _ _
            refine l_return rfl rfl ?_
            have w467 : 0 ≤ Xi T13 904 106 ∧ Xi T13 904 106 ≤ 9 := hHT13.c _ _
            have w468 : Xi T13 904 108 = Xi T1 904 108 := (show Xi T13 904 108 = Xi T11 904 108 from w466.x _ _ rfl).trans ( (show Xi T11 904 108 = Xi T10 904 108 from w378.x _ _ rfl).trans ((show Xi T10 904 108 = Xi T1 904 108 from w340.x _ _ rfl)))
            have w469 : 0 ≤ Xi T1 904 108 ∧ Xi T1 904 108 ≤ 2600 := hHT1.c _ _
            have w470 : Xi T13 904 69 = Xi T1 904 69 := (show Xi T13 904 69 = Xi T11 904 69 from w466.x _ _ rfl).trans ( (show Xi T11 904 69 = Xi T10 904 69 from w378.x _ _ rfl).trans ((show Xi T10 904 69 = Xi T1 904 69 from w340.x _ _ rfl)))
            have w471 : 0 ≤ Xi T1 904 69 ∧ Xi T1 904 69 ≤ 2600 := hHT1.c _ _
            have w472 : Xi T13 904 71 = Xi T1 904 71 := (show Xi T13 904 71 = Xi T11 904 71 from w466.x _ _ rfl).trans ( (show Xi T11 904 71 = Xi T10 904 71 from w378.x _ _ rfl).trans ((show Xi T10 904 71 = Xi T1 904 71 from w340.x _ _ rfl)))
            have w473 : 0 ≤ Xi T1 904 71 ∧ Xi T1 904 71 ≤ 2600 := hHT1.c _ _
            have w474 : Xi T13 904 72 = Xi T1 904 72 := (show Xi T13 904 72 = Xi T11 904 72 from w466.x _ _ rfl).trans ( (show Xi T11 904 72 = Xi T10 904 72 from w378.x _ _ rfl).trans ((show Xi T10 904 72 = Xi T1 904 72 from w340.x _ _ rfl)))
            have w475 : 0 ≤ Xi T1 904 72 ∧ Xi T1 904 72 ≤ 2600 := hHT1.c _ _
            have w476 : Xi T13 904 74 = Xi T1 904 74 := (show Xi T13 904 74 = Xi T11 904 74 from w466.x _ _ rfl).trans ( (show Xi T11 904 74 = Xi T10 904 74 from w378.x _ _ rfl).trans ((show Xi T10 904 74 = Xi T1 904 74 from w340.x _ _ rfl)))
            have w477 : 0 ≤ Xi T1 904 74 ∧ Xi T1 904 74 ≤ 2600 := hHT1.c _ _
            have w478 : Xi T13 904 78 = Xi T1 904 78 := (show Xi T13 904 78 = Xi T11 904 78 from w466.x _ _ rfl).trans ( (show Xi T11 904 78 = Xi T10 904 78 from w378.x _ _ rfl).trans ((show Xi T10 904 78 = Xi T1 904 78 from w340.x _ _ rfl)))
            have w479 : -2 ≤ Xi T1 904 78 ∧ Xi T1 904 78 ≤ 5010 := hHT1.c _ _
            exact ⟨hHT13, hFT13, rfl, (fun q => ⟨F69 (by omega), by omega, by omega⟩)⟩
          · refine l_iconst rfl ?_
            refine l_goto rfl rfl ?_
            refine l_iconst rfl ?_
            refine l_aload_n rfl rfl ?_
            refine l_gfr rfl rfl rfl rfl rfl (hHT11.r 904 67 950 rfl) ?_
            refine l_aload_n rfl rfl ?_
            refine l_gfi rfl rfl rfl rfl rfl ?_
            have w480 : (Xi T11 904 74) = (Xi T1 904 74) := (show Xi T11 904 74 = Xi T10 904 74 from w378.x _ _ rfl).trans ((show Xi T10 904 74 = Xi T1 904 74 from w340.x _ _ rfl))
            rw [w480]
            refine l_iaload (n := 2600) rfl rfl (by omega) (by omega) (by unfold rg; omega) ?_
            have w481 : 0 ≤ (Xi T11 950 (((Xi T1 904 74)).toNat)) ∧ (Xi T11 950 (((Xi T1 904 74)).toNat)) ≤ 5010 := hHT11.c _ _
            have e167 : (Xi T11 950 (((Xi T1 904 74)).toNat)) = Xi S 950 (Xi S 904 74).toNat := by first | rfl | exact (hFT11.cx 950 rfl _).1 | (rw [(hFT11.cx 950 rfl _).1]; exact congrArg (fun t : Int => Xi S 950 t.toNat) (by omega))
            have f167 := hrf (Xi S 904 74) (by omega) (by omega)
            have w482 : 0 ≤ Xi T11 904 106 ∧ Xi T11 904 106 ≤ 9 := hHT11.c _ _
            have w483 : Xi T11 904 108 = Xi T1 904 108 := (show Xi T11 904 108 = Xi T10 904 108 from w378.x _ _ rfl).trans ((show Xi T10 904 108 = Xi T1 904 108 from w340.x _ _ rfl))
            have w484 : 0 ≤ Xi T1 904 108 ∧ Xi T1 904 108 ≤ 2600 := hHT1.c _ _
            have w485 : Xi T11 904 69 = Xi T1 904 69 := (show Xi T11 904 69 = Xi T10 904 69 from w378.x _ _ rfl).trans ((show Xi T10 904 69 = Xi T1 904 69 from w340.x _ _ rfl))
            have w486 : 0 ≤ Xi T1 904 69 ∧ Xi T1 904 69 ≤ 2600 := hHT1.c _ _
            have w487 : Xi T11 904 71 = Xi T1 904 71 := (show Xi T11 904 71 = Xi T10 904 71 from w378.x _ _ rfl).trans ((show Xi T10 904 71 = Xi T1 904 71 from w340.x _ _ rfl))
            have w488 : 0 ≤ Xi T1 904 71 ∧ Xi T1 904 71 ≤ 2600 := hHT1.c _ _
            have w489 : Xi T11 904 72 = Xi T1 904 72 := (show Xi T11 904 72 = Xi T10 904 72 from w378.x _ _ rfl).trans ((show Xi T10 904 72 = Xi T1 904 72 from w340.x _ _ rfl))
            have w490 : 0 ≤ Xi T1 904 72 ∧ Xi T1 904 72 ≤ 2600 := hHT1.c _ _
            have w491 : Xi T11 904 74 = Xi T1 904 74 := (show Xi T11 904 74 = Xi T10 904 74 from w378.x _ _ rfl).trans ((show Xi T10 904 74 = Xi T1 904 74 from w340.x _ _ rfl))
            have w492 : 0 ≤ Xi T1 904 74 ∧ Xi T1 904 74 ≤ 2600 := hHT1.c _ _
            have w493 : Xi T11 904 78 = Xi T1 904 78 := (show Xi T11 904 78 = Xi T10 904 78 from w378.x _ _ rfl).trans ((show Xi T10 904 78 = Xi T1 904 78 from w340.x _ _ rfl))
            have w494 : -2 ≤ Xi T1 904 78 ∧ Xi T1 904 78 ≤ 5010 := hHT1.c _ _
            refine l_callV rfl rfl rfl (t_mo_need hHT11 1 4 (Xi T11 950 (((Xi T1 904 74)).toNat)) ⟨by omega, by omega⟩ ⟨by omega, by omega⟩ ⟨by omega, by omega⟩ _) ?_
            rintro _ T14 ⟨hHT14, w498, rfl, w495, w496⟩
            have hFT14 : FR md_mo_askWay S T14 := FR.tr hFT11 w498 rfl
            show Rl _ _ _ _ _ [] _ _
            refine l_return rfl rfl ?_
            have w499 : 0 ≤ Xi T14 904 106 ∧ Xi T14 904 106 ≤ 9 := hHT14.c _ _
            have w500 : Xi T14 904 108 = Xi T1 904 108 := (show Xi T14 904 108 = Xi T11 904 108 from w498.x _ _ rfl).trans ( (show Xi T11 904 108 = Xi T10 904 108 from w378.x _ _ rfl).trans ((show Xi T10 904 108 = Xi T1 904 108 from w340.x _ _ rfl)))
            have w501 : 0 ≤ Xi T1 904 108 ∧ Xi T1 904 108 ≤ 2600 := hHT1.c _ _
            have w502 : Xi T14 904 69 = Xi T1 904 69 := (show Xi T14 904 69 = Xi T11 904 69 from w498.x _ _ rfl).trans ( (show Xi T11 904 69 = Xi T10 904 69 from w378.x _ _ rfl).trans ((show Xi T10 904 69 = Xi T1 904 69 from w340.x _ _ rfl)))
            have w503 : 0 ≤ Xi T1 904 69 ∧ Xi T1 904 69 ≤ 2600 := hHT1.c _ _
            have w504 : Xi T14 904 71 = Xi T1 904 71 := (show Xi T14 904 71 = Xi T11 904 71 from w498.x _ _ rfl).trans ( (show Xi T11 904 71 = Xi T10 904 71 from w378.x _ _ rfl).trans ((show Xi T10 904 71 = Xi T1 904 71 from w340.x _ _ rfl)))
            have w505 : 0 ≤ Xi T1 904 71 ∧ Xi T1 904 71 ≤ 2600 := hHT1.c _ _
            have w506 : Xi T14 904 72 = Xi T1 904 72 := (show Xi T14 904 72 = Xi T11 904 72 from w498.x _ _ rfl).trans ( (show Xi T11 904 72 = Xi T10 904 72 from w378.x _ _ rfl).trans ((show Xi T10 904 72 = Xi T1 904 72 from w340.x _ _ rfl)))
            have w507 : 0 ≤ Xi T1 904 72 ∧ Xi T1 904 72 ≤ 2600 := hHT1.c _ _
            have w508 : Xi T14 904 74 = Xi T1 904 74 := (show Xi T14 904 74 = Xi T11 904 74 from w498.x _ _ rfl).trans ( (show Xi T11 904 74 = Xi T10 904 74 from w378.x _ _ rfl).trans ((show Xi T10 904 74 = Xi T1 904 74 from w340.x _ _ rfl)))
            have w509 : 0 ≤ Xi T1 904 74 ∧ Xi T1 904 74 ≤ 2600 := hHT1.c _ _
            have w510 : Xi T14 904 78 = Xi T1 904 78 := (show Xi T14 904 78 = Xi T11 904 78 from w498.x _ _ rfl).trans ( (show Xi T11 904 78 = Xi T10 904 78 from w378.x _ _ rfl).trans ((show Xi T10 904 78 = Xi T1 904 78 from w340.x _ _ rfl)))
            have w511 : -2 ≤ Xi T1 904 78 ∧ Xi T1 904 78 ≤ 5010 := hHT1.c _ _
            exact ⟨hHT14, hFT14, rfl, (fun q => ⟨F69 (by omega), by omega, by omega⟩)⟩
      · refine l_iconst rfl ?_
        refine l_goto rfl rfl ?_
        refine l_iconst rfl ?_
        refine l_aload_n rfl rfl ?_
        refine l_gfr rfl rfl rfl rfl rfl (hHT10.r 904 67 950 rfl) ?_
        refine l_aload_n rfl rfl ?_
        refine l_gfi rfl rfl rfl rfl rfl ?_
        have w512 : (Xi T10 904 78) = (Xi T1 904 78) := (show Xi T10 904 78 = Xi T1 904 78 from w340.x _ _ rfl)
        rw [w512]
        refine l_iaload (n := 2600) rfl rfl (by omega) (by omega) (by unfold rg; omega) ?_
        have w513 : 0 ≤ (Xi T10 950 (((Xi T1 904 78)).toNat)) ∧ (Xi T10 950 (((Xi T1 904 78)).toNat)) ≤ 5010 := hHT10.c _ _
        have e119 : (Xi T10 950 (((Xi T1 904 78)).toNat)) = Xi S 950 (Xi S 904 78).toNat := by first | rfl | exact (hFT10.cx 950 rfl _).1 | (rw [(hFT10.cx 950 rfl _).1]; exact congrArg (fun t : Int => Xi S 950 t.toNat) (by omega))
        have f119 := hrf (Xi S 904 78) (by omega) (by omega)
        have w514 : 0 ≤ Xi T10 904 106 ∧ Xi T10 904 106 ≤ 9 := hHT10.c _ _
        have w515 : Xi T10 904 108 = Xi T1 904 108 := (show Xi T10 904 108 = Xi T1 904 108 from w340.x _ _ rfl)
        have w516 : 0 ≤ Xi T1 904 108 ∧ Xi T1 904 108 ≤ 2600 := hHT1.c _ _
        have w517 : Xi T10 904 69 = Xi T1 904 69 := (show Xi T10 904 69 = Xi T1 904 69 from w340.x _ _ rfl)
        have w518 : 0 ≤ Xi T1 904 69 ∧ Xi T1 904 69 ≤ 2600 := hHT1.c _ _
        have w519 : Xi T10 904 71 = Xi T1 904 71 := (show Xi T10 904 71 = Xi T1 904 71 from w340.x _ _ rfl)
        have w520 : 0 ≤ Xi T1 904 71 ∧ Xi T1 904 71 ≤ 2600 := hHT1.c _ _
        have w521 : Xi T10 904 72 = Xi T1 904 72 := (show Xi T10 904 72 = Xi T1 904 72 from w340.x _ _ rfl)
        have w522 : 0 ≤ Xi T1 904 72 ∧ Xi T1 904 72 ≤ 2600 := hHT1.c _ _
        have w523 : Xi T10 904 74 = Xi T1 904 74 := (show Xi T10 904 74 = Xi T1 904 74 from w340.x _ _ rfl)
        have w524 : 0 ≤ Xi T1 904 74 ∧ Xi T1 904 74 ≤ 2600 := hHT1.c _ _
        have w525 : Xi T10 904 78 = Xi T1 904 78 := (show Xi T10 904 78 = Xi T1 904 78 from w340.x _ _ rfl)
        have w526 : -2 ≤ Xi T1 904 78 ∧ Xi T1 904 78 ≤ 5010 := hHT1.c _ _
        refine l_callV rfl rfl rfl (t_mo_need hHT10 1 4 (Xi T10 950 (((Xi T1 904 78)).toNat)) ⟨by omega, by omega⟩ ⟨by omega, by omega⟩ ⟨by omega, by omega⟩ _) ?_
        rintro _ T15 ⟨hHT15, w530, rfl, w527, w528⟩
        have hFT15 : FR md_mo_askWay S T15 := FR.tr hFT10 w530 rfl
        show Rl _ _ _ _ _ [] _ _
        refine l_aload_n rfl rfl ?_
        refine l_aload_n rfl rfl ?_
        refine l_gfi rfl rfl rfl rfl rfl ?_
        have w531 : (Xi T15 904 74) = (Xi T1 904 74) := (show Xi T15 904 74 = Xi T10 904 74 from w530.x _ _ rfl).trans ((show Xi T10 904 74 = Xi T1 904 74 from w340.x _ _ rfl))
        rw [w531]
        refine l_iconst rfl ?_
        have w532 : 0 ≤ Xi T15 904 106 ∧ Xi T15 904 106 ≤ 9 := hHT15.c _ _
        have w533 : Xi T15 904 108 = Xi T1 904 108 := (show Xi T15 904 108 = Xi T10 904 108 from w530.x _ _ rfl).trans ((show Xi T10 904 108 = Xi T1 904 108 from w340.x _ _ rfl))
        have w534 : 0 ≤ Xi T1 904 108 ∧ Xi T1 904 108 ≤ 2600 := hHT1.c _ _
        have w535 : Xi T15 904 69 = Xi T1 904 69 := (show Xi T15 904 69 = Xi T10 904 69 from w530.x _ _ rfl).trans ((show Xi T10 904 69 = Xi T1 904 69 from w340.x _ _ rfl))
        have w536 : 0 ≤ Xi T1 904 69 ∧ Xi T1 904 69 ≤ 2600 := hHT1.c _ _
        have w537 : Xi T15 904 71 = Xi T1 904 71 := (show Xi T15 904 71 = Xi T10 904 71 from w530.x _ _ rfl).trans ((show Xi T10 904 71 = Xi T1 904 71 from w340.x _ _ rfl))
        have w538 : 0 ≤ Xi T1 904 71 ∧ Xi T1 904 71 ≤ 2600 := hHT1.c _ _
        have w539 : Xi T15 904 72 = Xi T1 904 72 := (show Xi T15 904 72 = Xi T10 904 72 from w530.x _ _ rfl).trans ((show Xi T10 904 72 = Xi T1 904 72 from w340.x _ _ rfl))
        have w540 : 0 ≤ Xi T1 904 72 ∧ Xi T1 904 72 ≤ 2600 := hHT1.c _ _
        have w541 : Xi T15 904 74 = Xi T1 904 74 := (show Xi T15 904 74 = Xi T10 904 74 from w530.x _ _ rfl).trans ((show Xi T10 904 74 = Xi T1 904 74 from w340.x _ _ rfl))
        have w542 : 0 ≤ Xi T1 904 74 ∧ Xi T1 904 74 ≤ 2600 := hHT1.c _ _
        have w543 : Xi T15 904 78 = Xi T1 904 78 := (show Xi T15 904 78 = Xi T10 904 78 from w530.x _ _ rfl).trans ((show Xi T10 904 78 = Xi T1 904 78 from w340.x _ _ rfl))
        have w544 : -2 ≤ Xi T1 904 78 ∧ Xi T1 904 78 ≤ 5010 := hHT1.c _ _
        refine l_callV rfl rfl rfl (t_mo_meansRun__2 hHT15 n (Xi T1 904 74) 4 ⟨by omega, by omega⟩ ⟨by omega, by omega⟩ (by first | assumption | exact (TK_FR hFT15 rfl (by assumption : TK S _))) (by first | assumption | exact (RNV_FR hFT15 rfl (by assumption : RNV S _))) (by first | assumption | omega) (by first | assumption | exact (LXM_FR hFT15 rfl (by assumption : LXM S))) _) ?_
        rintro _ _ ⟨rfl, z547, rfl, w547, w545, w546⟩
        show Rl _ _ _ _ _ [iv z547] _ _
        have x129 : z547 ≠ -1 → z547 < Xi S 904 19 := fun q => by have t := (by assumption : z547 ≠ -1 → z547 < cM T15 4) q; rw [cM4, hFT15.x 904 19 rfl] at t; exact t
        have r129 : z547 = rnR S (Xi S 904 74) 4 := by have t := (by assumption : z547 = rnR T15 _ _).trans (rnR_FR hFT15 rfl rfl); first | exact t | (rw [t]; exact congrArg (fun x : Int => rnR S x 4) (by omega))
        refine l_istore_n rfl rfl rfl ?_
        refine l_aload_n rfl rfl ?_
        refine l_iload_n rfl rfl ?_
        refine l_iconst rfl ?_
        refine l_icmp_eq rfl rfl (by unfold rg; omega) (by unfold rg; omega) (fun w548 => ?_) (fun w549 => ?_)
        · refine l_iconst rfl ?_
          refine l_iconst rfl ?_
          refine l_aload_n rfl rfl ?_
          refine l_gfr rfl rfl rfl rfl rfl (hHT15.r 904 67 950 rfl) ?_
          refine l_aload_n rfl rfl ?_
          refine l_gfi rfl rfl rfl rfl rfl ?_
          have w550 : (Xi T15 904 74) = (Xi T1 904 74) := (show Xi T15 904 74 = Xi T10 904 74 from w530.x _ _ rfl).trans ((show Xi T10 904 74 = Xi T1 904 74 from w340.x _ _ rfl))
          rw [w550]
          refine l_iaload (n := 2600) rfl rfl (by omega) (by omega) (by unfold rg; omega) ?_
          have w551 : 0 ≤ (Xi T15 950 (((Xi T1 904 74)).toNat)) ∧ (Xi T15 950 (((Xi T1 904 74)).toNat)) ≤ 5010 := hHT15.c _ _
          have e167 : (Xi T15 950 (((Xi T1 904 74)).toNat)) = Xi S 950 (Xi S 904 74).toNat := by first | rfl | exact (hFT15.cx 950 rfl _).1 | (rw [(hFT15.cx 950 rfl _).1]; exact congrArg (fun t : Int => Xi S 950 t.toNat) (by omega))
          have f167 := hrf (Xi S 904 74) (by omega) (by omega)
          have w552 : 0 ≤ Xi T15 904 106 ∧ Xi T15 904 106 ≤ 9 := hHT15.c _ _
          have w553 : Xi T15 904 108 = Xi T1 904 108 := (show Xi T15 904 108 = Xi T10 904 108 from w530.x _ _ rfl).trans ((show Xi T10 904 108 = Xi T1 904 108 from w340.x _ _ rfl))
          have w554 : 0 ≤ Xi T1 904 108 ∧ Xi T1 904 108 ≤ 2600 := hHT1.c _ _
          have w555 : Xi T15 904 69 = Xi T1 904 69 := (show Xi T15 904 69 = Xi T10 904 69 from w530.x _ _ rfl).trans ((show Xi T10 904 69 = Xi T1 904 69 from w340.x _ _ rfl))
          have w556 : 0 ≤ Xi T1 904 69 ∧ Xi T1 904 69 ≤ 2600 := hHT1.c _ _
          have w557 : Xi T15 904 71 = Xi T1 904 71 := (show Xi T15 904 71 = Xi T10 904 71 from w530.x _ _ rfl).trans ((show Xi T10 904 71 = Xi T1 904 71 from w340.x _ _ rfl))
          have w558 : 0 ≤ Xi T1 904 71 ∧ Xi T1 904 71 ≤ 2600 := hHT1.c _ _
          have w559 : Xi T15 904 72 = Xi T1 904 72 := (show Xi T15 904 72 = Xi T10 904 72 from w530.x _ _ rfl).trans ((show Xi T10 904 72 = Xi T1 904 72 from w340.x _ _ rfl))
          have w560 : 0 ≤ Xi T1 904 72 ∧ Xi T1 904 72 ≤ 2600 := hHT1.c _ _
          have w561 : Xi T15 904 74 = Xi T1 904 74 := (show Xi T15 904 74 = Xi T10 904 74 from w530.x _ _ rfl).trans ((show Xi T10 904 74 = Xi T1 904 74 from w340.x _ _ rfl))
          have w562 : 0 ≤ Xi T1 904 74 ∧ Xi T1 904 74 ≤ 2600 := hHT1.c _ _
          have w563 : Xi T15 904 78 = Xi T1 904 78 := (show Xi T15 904 78 = Xi T10 904 78 from w530.x _ _ rfl).trans ((show Xi T10 904 78 = Xi T1 904 78 from w340.x _ _ rfl))
          have w564 : -2 ≤ Xi T1 904 78 ∧ Xi T1 904 78 ≤ 5010 := hHT1.c _ _
          refine l_callV rfl rfl rfl (t_mo_need hHT15 0 4 (Xi T15 950 (((Xi T1 904 74)).toNat)) ⟨by omega, by omega⟩ ⟨by omega, by omega⟩ ⟨by omega, by omega⟩ _) ?_
          rintro _ T16 ⟨hHT16, w568, rfl, w565, w566⟩
          have hFT16 : FR md_mo_askWay S T16 := FR.tr hFT15 w568 rfl
          show Rl _ _ _ _ _ [] _ _
          refine l_return rfl rfl ?_
          have w569 : 0 ≤ Xi T16 904 106 ∧ Xi T16 904 106 ≤ 9 := hHT16.c _ _
          have w570 : Xi T16 904 108 = Xi T1 904 108 := (show Xi T16 904 108 = Xi T15 904 108 from w568.x _ _ rfl).trans ( (show Xi T15 904 108 = Xi T10 904 108 from w530.x _ _ rfl).trans ((show Xi T10 904 108 = Xi T1 904 108 from w340.x _ _ rfl)))
          have w571 : 0 ≤ Xi T1 904 108 ∧ Xi T1 904 108 ≤ 2600 := hHT1.c _ _
          have w572 : Xi T16 904 69 = Xi T1 904 69 := (show Xi T16 904 69 = Xi T15 904 69 from w568.x _ _ rfl).trans ( (show Xi T15 904 69 = Xi T10 904 69 from w530.x _ _ rfl).trans ((show Xi T10 904 69 = Xi T1 904 69 from w340.x _ _ rfl)))
          have w573 : 0 ≤ Xi T1 904 69 ∧ Xi T1 904 69 ≤ 2600 := hHT1.c _ _
          have w574 : Xi T16 904 71 = Xi T1 904 71 := (show Xi T16 904 71 = Xi T15 904 71 from w568.x _ _ rfl).trans ( (show Xi T15 904 71 = Xi T10 904 71 from w530.x _ _ rfl).trans ((show Xi T10 904 71 = Xi T1 904 71 from w340.x _ _ rfl)))
          have w575 : 0 ≤ Xi T1 904 71 ∧ Xi T1 904 71 ≤ 2600 := hHT1.c _ _
          have w576 : Xi T16 904 72 = Xi T1 904 72 := (show Xi T16 904 72 = Xi T15 904 72 from w568.x _ _ rfl).trans ( (show Xi T15 904 72 = Xi T10 904 72 from w530.x _ _ rfl).trans ((show Xi T10 904 72 = Xi T1 904 72 from w340.x _ _ rfl)))
          have w577 : 0 ≤ Xi T1 904 72 ∧ Xi T1 904 72 ≤ 2600 := hHT1.c _ _
          have w578 : Xi T16 904 74 = Xi T1 904 74 := (show Xi T16 904 74 = Xi T15 904 74 from w568.x _ _ rfl).trans ( (show Xi T15 904 74 = Xi T10 904 74 from w530.x _ _ rfl).trans ((show Xi T10 904 74 = Xi T1 904 74 from w340.x _ _ rfl)))
          have w579 : 0 ≤ Xi T1 904 74 ∧ Xi T1 904 74 ≤ 2600 := hHT1.c _ _
          have w580 : Xi T16 904 78 = Xi T1 904 78 := (show Xi T16 904 78 = Xi T15 904 78 from w568.x _ _ rfl).trans ( (show Xi T15 904 78 = Xi T10 904 78 from w530.x _ _ rfl).trans ((show Xi T10 904 78 = Xi T1 904 78 from w340.x _ _ rfl)))
          have w581 : -2 ≤ Xi T1 904 78 ∧ Xi T1 904 78 ≤ 5010 := hHT1.c _ _
          exact ⟨hHT16, hFT16, rfl, (fun q => ⟨F69 (by omega), by omega, by omega⟩)⟩
        · refine l_aload_n rfl rfl ?_
          refine l_aload_n rfl rfl ?_
          refine l_gfr rfl rfl rfl rfl rfl (hHT15.r 904 20 918 rfl) ?_
          refine l_iload_n rfl rfl ?_
          refine l_iaload (n := 24) rfl rfl (by omega) (by omega) (by unfold rg; omega) ?_
          have w582 : 0 ≤ (Xi T15 918 ((z547).toNat)) ∧ (Xi T15 918 ((z547).toNat)) ≤ 15 := hHT15.c _ _
          refine l_iconst rfl ?_
          have w583 : 0 ≤ Xi T15 904 106 ∧ Xi T15 904 106 ≤ 9 := hHT15.c _ _
          have w584 : Xi T15 904 108 = Xi T1 904 108 := (show Xi T15 904 108 = Xi T10 904 108 from w530.x _ _ rfl).trans ((show Xi T10 904 108 = Xi T1 904 108 from w340.x _ _ rfl))
          have w585 : 0 ≤ Xi T1 904 108 ∧ Xi T1 904 108 ≤ 2600 := hHT1.c _ _
          have w586 : Xi T15 904 69 = Xi T1 904 69 := (show Xi T15 904 69 = Xi T10 904 69 from w530.x _ _ rfl).trans ((show Xi T10 904 69 = Xi T1 904 69 from w340.x _ _ rfl))
          have w587 : 0 ≤ Xi T1 904 69 ∧ Xi T1 904 69 ≤ 2600 := hHT1.c _ _
          have w588 : Xi T15 904 71 = Xi T1 904 71 := (show Xi T15 904 71 = Xi T10 904 71 from w530.x _ _ rfl).trans ((show Xi T10 904 71 = Xi T1 904 71 from w340.x _ _ rfl))
          have w589 : 0 ≤ Xi T1 904 71 ∧ Xi T1 904 71 ≤ 2600 := hHT1.c _ _
          have w590 : Xi T15 904 72 = Xi T1 904 72 := (show Xi T15 904 72 = Xi T10 904 72 from w530.x _ _ rfl).trans ((show Xi T10 904 72 = Xi T1 904 72 from w340.x _ _ rfl))
          have w591 : 0 ≤ Xi T1 904 72 ∧ Xi T1 904 72 ≤ 2600 := hHT1.c _ _
          have w592 : Xi T15 904 74 = Xi T1 904 74 := (show Xi T15 904 74 = Xi T10 904 74 from w530.x _ _ rfl).trans ((show Xi T10 904 74 = Xi T1 904 74 from w340.x _ _ rfl))
          have w593 : 0 ≤ Xi T1 904 74 ∧ Xi T1 904 74 ≤ 2600 := hHT1.c _ _
          have w594 : Xi T15 904 78 = Xi T1 904 78 := (show Xi T15 904 78 = Xi T10 904 78 from w530.x _ _ rfl).trans ((show Xi T10 904 78 = Xi T1 904 78 from w340.x _ _ rfl))
          have w595 : -2 ≤ Xi T1 904 78 ∧ Xi T1 904 78 ≤ 5010 := hHT1.c _ _
          refine l_callV rfl rfl rfl (t_mo_isBelow hHT15 (Xi T15 918 ((z547).toNat)) 1 ⟨by omega, by omega⟩ ⟨by omega, by omega⟩ (by first | assumption | exact (ABV_FR hFT15 rfl (by assumption : ABV S))) _) ?_
          rintro _ _ ⟨rfl, z597, rfl, w597, w596⟩
          show Rl _ _ _ _ _ [iv z597, .ref 904] _ _
          refine l_if_eq rfl rfl (by unfold rg; omega) (fun w598 => ?_) (fun w599 => ?_)
          · refine l_iconst rfl ?_
            refine l_iconst rfl ?_
            refine l_aload_n rfl rfl ?_
            refine l_gfr rfl rfl rfl rfl rfl (hHT15.r 904 67 950 rfl) ?_
            refine l_aload_n rfl rfl ?_
            refine l_gfi rfl rfl rfl rfl rfl ?_
            have w600 : (Xi T15 904 74) = (Xi T1 904 74) := (show Xi T15 904 74 = Xi T10 904 74 from w530.x _ _ rfl).trans ((show Xi T10 904 74 = Xi T1 904 74 from w340.x _ _ rfl))
            rw [w600]
            refine l_iaload (n := 2600) rfl rfl (by omega) (by omega) (by unfold rg; omega) ?_
            have w601 : 0 ≤ (Xi T15 950 (((Xi T1 904 74)).toNat)) ∧ (Xi T15 950 (((Xi T1 904 74)).toNat)) ≤ 5010 := hHT15.c _ _
            have e167 : (Xi T15 950 (((Xi T1 904 74)).toNat)) = Xi S 950 (Xi S 904 74).toNat := by first | rfl | exact (hFT15.cx 950 rfl _).1 | (rw [(hFT15.cx 950 rfl _).1]; exact congrArg (fun t : Int => Xi S 950 t.toNat) (by omega))
            have f167 := hrf (Xi S 904 74) (by omega) (by omega)
            have w602 : 0 ≤ Xi T15 904 106 ∧ Xi T15 904 106 ≤ 9 := hHT15.c _ _
            have w603 : Xi T15 904 108 = Xi T1 904 108 := (show Xi T15 904 108 = Xi T10 904 108 from w530.x _ _ rfl).trans ((show Xi T10 904 108 = Xi T1 904 108 from w340.x _ _ rfl))
            have w604 : 0 ≤ Xi T1 904 108 ∧ Xi T1 904 108 ≤ 2600 := hHT1.c _ _
            have w605 : Xi T15 904 69 = Xi T1 904 69 := (show Xi T15 904 69 = Xi T10 904 69 from w530.x _ _ rfl).trans ((show Xi T10 904 69 = Xi T1 904 69 from w340.x _ _ rfl))
            have w606 : 0 ≤ Xi T1 904 69 ∧ Xi T1 904 69 ≤ 2600 := hHT1.c _ _
            have w607 : Xi T15 904 71 = Xi T1 904 71 := (show Xi T15 904 71 = Xi T10 904 71 from w530.x _ _ rfl).trans ((show Xi T10 904 71 = Xi T1 904 71 from w340.x _ _ rfl))
            have w608 : 0 ≤ Xi T1 904 71 ∧ Xi T1 904 71 ≤ 2600 := hHT1.c _ _
            have w609 : Xi T15 904 72 = Xi T1 904 72 := (show Xi T15 904 72 = Xi T10 904 72 from w530.x _ _ rfl).trans ((show Xi T10 904 72 = Xi T1 904 72 from w340.x _ _ rfl))
            have w610 : 0 ≤ Xi T1 904 72 ∧ Xi T1 904 72 ≤ 2600 := hHT1.c _ _
            have w611 : Xi T15 904 74 = Xi T1 904 74 := (show Xi T15 904 74 = Xi T10 904 74 from w530.x _ _ rfl).trans ((show Xi T10 904 74 = Xi T1 904 74 from w340.x _ _ rfl))
            have w612 : 0 ≤ Xi T1 904 74 ∧ Xi T1 904 74 ≤ 2600 := hHT1.c _ _
            have w613 : Xi T15 904 78 = Xi T1 904 78 := (show Xi T15 904 78 = Xi T10 904 78 from w530.x _ _ rfl).trans ((show Xi T10 904 78 = Xi T1 904 78 from w340.x _ _ rfl))
            have w614 : -2 ≤ Xi T1 904 78 ∧ Xi T1 904 78 ≤ 5010 := hHT1.c _ _
            refine l_callV rfl rfl rfl (t_mo_need hHT15 0 4 (Xi T15 950 (((Xi T1 904 74)).toNat)) ⟨by omega, by omega⟩ ⟨by omega, by omega⟩ ⟨by omega, by omega⟩ _) ?_
            rintro _ T17 ⟨hHT17, w618, rfl, w615, w616⟩
            have hFT17 : FR md_mo_askWay S T17 := FR.tr hFT15 w618 rfl
            show Rl _ _ _ _ _ [] _ _
            refine l_return rfl rfl ?_
            have w619 : 0 ≤ Xi T17 904 106 ∧ Xi T17 904 106 ≤ 9 := hHT17.c _ _
            have w620 : Xi T17 904 108 = Xi T1 904 108 := (show Xi T17 904 108 = Xi T15 904 108 from w618.x _ _ rfl).trans ( (show Xi T15 904 108 = Xi T10 904 108 from w530.x _ _ rfl).trans ((show Xi T10 904 108 = Xi T1 904 108 from w340.x _ _ rfl)))
            have w621 : 0 ≤ Xi T1 904 108 ∧ Xi T1 904 108 ≤ 2600 := hHT1.c _ _
            have w622 : Xi T17 904 69 = Xi T1 904 69 := (show Xi T17 904 69 = Xi T15 904 69 from w618.x _ _ rfl).trans ( (show Xi T15 904 69 = Xi T10 904 69 from w530.x _ _ rfl).trans ((show Xi T10 904 69 = Xi T1 904 69 from w340.x _ _ rfl)))
            have w623 : 0 ≤ Xi T1 904 69 ∧ Xi T1 904 69 ≤ 2600 := hHT1.c _ _
            have w624 : Xi T17 904 71 = Xi T1 904 71 := (show Xi T17 904 71 = Xi T15 904 71 from w618.x _ _ rfl).trans ( (show Xi T15 904 71 = Xi T10 904 71 from w530.x _ _ rfl).trans ((show Xi T10 904 71 = Xi T1 904 71 from w340.x _ _ rfl)))
            have w625 : 0 ≤ Xi T1 904 71 ∧ Xi T1 904 71 ≤ 2600 := hHT1.c _ _
            have w626 : Xi T17 904 72 = Xi T1 904 72 := (show Xi T17 904 72 = Xi T15 904 72 from w618.x _ _ rfl).trans ( (show Xi T15 904 72 = Xi T10 904 72 from w530.x _ _ rfl).trans ((show Xi T10 904 72 = Xi T1 904 72 from w340.x _ _ rfl)))
            have w627 : 0 ≤ Xi T1 904 72 ∧ Xi T1 904 72 ≤ 2600 := hHT1.c _ _
            have w628 : Xi T17 904 74 = Xi T1 904 74 := (show Xi T17 904 74 = Xi T15 904 74 from w618.x _ _ rfl).trans ( (show Xi T15 904 74 = Xi T10 904 74 from w530.x _ _ rfl).trans ((show Xi T10 904 74 = Xi T1 904 74 from w340.x _ _ rfl)))
            have w629 : 0 ≤ Xi T1 904 74 ∧ Xi T1 904 74 ≤ 2600 := hHT1.c _ _
            have w630 : Xi T17 904 78 = Xi T1 904 78 := (show Xi T17 904 78 = Xi T15 904 78 from w618.x _ _ rfl).trans ( (show Xi T15 904 78 = Xi T10 904 78 from w530.x _ _ rfl).trans ((show Xi T10 904 78 = Xi T1 904 78 from w340.x _ _ rfl)))
            have w631 : -2 ≤ Xi T1 904 78 ∧ Xi T1 904 78 ≤ 5010 := hHT1.c _ _
            exact ⟨hHT17, hFT17, rfl, (fun q => ⟨F69 (by omega), by omega, by omega⟩)⟩
          · refine l_iconst rfl ?_
            refine l_goto rfl rfl ?_
            refine l_iconst rfl ?_
            refine l_aload_n rfl rfl ?_
            refine l_gfr rfl rfl rfl rfl rfl (hHT15.r 904 67 950 rfl) ?_
            refine l_aload_n rfl rfl ?_
            refine l_gfi rfl rfl rfl rfl rfl ?_
            have w632 : (Xi T15 904 74) = (Xi T1 904 74) := (show Xi T15 904 74 = Xi T10 904 74 from w530.x _ _ rfl).trans ((show Xi T10 904 74 = Xi T1 904 74 from w340.x _ _ rfl))
            rw [w632]
            refine l_iaload (n := 2600) rfl rfl (by omega) (by omega) (by unfold rg; omega) ?_
            have w633 : 0 ≤ (Xi T15 950 (((Xi T1 904 74)).toNat)) ∧ (Xi T15 950 (((Xi T1 904 74)).toNat)) ≤ 5010 := hHT15.c _ _
            have e167 : (Xi T15 950 (((Xi T1 904 74)).toNat)) = Xi S 950 (Xi S 904 74).toNat := by first | rfl | exact (hFT15.cx 950 rfl _).1 | (rw [(hFT15.cx 950 rfl _).1]; exact congrArg (fun t : Int => Xi S 950 t.toNat) (by omega))
            have f167 := hrf (Xi S 904 74) (by omega) (by omega)
            have w634 : 0 ≤ Xi T15 904 106 ∧ Xi T15 904 106 ≤ 9 := hHT15.c _ _
            have w635 : Xi T15 904 108 = Xi T1 904 108 := (show Xi T15 904 108 = Xi T10 904 108 from w530.x _ _ rfl).trans ((show Xi T10 904 108 = Xi T1 904 108 from w340.x _ _ rfl))
            have w636 : 0 ≤ Xi T1 904 108 ∧ Xi T1 904 108 ≤ 2600 := hHT1.c _ _
            have w637 : Xi T15 904 69 = Xi T1 904 69 := (show Xi T15 904 69 = Xi T10 904 69 from w530.x _ _ rfl).trans ((show Xi T10 904 69 = Xi T1 904 69 from w340.x _ _ rfl))
            have w638 : 0 ≤ Xi T1 904 69 ∧ Xi T1 904 69 ≤ 2600 := hHT1.c _ _
            have w639 : Xi T15 904 71 = Xi T1 904 71 := (show Xi T15 904 71 = Xi T10 904 71 from w530.x _ _ rfl).trans ((show Xi T10 904 71 = Xi T1 904 71 from w340.x _ _ rfl))
            have w640 : 0 ≤ Xi T1 904 71 ∧ Xi T1 904 71 ≤ 2600 := hHT1.c _ _
            have w641 : Xi T15 904 72 = Xi T1 904 72 := (show Xi T15 904 72 = Xi T10 904 72 from w530.x _ _ rfl).trans ((show Xi T10 904 72 = Xi T1 904 72 from w340.x _ _ rfl))
            have w642 : 0 ≤ Xi T1 904 72 ∧ Xi T1 904 72 ≤ 2600 := hHT1.c _ _
            have w643 : Xi T15 904 74 = Xi T1 904 74 := (show Xi T15 904 74 = Xi T10 904 74 from w530.x _ _ rfl).trans ((show Xi T10 904 74 = Xi T1 904 74 from w340.x _ _ rfl))
            have w644 : 0 ≤ Xi T1 904 74 ∧ Xi T1 904 74 ≤ 2600 := hHT1.c _ _
            have w645 : Xi T15 904 78 = Xi T1 904 78 := (show Xi T15 904 78 = Xi T10 904 78 from w530.x _ _ rfl).trans ((show Xi T10 904 78 = Xi T1 904 78 from w340.x _ _ rfl))
            have w646 : -2 ≤ Xi T1 904 78 ∧ Xi T1 904 78 ≤ 5010 := hHT1.c _ _
            refine l_callV rfl rfl rfl (t_mo_need hHT15 1 4 (Xi T15 950 (((Xi T1 904 74)).toNat)) ⟨by omega, by omega⟩ ⟨by omega, by omega⟩ ⟨by omega, by omega⟩ _) ?_
            rintro _ T18 ⟨hHT18, w650, rfl, w647, w648⟩
            have hFT18 : FR md_mo_askWay S T18 := FR.tr hFT15 w650 rfl
            show Rl _ _ _ _ _ [] _ _
            refine l_return rfl rfl ?_
            have w651 : 0 ≤ Xi T18 904 106 ∧ Xi T18 904 106 ≤ 9 := hHT18.c _ _
            have w652 : Xi T18 904 108 = Xi T1 904 108 := (show Xi T18 904 108 = Xi T15 904 108 from w650.x _ _ rfl).trans ( (show Xi T15 904 108 = Xi T10 904 108 from w530.x _ _ rfl).trans ((show Xi T10 904 108 = Xi T1 904 108 from w340.x _ _ rfl)))
            have w653 : 0 ≤ Xi T1 904 108 ∧ Xi T1 904 108 ≤ 2600 := hHT1.c _ _
            have w654 : Xi T18 904 69 = Xi T1 904 69 := (show Xi T18 904 69 = Xi T15 904 69 from w650.x _ _ rfl).trans ( (show Xi T15 904 69 = Xi T10 904 69 from w530.x _ _ rfl).trans ((show Xi T10 904 69 = Xi T1 904 69 from w340.x _ _ rfl)))
            have w655 : 0 ≤ Xi T1 904 69 ∧ Xi T1 904 69 ≤ 2600 := hHT1.c _ _
            have w656 : Xi T18 904 71 = Xi T1 904 71 := (show Xi T18 904 71 = Xi T15 904 71 from w650.x _ _ rfl).trans ( (show Xi T15 904 71 = Xi T10 904 71 from w530.x _ _ rfl).trans ((show Xi T10 904 71 = Xi T1 904 71 from w340.x _ _ rfl)))
            have w657 : 0 ≤ Xi T1 904 71 ∧ Xi T1 904 71 ≤ 2600 := hHT1.c _ _
            have w658 : Xi T18 904 72 = Xi T1 904 72 := (show Xi T18 904 72 = Xi T15 904 72 from w650.x _ _ rfl).trans ( (show Xi T15 904 72 = Xi T10 904 72 from w530.x _ _ rfl).trans ((show Xi T10 904 72 = Xi T1 904 72 from w340.x _ _ rfl)))
            have w659 : 0 ≤ Xi T1 904 72 ∧ Xi T1 904 72 ≤ 2600 := hHT1.c _ _
            have w660 : Xi T18 904 74 = Xi T1 904 74 := (show Xi T18 904 74 = Xi T15 904 74 from w650.x _ _ rfl).trans ( (show Xi T15 904 74 = Xi T10 904 74 from w530.x _ _ rfl).trans ((show Xi T10 904 74 = Xi T1 904 74 from w340.x _ _ rfl)))
            have w661 : 0 ≤ Xi T1 904 74 ∧ Xi T1 904 74 ≤ 2600 := hHT1.c _ _
            have w662 : Xi T18 904 78 = Xi T1 904 78 := (show Xi T18 904 78 = Xi T15 904 78 from w650.x _ _ rfl).trans ( (show Xi T15 904 78 = Xi T10 904 78 from w530.x _ _ rfl).trans ((show Xi T10 904 78 = Xi T1 904 78 from w340.x _ _ rfl)))
            have w663 : -2 ≤ Xi T1 904 78 ∧ Xi T1 904 78 ≤ 5010 := hHT1.c _ _
            exact ⟨hHT18, hFT18, rfl, (fun q => ⟨F69 (by omega), by omega, by omega⟩)⟩
  refine l_aload_n rfl rfl ?_
  refine l_gfi rfl rfl rfl rfl rfl ?_
  refine l_istore_n rfl rfl rfl ?_
  refine l_aload_n rfl rfl ?_
  refine l_iload_n rfl rfl ?_
  have w664 : 0 ≤ Xi S 904 106 ∧ Xi S 904 106 ≤ 9 := hH.c _ _
  have w665 : 0 ≤ Xi S 904 108 ∧ Xi S 904 108 ≤ 2600 := hH.c _ _
  have w666 : 0 ≤ Xi S 904 69 ∧ Xi S 904 69 ≤ 2600 := hH.c _ _
  have w667 : 0 ≤ Xi S 904 71 ∧ Xi S 904 71 ≤ 2600 := hH.c _ _
  have w668 : 0 ≤ Xi S 904 72 ∧ Xi S 904 72 ≤ 2600 := hH.c _ _
  have w669 : 0 ≤ Xi S 904 74 ∧ Xi S 904 74 ≤ 2600 := hH.c _ _
  have w670 : -2 ≤ Xi S 904 78 ∧ Xi S 904 78 ≤ 5010 := hH.c _ _
  refine l_callV rfl rfl rfl (t_mo_meansNothing__2 hH n (Xi S 904 71) ⟨by omega, by omega⟩ (by first | assumption | exact (TK_FR hF rfl (by assumption : TK S _))) (by first | assumption | exact (RNV_FR hF rfl (by assumption : RNV S _))) (by first | assumption | omega) _) ?_
  rintro _ _ ⟨rfl, z672, rfl, w672, w671⟩
  show Rl _ _ _ _ _ [iv z672] _ _
  refine l_if_eq rfl rfl (by unfold rg; omega) (fun w673 => ?_) (fun w674 => ?_)
  · refine l_aload_n rfl rfl ?_
    refine l_iload_n rfl rfl ?_
    refine l_iconst rfl ?_
    have w675 : 0 ≤ Xi S 904 106 ∧ Xi S 904 106 ≤ 9 := hH.c _ _
    have w676 : 0 ≤ Xi S 904 108 ∧ Xi S 904 108 ≤ 2600 := hH.c _ _
    have w677 : 0 ≤ Xi S 904 69 ∧ Xi S 904 69 ≤ 2600 := hH.c _ _
    have w678 : 0 ≤ Xi S 904 71 ∧ Xi S 904 71 ≤ 2600 := hH.c _ _
    have w679 : 0 ≤ Xi S 904 72 ∧ Xi S 904 72 ≤ 2600 := hH.c _ _
    have w680 : 0 ≤ Xi S 904 74 ∧ Xi S 904 74 ≤ 2600 := hH.c _ _
    have w681 : -2 ≤ Xi S 904 78 ∧ Xi S 904 78 ≤ 5010 := hH.c _ _
    refine l_callV rfl rfl rfl (t_mo_meansRun__2 hH n (Xi S 904 71) 4 ⟨by omega, by omega⟩ ⟨by omega, by omega⟩ (by first | assumption | exact (TK_FR hF rfl (by assumption : TK S _))) (by first | assumption | exact (RNV_FR hF rfl (by assumption : RNV S _))) (by first | assumption | omega) (by first | assumption | exact (LXM_FR hF rfl (by assumption : LXM S))) _) ?_
    rintro _ _ ⟨rfl, z684, rfl, w684, w682, w683⟩
    show Rl _ _ _ _ _ [iv z684] _ _
    have x30 : z684 ≠ -1 → z684 < Xi S 904 19 := fun q => by have t := (by assumption : z684 ≠ -1 → z684 < cM S 4) q; rw [cM4, hF.x 904 19 rfl] at t; exact t
    have r30 : z684 = rnR S (Xi S 904 71) 4 := by have t := (by assumption : z684 = rnR S _ _).trans (rnR_FR hF rfl rfl); first | exact t | (rw [t]; exact congrArg (fun x : Int => rnR S x 4) (by omega))
    refine l_istore_n rfl rfl rfl ?_
    refine l_aload_n rfl rfl ?_
    refine l_iload_n rfl rfl ?_
    refine l_iconst rfl ?_
    refine l_icmp_eq rfl rfl (by unfold rg; omega) (by unfold rg; omega) (fun w685 => ?_) (fun w686 => ?_)
    · refine l_iconst rfl ?_
      refine l_iconst rfl ?_
      refine l_aload_n rfl rfl ?_
      refine l_gfr rfl rfl rfl rfl rfl (hH.r 904 67 950 rfl) ?_
      refine l_iload_n rfl rfl ?_
      refine l_iaload (n := 2600) rfl rfl (by omega) (by omega) (by unfold rg; omega) ?_
      have w687 : 0 ≤ (Xi S 950 (((Xi S 904 71)).toNat)) ∧ (Xi S 950 (((Xi S 904 71)).toNat)) ≤ 5010 := hH.c _ _
      have e65 : (Xi S 950 (((Xi S 904 71)).toNat)) = Xi S 950 (Xi S 904 71).toNat := by first | rfl | exact (hF.cx 950 rfl _).1 | (rw [(hF.cx 950 rfl _).1]; exact congrArg (fun t : Int => Xi S 950 t.toNat) (by omega))
      have f65 := hrf (Xi S 904 71) (by omega) (by omega)
      have w688 : 0 ≤ Xi S 904 106 ∧ Xi S 904 106 ≤ 9 := hH.c _ _
      have w689 : 0 ≤ Xi S 904 108 ∧ Xi S 904 108 ≤ 2600 := hH.c _ _
      have w690 : 0 ≤ Xi S 904 69 ∧ Xi S 904 69 ≤ 2600 := hH.c _ _
      have w691 : 0 ≤ Xi S 904 71 ∧ Xi S 904 71 ≤ 2600 := hH.c _ _
      have w692 : 0 ≤ Xi S 904 72 ∧ Xi S 904 72 ≤ 2600 := hH.c _ _
      have w693 : 0 ≤ Xi S 904 74 ∧ Xi S 904 74 ≤ 2600 := hH.c _ _
      have w694 : -2 ≤ Xi S 904 78 ∧ Xi S 904 78 ≤ 5010 := hH.c _ _
      refine l_callV rfl rfl rfl (t_mo_need hH 0 4 (Xi S 950 (((Xi S 904 71)).toNat)) ⟨by omega, by omega⟩ ⟨by omega, by omega⟩ ⟨by omega, by omega⟩ _) ?_
      rintro _ T19 ⟨hHT19, w698, rfl, w695, w696⟩
      have hFT19 : FR md_mo_askWay S T19 := FR.tr hF w698 rfl
      show Rl _ _ _ _ _ [] _ _
      have w699 : 0 ≤ Xi T19 904 106 ∧ Xi T19 904 106 ≤ 9 := hHT19.c _ _
      have w700 : Xi T19 904 108 = Xi S 904 108 := (show Xi T19 904 108 = Xi S 904 108 from w698.x _ _ rfl)
      have w701 : 0 ≤ Xi S 904 108 ∧ Xi S 904 108 ≤ 2600 := hH.c _ _
      have w702 : Xi T19 904 69 = Xi S 904 69 := (show Xi T19 904 69 = Xi S 904 69 from w698.x _ _ rfl)
      have w703 : 0 ≤ Xi S 904 69 ∧ Xi S 904 69 ≤ 2600 := hH.c _ _
      have w704 : Xi T19 904 71 = Xi S 904 71 := (show Xi T19 904 71 = Xi S 904 71 from w698.x _ _ rfl)
      have w705 : 0 ≤ Xi S 904 71 ∧ Xi S 904 71 ≤ 2600 := hH.c _ _
      have w706 : Xi T19 904 72 = Xi S 904 72 := (show Xi T19 904 72 = Xi S 904 72 from w698.x _ _ rfl)
      have w707 : 0 ≤ Xi S 904 72 ∧ Xi S 904 72 ≤ 2600 := hH.c _ _
      have w708 : Xi T19 904 74 = Xi S 904 74 := (show Xi T19 904 74 = Xi S 904 74 from w698.x _ _ rfl)
      have w709 : 0 ≤ Xi S 904 74 ∧ Xi S 904 74 ≤ 2600 := hH.c _ _
      have w710 : Xi T19 904 78 = Xi S 904 78 := (show Xi T19 904 78 = Xi S 904 78 from w698.x _ _ rfl)
      have w711 : -2 ≤ Xi S 904 78 ∧ Xi S 904 78 ≤ 5010 := hH.c _ _
      exact Rl_weak (C69 T19 hHT19 hFT19 ((Xi S 904 71)) (by omega) (by omega) (by omega) (by omega) (by omega) (by omega) (by first | exact (fun _ => fun q _ => G21 q) G21 | exact fun q y => absurd y (by rw [← r30]; omega) | exact fun q => absurd q (by omega))) (And.intro rfl (And.intro rfl (True.intro)))
    · refine l_aload_n rfl rfl ?_
      refine l_aload_n rfl rfl ?_
      refine l_gfr rfl rfl rfl rfl rfl (hH.r 904 20 918 rfl) ?_
      refine l_iload_n rfl rfl ?_
      refine l_iaload (n := 24) rfl rfl (by omega) (by omega) (by unfold rg; omega) ?_
      have w712 : 0 ≤ (Xi S 918 ((z684).toNat)) ∧ (Xi S 918 ((z684).toNat)) ≤ 15 := hH.c _ _
      refine l_iconst rfl ?_
      have w713 : 0 ≤ Xi S 904 106 ∧ Xi S 904 106 ≤ 9 := hH.c _ _
      have w714 : 0 ≤ Xi S 904 108 ∧ Xi S 904 108 ≤ 2600 := hH.c _ _
      have w715 : 0 ≤ Xi S 904 69 ∧ Xi S 904 69 ≤ 2600 := hH.c _ _
      have w716 : 0 ≤ Xi S 904 71 ∧ Xi S 904 71 ≤ 2600 := hH.c _ _
      have w717 : 0 ≤ Xi S 904 72 ∧ Xi S 904 72 ≤ 2600 := hH.c _ _
      have w718 : 0 ≤ Xi S 904 74 ∧ Xi S 904 74 ≤ 2600 := hH.c _ _
      have w719 : -2 ≤ Xi S 904 78 ∧ Xi S 904 78 ≤ 5010 := hH.c _ _
      refine l_callV rfl rfl rfl (t_mo_isBelow hH (Xi S 918 ((z684).toNat)) 1 ⟨by omega, by omega⟩ ⟨by omega, by omega⟩ (by first | assumption | exact (ABV_FR hF rfl (by assumption : ABV S))) _) ?_
      rintro _ _ ⟨rfl, z721, rfl, w721, w720⟩
      show Rl _ _ _ _ _ [iv z721, .ref 904] _ _
      refine l_if_eq rfl rfl (by unfold rg; omega) (fun w722 => ?_) (fun w723 => ?_)
      · refine l_iconst rfl ?_
        refine l_iconst rfl ?_
        refine l_aload_n rfl rfl ?_
        refine l_gfr rfl rfl rfl rfl rfl (hH.r 904 67 950 rfl) ?_
        refine l_iload_n rfl rfl ?_
        refine l_iaload (n := 2600) rfl rfl (by omega) (by omega) (by unfold rg; omega) ?_
        have w724 : 0 ≤ (Xi S 950 (((Xi S 904 71)).toNat)) ∧ (Xi S 950 (((Xi S 904 71)).toNat)) ≤ 5010 := hH.c _ _
        have e65 : (Xi S 950 (((Xi S 904 71)).toNat)) = Xi S 950 (Xi S 904 71).toNat := by first | rfl | exact (hF.cx 950 rfl _).1 | (rw [(hF.cx 950 rfl _).1]; exact congrArg (fun t : Int => Xi S 950 t.toNat) (by omega))
        have f65 := hrf (Xi S 904 71) (by omega) (by omega)
        have w725 : 0 ≤ Xi S 904 106 ∧ Xi S 904 106 ≤ 9 := hH.c _ _
        have w726 : 0 ≤ Xi S 904 108 ∧ Xi S 904 108 ≤ 2600 := hH.c _ _
        have w727 : 0 ≤ Xi S 904 69 ∧ Xi S 904 69 ≤ 2600 := hH.c _ _
        have w728 : 0 ≤ Xi S 904 71 ∧ Xi S 904 71 ≤ 2600 := hH.c _ _
        have w729 : 0 ≤ Xi S 904 72 ∧ Xi S 904 72 ≤ 2600 := hH.c _ _
        have w730 : 0 ≤ Xi S 904 74 ∧ Xi S 904 74 ≤ 2600 := hH.c _ _
        have w731 : -2 ≤ Xi S 904 78 ∧ Xi S 904 78 ≤ 5010 := hH.c _ _
        refine l_callV rfl rfl rfl (t_mo_need hH 0 4 (Xi S 950 (((Xi S 904 71)).toNat)) ⟨by omega, by omega⟩ ⟨by omega, by omega⟩ ⟨by omega, by omega⟩ _) ?_
        rintro _ T20 ⟨hHT20, w735, rfl, w732, w733⟩
        have hFT20 : FR md_mo_askWay S T20 := FR.tr hF w735 rfl
        show Rl _ _ _ _ _ [] _ _
        have w736 : 0 ≤ Xi T20 904 106 ∧ Xi T20 904 106 ≤ 9 := hHT20.c _ _
        have w737 : Xi T20 904 108 = Xi S 904 108 := (show Xi T20 904 108 = Xi S 904 108 from w735.x _ _ rfl)
        have w738 : 0 ≤ Xi S 904 108 ∧ Xi S 904 108 ≤ 2600 := hH.c _ _
        have w739 : Xi T20 904 69 = Xi S 904 69 := (show Xi T20 904 69 = Xi S 904 69 from w735.x _ _ rfl)
        have w740 : 0 ≤ Xi S 904 69 ∧ Xi S 904 69 ≤ 2600 := hH.c _ _
        have w741 : Xi T20 904 71 = Xi S 904 71 := (show Xi T20 904 71 = Xi S 904 71 from w735.x _ _ rfl)
        have w742 : 0 ≤ Xi S 904 71 ∧ Xi S 904 71 ≤ 2600 := hH.c _ _
        have w743 : Xi T20 904 72 = Xi S 904 72 := (show Xi T20 904 72 = Xi S 904 72 from w735.x _ _ rfl)
        have w744 : 0 ≤ Xi S 904 72 ∧ Xi S 904 72 ≤ 2600 := hH.c _ _
        have w745 : Xi T20 904 74 = Xi S 904 74 := (show Xi T20 904 74 = Xi S 904 74 from w735.x _ _ rfl)
        have w746 : 0 ≤ Xi S 904 74 ∧ Xi S 904 74 ≤ 2600 := hH.c _ _
        have w747 : Xi T20 904 78 = Xi S 904 78 := (show Xi T20 904 78 = Xi S 904 78 from w735.x _ _ rfl)
        have w748 : -2 ≤ Xi S 904 78 ∧ Xi S 904 78 ≤ 5010 := hH.c _ _
        exact Rl_weak (C69 T20 hHT20 hFT20 ((Xi S 904 71)) (by omega) (by omega) (by omega) (by omega) (by omega) (by omega) (by first | exact (fun _ => fun q _ => G21 q) G21 | exact fun q y => absurd y (by rw [← r30]; omega) | exact fun q => absurd q (by omega))) (And.intro rfl (And.intro rfl (True.intro)))
      · refine l_iconst rfl ?_
        refine l_goto rfl rfl ?_
        refine l_iconst rfl ?_
        refine l_aload_n rfl rfl ?_
        refine l_gfr rfl rfl rfl rfl rfl (hH.r 904 67 950 rfl) ?_
        refine l_iload_n rfl rfl ?_
        refine l_iaload (n := 2600) rfl rfl (by omega) (by omega) (by unfold rg; omega) ?_
        have w749 : 0 ≤ (Xi S 950 (((Xi S 904 71)).toNat)) ∧ (Xi S 950 (((Xi S 904 71)).toNat)) ≤ 5010 := hH.c _ _
        have e65 : (Xi S 950 (((Xi S 904 71)).toNat)) = Xi S 950 (Xi S 904 71).toNat := by first | rfl | exact (hF.cx 950 rfl _).1 | (rw [(hF.cx 950 rfl _).1]; exact congrArg (fun t : Int => Xi S 950 t.toNat) (by omega))
        have f65 := hrf (Xi S 904 71) (by omega) (by omega)
        have w750 : 0 ≤ Xi S 904 106 ∧ Xi S 904 106 ≤ 9 := hH.c _ _
        have w751 : 0 ≤ Xi S 904 108 ∧ Xi S 904 108 ≤ 2600 := hH.c _ _
        have w752 : 0 ≤ Xi S 904 69 ∧ Xi S 904 69 ≤ 2600 := hH.c _ _
        have w753 : 0 ≤ Xi S 904 71 ∧ Xi S 904 71 ≤ 2600 := hH.c _ _
        have w754 : 0 ≤ Xi S 904 72 ∧ Xi S 904 72 ≤ 2600 := hH.c _ _
        have w755 : 0 ≤ Xi S 904 74 ∧ Xi S 904 74 ≤ 2600 := hH.c _ _
        have w756 : -2 ≤ Xi S 904 78 ∧ Xi S 904 78 ≤ 5010 := hH.c _ _
        refine l_callV rfl rfl rfl (t_mo_need hH 1 4 (Xi S 950 (((Xi S 904 71)).toNat)) ⟨by omega, by omega⟩ ⟨by omega, by omega⟩ ⟨by omega, by omega⟩ _) ?_
        rintro _ T21 ⟨hHT21, w760, rfl, w757, w758⟩
        have hFT21 : FR md_mo_askWay S T21 := FR.tr hF w760 rfl
        show Rl _ _ _ _ _ [] _ _
        have w761 : 0 ≤ Xi T21 904 106 ∧ Xi T21 904 106 ≤ 9 := hHT21.c _ _
        have w762 : Xi T21 904 108 = Xi S 904 108 := (show Xi T21 904 108 = Xi S 904 108 from w760.x _ _ rfl)
        have w763 : 0 ≤ Xi S 904 108 ∧ Xi S 904 108 ≤ 2600 := hH.c _ _
        have w764 : Xi T21 904 69 = Xi S 904 69 := (show Xi T21 904 69 = Xi S 904 69 from w760.x _ _ rfl)
        have w765 : 0 ≤ Xi S 904 69 ∧ Xi S 904 69 ≤ 2600 := hH.c _ _
        have w766 : Xi T21 904 71 = Xi S 904 71 := (show Xi T21 904 71 = Xi S 904 71 from w760.x _ _ rfl)
        have w767 : 0 ≤ Xi S 904 71 ∧ Xi S 904 71 ≤ 2600 := hH.c _ _
        have w768 : Xi T21 904 72 = Xi S 904 72 := (show Xi T21 904 72 = Xi S 904 72 from w760.x _ _ rfl)
        have w769 : 0 ≤ Xi S 904 72 ∧ Xi S 904 72 ≤ 2600 := hH.c _ _
        have w770 : Xi T21 904 74 = Xi S 904 74 := (show Xi T21 904 74 = Xi S 904 74 from w760.x _ _ rfl)
        have w771 : 0 ≤ Xi S 904 74 ∧ Xi S 904 74 ≤ 2600 := hH.c _ _
        have w772 : Xi T21 904 78 = Xi S 904 78 := (show Xi T21 904 78 = Xi S 904 78 from w760.x _ _ rfl)
        have w773 : -2 ≤ Xi S 904 78 ∧ Xi S 904 78 ≤ 5010 := hH.c _ _
        exact Rl_weak (C69 T21 hHT21 hFT21 ((Xi S 904 71)) (by omega) (by omega) (by omega) (by omega) (by omega) (by omega) (by first | exact (fun _ => fun q _ => G21 q) G21 | exact fun q y => absurd y (by rw [← r30]; omega) | exact fun q => absurd q (by omega))) (And.intro rfl (And.intro rfl (True.intro)))
  · refine l_aload_n rfl rfl ?_
    refine l_iload_n rfl rfl ?_
    refine l_aload_n rfl rfl ?_
    refine l_gfi rfl rfl rfl rfl rfl ?_
    refine l_bipush rfl rfl ?_
    have w774 : 0 ≤ Xi S 904 106 ∧ Xi S 904 106 ≤ 9 := hH.c _ _
    have w775 : 0 ≤ Xi S 904 108 ∧ Xi S 904 108 ≤ 2600 := hH.c _ _
    have w776 : 0 ≤ Xi S 904 69 ∧ Xi S 904 69 ≤ 2600 := hH.c _ _
    have w777 : 0 ≤ Xi S 904 71 ∧ Xi S 904 71 ≤ 2600 := hH.c _ _
    have w778 : 0 ≤ Xi S 904 72 ∧ Xi S 904 72 ≤ 2600 := hH.c _ _
    have w779 : 0 ≤ Xi S 904 74 ∧ Xi S 904 74 ≤ 2600 := hH.c _ _
    have w780 : -2 ≤ Xi S 904 78 ∧ Xi S 904 78 ≤ 5010 := hH.c _ _
    refine l_callV rfl rfl rfl (t_mo_mustBeNew hH n (Xi S 904 71) (Xi S 904 19) 24 ⟨by omega, by omega⟩ ⟨by omega, by omega⟩ ⟨by omega, by omega⟩ (by first | assumption | exact (TK_FR hF rfl (by assumption : TK S _))) (by first | assumption | exact (RNV_FR hF rfl (by assumption : RNV S _))) (by first | assumption | omega) (by first | assumption | exact (by assumption : NWV S)) (by first | assumption | omega) _) ?_
    rintro _ T22 ⟨hHT22, w785, rfl, w781, g21, w782, w783⟩
    have hFT22 : FR md_mo_askWay S T22 := FR.tr hF w785 rfl
    show Rl _ _ _ _ _ [] _ _
    have G21 : Xi T22 904 106 = 0 → Xi S 904 19 < 24 ∧ Xi S 951 (Xi S 904 71).toNat ≤ 3 := fun q => ⟨(g21 q).1, (g21 q).2.1⟩
    refine l_goto rfl rfl ?_
    have w786 : 0 ≤ Xi T22 904 106 ∧ Xi T22 904 106 ≤ 9 := hHT22.c _ _
    have w787 : 0 ≤ Xi T22 904 108 ∧ Xi T22 904 108 ≤ 2600 := hHT22.c _ _
    have w788 : Xi T22 904 69 = Xi S 904 69 := (show Xi T22 904 69 = Xi S 904 69 from w785.x _ _ rfl)
    have w789 : 0 ≤ Xi S 904 69 ∧ Xi S 904 69 ≤ 2600 := hH.c _ _
    have w790 : Xi T22 904 71 = Xi S 904 71 := (show Xi T22 904 71 = Xi S 904 71 from w785.x _ _ rfl)
    have w791 : 0 ≤ Xi S 904 71 ∧ Xi S 904 71 ≤ 2600 := hH.c _ _
    have w792 : Xi T22 904 72 = Xi S 904 72 := (show Xi T22 904 72 = Xi S 904 72 from w785.x _ _ rfl)
    have w793 : 0 ≤ Xi S 904 72 ∧ Xi S 904 72 ≤ 2600 := hH.c _ _
    have w794 : Xi T22 904 74 = Xi S 904 74 := (show Xi T22 904 74 = Xi S 904 74 from w785.x _ _ rfl)
    have w795 : 0 ≤ Xi S 904 74 ∧ Xi S 904 74 ≤ 2600 := hH.c _ _
    have w796 : Xi T22 904 78 = Xi S 904 78 := (show Xi T22 904 78 = Xi S 904 78 from w785.x _ _ rfl)
    have w797 : -2 ≤ Xi S 904 78 ∧ Xi S 904 78 ≤ 5010 := hH.c _ _
    exact Rl_weak (C69 T22 hHT22 hFT22 ((Xi S 904 71)) (by omega) (by omega) (by omega) (by omega) (by omega) (by omega) (by first | exact (fun _ => fun q _ => G21 q) G21 | exact fun q y => absurd y (by rw [← r30]; omega) | exact fun q => absurd q (by omega))) (And.intro rfl (And.intro rfl (True.intro)))
