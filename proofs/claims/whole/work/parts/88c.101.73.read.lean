abbrev Q_mo_isArt__p (S : sS) (k : Int) : pst := fun r S1 => S = S1 ∧ (∃ z : Int, r = some (iv z) ∧ (0 ≤ z ∧ z ≤ 1) ∧ (z = 1 → 100 ≤ k ∧ k ≤ 103) ∧ (z = 0 → k < 100 ∨ 103 < k))
set_option maxRecDepth 100000 in
theorem t_mo_isArt__p {S : sS} (hH : RI S) (k : Int) (hk : -2147483648 ≤ k ∧ k ≤ 2147483647) (d : Nat) : Mp lay0 (d + 1) m_mo_isArt [iv k] S (Q_mo_isArt__p S k) := by
  refine Mp_R rfl rfl (fun fu => ?_)
  refine y_iload_n rfl rfl ?_
  refine y_bipush rfl rfl ?_
  refine y_icmp_lt rfl rfl (by unfold rg; omega) (by unfold rg; omega) (fun w1 => ?_) (fun w2 => ?_)
  · refine y_iconst rfl ?_
    refine y_ireturn rfl rfl ?_
    exact ⟨rfl, _, rfl, ⟨by omega, by omega⟩, (by omega), (by omega)⟩
  · refine y_iload_n rfl rfl ?_
    refine y_bipush rfl rfl ?_
    refine y_icmp_gt rfl rfl (by unfold rg; omega) (by unfold rg; omega) (fun w3 => ?_) (fun w4 => ?_)
    · refine y_iconst rfl ?_
      refine y_ireturn rfl rfl ?_
      exact ⟨rfl, _, rfl, ⟨by omega, by omega⟩, (by omega), (by omega)⟩
    · refine y_iconst rfl ?_
      refine y_goto rfl rfl ?_
      refine y_ireturn rfl rfl ?_
      exact ⟨rfl, _, rfl, ⟨by omega, by omega⟩, (by omega), (by omega)⟩
abbrev Q_mo_isNext__p (S : sS) (fs : Nat) (ns : Nat) (k : Int) : pst := fun r S1 => S = S1 ∧ (∃ z : Int, r = some (iv z) ∧ (0 ≤ z ∧ z ≤ 1) ∧ ((z = 1 → Xi S 904 65 = 0 ∧ tR S fs ns (Xi S 904 8 - fs) = un7 k) ∧ (z = 0 → Xi S 904 65 = 0 → tR S fs ns (Xi S 904 8 - fs) ≠ un7 k)))
set_option maxRecDepth 100000 in
theorem t_mo_isNext__p {S : sS} (hH : RI S) (fs : Nat) (ns : Nat) (k : Int) (hk : -2147483648 ≤ k ∧ k ≤ 2147483647) (hvl : VLR S fs ns) (hin : INR S fs ns) (hu : tr7 (un7 k) = k) (d : Nat) : Mp lay0 (d + 1) m_mo_isNext [.ref 904, iv k] S (Q_mo_isNext__p S fs ns k) := by
  refine Mp_R rfl rfl (fun fu => ?_)
  have w1 : -2147483648 ≤ Xi S 904 65 ∧ Xi S 904 65 ≤ 2147483647 := Xi_rgI
  have w2 : -2147483648 ≤ Xi S 904 8 ∧ Xi S 904 8 ≤ 2147483647 := Xi_rgI
  refine y_aload_n rfl rfl ?_
  refine y_gfi rfl rfl rfl rfl rfl ?_
  refine y_if_ne rfl rfl (by unfold rg; omega) (fun w3 => ?_) (fun w4 => ?_)
  · refine y_iconst rfl ?_
    refine y_ireturn rfl rfl ?_
    exact ⟨rfl, _, rfl, ⟨by omega, by omega⟩, (nx_of hvl hin hu (by omega) (by omega))⟩
  · refine y_aload_n rfl rfl ?_
    refine y_gfr rfl rfl rfl rfl rfl (hH.r 904 4 907 rfl) ?_
    refine y_aload_n rfl rfl ?_
    refine y_gfi rfl rfl rfl rfl rfl ?_
    refine y_ialoadP (n := 5002) rfl rfl (by unfold rg; omega) (fun w5 w6 => ?_)
    have w7 : -2147483648 ≤ (Xi S 907 (((Xi S 904 8)).toNat)) ∧ (Xi S 907 (((Xi S 904 8)).toNat)) ≤ 2147483647 := Xi_rgI
    refine y_iload_n rfl rfl ?_
    refine y_icmp_ne rfl rfl (by unfold rg; omega) (by unfold rg; omega) (fun w8 => ?_) (fun w9 => ?_)
    · refine y_iconst rfl ?_
      refine y_ireturn rfl rfl ?_
      exact ⟨rfl, _, rfl, ⟨by omega, by omega⟩, (nx_of hvl hin hu (by omega) (by omega))⟩
    · refine y_iconst rfl ?_
      refine y_goto rfl rfl ?_
      refine y_ireturn rfl rfl ?_
      exact ⟨rfl, _, rfl, ⟨by omega, by omega⟩, (nx_of hvl hin hu (by omega) (by omega))⟩
abbrev Q_mo_look__p (S : sS) (fs : Nat) (ns : Nat) : pst := fun r S1 => S = S1 ∧ (∃ z : Int, r = some (iv z) ∧ (-2147483648 ≤ z ∧ z ≤ 2147483647) ∧ ((Xi S 904 65 = 0 → tR S fs ns (Xi S 904 8 - fs) = un7 z ∧ z = tr7 (un7 z)) ∧ (Xi S 904 65 ≠ 0 → z = 1)))
set_option maxRecDepth 100000 in
theorem t_mo_look__p {S : sS} (hH : RI S) (fs : Nat) (ns : Nat) (hvl : VLR S fs ns) (hin : INR S fs ns) (d : Nat) : Mp lay0 (d + 1) m_mo_look [.ref 904] S (Q_mo_look__p S fs ns) := by
  refine Mp_R rfl rfl (fun fu => ?_)
  have w1 : -2147483648 ≤ Xi S 904 65 ∧ Xi S 904 65 ≤ 2147483647 := Xi_rgI
  have w2 : -2147483648 ≤ Xi S 904 8 ∧ Xi S 904 8 ≤ 2147483647 := Xi_rgI
  refine y_aload_n rfl rfl ?_
  refine y_gfi rfl rfl rfl rfl rfl ?_
  refine y_if_eq rfl rfl (by unfold rg; omega) (fun w3 => ?_) (fun w4 => ?_)
  · refine y_aload_n rfl rfl ?_
    refine y_gfr rfl rfl rfl rfl rfl (hH.r 904 4 907 rfl) ?_
    refine y_aload_n rfl rfl ?_
    refine y_gfi rfl rfl rfl rfl rfl ?_
    refine y_ialoadP (n := 5002) rfl rfl (by unfold rg; omega) (fun w5 w6 => ?_)
    have w7 : -2147483648 ≤ (Xi S 907 (((Xi S 904 8)).toNat)) ∧ (Xi S 907 (((Xi S 904 8)).toNat)) ≤ 2147483647 := Xi_rgI
    refine y_ireturn rfl rfl ?_
    exact ⟨rfl, _, rfl, ⟨by omega, by omega⟩, (by first | exact ⟨fun b => absurd b (by omega), fun _ => rfl⟩ | exact ⟨fun b => lk_of hvl hin b (by omega), fun b => absurd (by omega) b⟩)⟩
  · refine y_iconst rfl ?_
    refine y_goto rfl rfl ?_
    refine y_ireturn rfl rfl ?_
    exact ⟨rfl, _, rfl, ⟨by omega, by omega⟩, (by first | exact ⟨fun b => absurd b (by omega), fun _ => rfl⟩ | exact ⟨fun b => lk_of hvl hin b (by omega), fun b => absurd (by omega) b⟩)⟩
def md_mo_odd__p : List rec := [(904, 905, 65, 66), (904, 905, 66, 67)]
abbrev Q_mo_odd__p (S : sS) (fs : Nat) (ns : Nat) : pst := fun r S1 => RI S1 ∧ FR md_mo_odd__p S S1 ∧ (r = none ∧ (cu S1 fs = (0, (cu S fs).2)) ∧ (Xi S1 904 65 ≠ 0) ∧ (JR S1 fs ns))
set_option maxRecDepth 100000 in
theorem t_mo_odd__p {S : sS} (hH : RI S) (fs : Nat) (ns : Nat) (d : Nat) : Mp lay0 (d + 1) m_mo_odd [.ref 904] S (Q_mo_odd__p S fs ns) := by
  refine Mp_R rfl rfl (fun fu => ?_)
  have hF : FR md_mo_odd__p S S := FR.rf
  have w1 : -2147483648 ≤ Xi S 904 65 ∧ Xi S 904 65 ≤ 2147483647 := Xi_rgI
  have w2 : -2147483648 ≤ Xi S 904 66 ∧ Xi S 904 66 ≤ 2147483647 := Xi_rgI
  have w3 : -2147483648 ≤ Xi S 904 8 ∧ Xi S 904 8 ≤ 2147483647 := Xi_rgI
  refine y_aload_n rfl rfl ?_
  refine y_gfi rfl rfl rfl rfl rfl ?_
  refine y_if_ne rfl rfl (by unfold rg; omega) (fun w4 => ?_) (fun w5 => ?_)
  · refine y_return rfl rfl ?_
    exact ⟨hH, hF, rfl, (by first | (rw [cu_bad (S := S) (by omega)]) | (rw [cu_bad (S := S) (by omega), cu_ok (S := S) (by omega)]; exact pe rfl (by omega))), (by omega), (jr_bad (by omega))⟩
  · refine y_aload_n rfl rfl ?_
    refine y_iconst rfl ?_
    refine y_pfz rfl rfl rfl rfl (by omega) ?_
    obtain ⟨U1, eU1⟩ : ∃ T : sS, T = uI S 904 65 (Int32.ofInt 1) := ⟨_, rfl⟩
    rw [← eU1]
    have hHU1 : RI U1 := by rw [eU1]; exact RI_w hH
    have hFU1 : FR md_mo_odd__p S U1 := by rw [eU1]; exact FR.wI hF (mdf_i (r := (904, 905, 65, 66)) (List.mem_of_getElem? (i := 0) rfl) (inR_i (by omega) (by omega) (by omega) (by omega)))
    have w6 : Xi U1 904 65 = 1 := by rw [eU1]; exact Xi_same (by unfold rg; omega)
    refine y_aload_n rfl rfl ?_
    refine y_aload_n rfl rfl ?_
    refine y_gfi rfl rfl rfl rfl rfl ?_
    have w7 : (Xi U1 904 8) = (Xi S 904 8) := (show Xi U1 904 8 = Xi S 904 8 from by rw [eU1]; exact Xi_ne (by omega))
    rw [w7]
    have x14 : (Xi S 904 8) = Xi S 904 8 := by first | rfl | exact hFU1.x 904 8 rfl
    refine y_pfi rfl rfl rfl rfl ?_
    obtain ⟨U2, eU2⟩ : ∃ T : sS, T = uI U1 904 66 (Int32.ofInt (Xi S 904 8)) := ⟨_, rfl⟩
    rw [← eU2]
    have hHU2 : RI U2 := by rw [eU2]; exact RI_w hHU1
    have hFU2 : FR md_mo_odd__p S U2 := by rw [eU2]; exact FR.wI hFU1 (mdf_i (r := (904, 905, 66, 67)) (List.mem_of_getElem? (i := 1) rfl) (inR_i (by omega) (by omega) (by omega) (by omega)))
    have w8 : Xi U2 904 66 = (Xi S 904 8) := by rw [eU2]; exact Xi_same (by unfold rg; omega)
    refine y_return rfl rfl ?_
    have w9 : Xi U2 904 65 = Xi U1 904 65 := (show Xi U2 904 65 = Xi U1 904 65 from by rw [eU2]; exact Xi_ne (by omega))
    have w10 : Xi U2 904 8 = Xi S 904 8 := (show Xi U2 904 8 = Xi U1 904 8 from by rw [eU2]; exact Xi_ne (by omega)).trans ((show Xi U1 904 8 = Xi S 904 8 from by rw [eU1]; exact Xi_ne (by omega)))
    exact ⟨hHU2, hFU2, rfl, (by first | (rw [cu_bad (S := S) (by omega)]) | (rw [cu_bad (S := U2) (by omega), cu_ok (S := S) (by omega)]; exact pe rfl (by omega))), (by omega), (jr_bad (by omega))⟩
def md_mo_take__p : List rec := [(904, 905, 8, 9), (904, 905, 65, 66), (904, 905, 66, 67)]
abbrev Q_mo_take__p (S : sS) (fs : Nat) (ns : Nat) (k : Int) : pst := fun r S1 => RI S1 ∧ FR md_mo_take__p S S1 ∧ (r = none ∧ (gSq (cu S fs) (gT (tR S fs ns) (un7 k)) = cu S1 fs) ∧ (Xi S1 904 65 = 0 → Xi S 904 65 = 0 ∧ Xi S 904 8 ≤ Xi S1 904 8) ∧ (JR S1 fs ns))
set_option maxRecDepth 100000 in
theorem t_mo_take__p {S : sS} (hH : RI S) (fs : Nat) (ns : Nat) (k : Int) (hk : 2 ≤ k ∧ k ≤ 154) (hvl : VLR S fs ns) (hJR : JR S fs ns) (hu : tr7 (un7 k) = k) (hn : un7 k ≠ 100 ∧ un7 k ≠ 103 ∧ un7 k ≠ 107) (d : Nat) : Mp lay0 (d + 2) m_mo_take [.ref 904, iv k] S (Q_mo_take__p S fs ns k) := by
  refine Mp_R rfl rfl (fun fu => ?_)
  have hF : FR md_mo_take__p S S := FR.rf
  have w1 : -2147483648 ≤ Xi S 904 65 ∧ Xi S 904 65 ≤ 2147483647 := Xi_rgI
  have w2 : -2147483648 ≤ Xi S 904 66 ∧ Xi S 904 66 ≤ 2147483647 := Xi_rgI
  have w3 : -2147483648 ≤ Xi S 904 8 ∧ Xi S 904 8 ≤ 2147483647 := Xi_rgI
  have : Xi S 904 65 = 0 → (fs : Int) ≤ Xi S 904 8 ∧ Xi S 904 8 ≤ fs + ns := JR.i (by assumption)
  have hbd := hvl.2.2.2
  refine y_aload_n rfl rfl ?_
  refine y_iload_n rfl rfl ?_
  refine y_callV rfl rfl rfl (t_mo_isNext__p hH fs ns k ⟨by omega, by omega⟩ (by first | assumption | exact (VLR_FR hF rfl (by assumption : VLR S _ _))) (by first | assumption | exact JR.i (by first | assumption | exact (by assumption : JR S _ _))) (hu) _) ?_
  rintro _ _ ⟨rfl, z5, rfl, w5, w4⟩
  show Pl _ _ _ _ _ _ [iv z5] _ _
  have gb2 := w4
  refine y_if_eq rfl rfl (by unfold rg; omega) (fun w6 => ?_) (fun w7 => ?_)
  · refine y_aload_n rfl rfl ?_
    refine y_callV rfl rfl rfl (t_mo_odd__p hH fs ns _) ?_
    rintro _ T1 ⟨hHT1, w12, rfl, w8, w9, w10⟩
    have hFT1 : FR md_mo_take__p S T1 := FR.tr hF w12 rfl
    show Pl _ _ _ _ _ _ [] _ _
    have gp22 := w8
    refine y_return rfl rfl ?_
    have w13 : Xi T1 904 8 = Xi S 904 8 := (show Xi T1 904 8 = Xi S 904 8 from w12.x _ _ rfl)
    exact ⟨hHT1, hFT1, rfl, (by first | exact cu_st (by omega) (by omega) (by assumption) (by rw [gT_1 (by omega)]; exact pe rfl (by omega)) | exact cu_od gp22 (fun b => gT_0 (by omega))), (by omega), (by first | assumption | exact (by assumption : JR T1 _ _))⟩
  · refine y_aload_n rfl rfl ?_
    refine y_dup rfl rfl ?_
    refine y_gfi rfl rfl rfl rfl rfl ?_
    refine y_iconst rfl ?_
    refine y_iadd rfl ?_
    refine y_pfi rfl rfl rfl rfl ?_
    obtain ⟨U2, eU2⟩ : ∃ T : sS, T = uI S 904 8 (Int32.ofInt ((Xi S 904 8) + 1)) := ⟨_, rfl⟩
    rw [← eU2]
    have hHU2 : RI U2 := by rw [eU2]; exact RI_w hH
    have hFU2 : FR md_mo_take__p S U2 := by rw [eU2]; exact FR.wI hF (mdf_i (r := (904, 905, 8, 9)) (List.mem_of_getElem? (i := 0) rfl) (inR_i (by omega) (by omega) (by omega) (by omega)))
    have w14 : Xi U2 904 8 = ((Xi S 904 8) + 1) := by rw [eU2]; exact Xi_same (by unfold rg; omega)
    have b15_ : Xi U2 904 65 = Xi S 904 65 := (by rw [eU2, Xi_ne (by omega)]); have J15 : JR U2 fs ns := jr_up (by assumption : JR S _ _) ((VLR_FR hF rfl (by assumption : VLR S _ _))) eU2 (by omega) (fun b => by first | omega | (rw [FRR hF rfl]; omega) | (rw [FRR hF rfl, show Xi S 904 8 = Xi S 904 8 by omega]; omega))
    refine y_goto rfl rfl ?_
    refine y_return rfl rfl ?_
    have w15 : Xi U2 904 65 = Xi S 904 65 := (show Xi U2 904 65 = Xi S 904 65 from by rw [eU2]; exact Xi_ne (by omega))
    have w16 : Xi U2 904 66 = Xi S 904 66 := (show Xi U2 904 66 = Xi S 904 66 from by rw [eU2]; exact Xi_ne (by omega))
    exact ⟨hHU2, hFU2, rfl, (by first | exact cu_st (by omega) (by omega) (by assumption) (by rw [gT_1 (by omega)]; exact pe rfl (by omega)) | exact cu_od gp22 (fun b => gT_0 (by omega))), (by omega), (by first | assumption | exact (by assumption : JR U2 _ _))⟩
def md_mo_art__p : List rec := [(904, 905, 8, 9), (904, 905, 65, 66), (904, 905, 66, 67)]
abbrev Q_mo_art__p (S : sS) (fs : Nat) (ns : Nat) : pst := fun r S1 => RI S1 ∧ FR md_mo_art__p S S1 ∧ (r = none ∧ (gSq (cu S fs) (gA (tR S fs ns)) = cu S1 fs) ∧ (Xi S1 904 65 = 0 → Xi S 904 65 = 0 ∧ Xi S 904 8 ≤ Xi S1 904 8) ∧ (JR S1 fs ns))
set_option maxRecDepth 100000 in
theorem t_mo_art__p {S : sS} (hH : RI S) (fs : Nat) (ns : Nat) (hvl : VLR S fs ns) (hJR : JR S fs ns) (d : Nat) : Mp lay0 (d + 2) m_mo_art [.ref 904] S (Q_mo_art__p S fs ns) := by
  refine Mp_R rfl rfl (fun fu => ?_)
  have hF : FR md_mo_art__p S S := FR.rf
  have w1 : -2147483648 ≤ Xi S 904 65 ∧ Xi S 904 65 ≤ 2147483647 := Xi_rgI
  have w2 : -2147483648 ≤ Xi S 904 66 ∧ Xi S 904 66 ≤ 2147483647 := Xi_rgI
  have w3 : -2147483648 ≤ Xi S 904 8 ∧ Xi S 904 8 ≤ 2147483647 := Xi_rgI
  have : Xi S 904 65 = 0 → (fs : Int) ≤ Xi S 904 8 ∧ Xi S 904 8 ≤ fs + ns := JR.i (by assumption)
  have hbd := hvl.2.2.2
  refine y_aload_n rfl rfl ?_
  refine y_callV rfl rfl rfl (t_mo_look__p hH fs ns (by first | assumption | exact (VLR_FR hF rfl (by assumption : VLR S _ _))) (by first | assumption | exact JR.i (by first | assumption | exact (by assumption : JR S _ _))) _) ?_
  rintro _ _ ⟨rfl, z5, rfl, w5, w4⟩
  show Pl _ _ _ _ _ _ [iv z5] _ _
  have := un_ab z5
  have gb1 := w4
  refine y_callS rfl rfl (by decide) rfl (t_mo_isArt__p hH z5 ⟨by omega, by omega⟩ _) ?_
  rintro _ _ ⟨rfl, z8, rfl, w8, w6, w7⟩
  show Pl _ _ _ _ _ _ [iv z8] _ _
  refine y_if_eq rfl rfl (by unfold rg; omega) (fun w9 => ?_) (fun w10 => ?_)
  · refine y_aload_n rfl rfl ?_
    refine y_callV rfl rfl rfl (t_mo_odd__p hH fs ns _) ?_
    rintro _ T1 ⟨hHT1, w15, rfl, w11, w12, w13⟩
    have hFT1 : FR md_mo_art__p S T1 := FR.tr hF w15 rfl
    show Pl _ _ _ _ _ _ [] _ _
    have gp24 := w11
    refine y_return rfl rfl ?_
    have w16 : Xi T1 904 8 = Xi S 904 8 := (show Xi T1 904 8 = Xi S 904 8 from w15.x _ _ rfl)
    exact ⟨hHT1, hFT1, rfl, (by first | exact cu_st (by omega) (by omega) (by assumption) (by rw [gA_1 (by omega)]; exact pe rfl (by omega)) | exact cu_od gp24 (fun b => gA_0 (by omega))), (by omega), (by first | assumption | exact (by assumption : JR T1 _ _))⟩
  · refine y_aload_n rfl rfl ?_
    refine y_dup rfl rfl ?_
    refine y_gfi rfl rfl rfl rfl rfl ?_
    refine y_iconst rfl ?_
    refine y_iadd rfl ?_
    refine y_pfi rfl rfl rfl rfl ?_
    obtain ⟨U2, eU2⟩ : ∃ T : sS, T = uI S 904 8 (Int32.ofInt ((Xi S 904 8) + 1)) := ⟨_, rfl⟩
    rw [← eU2]
    have hHU2 : RI U2 := by rw [eU2]; exact RI_w hH
    have hFU2 : FR md_mo_art__p S U2 := by rw [eU2]; exact FR.wI hF (mdf_i (r := (904, 905, 8, 9)) (List.mem_of_getElem? (i := 0) rfl) (inR_i (by omega) (by omega) (by omega) (by omega)))
    have w17 : Xi U2 904 8 = ((Xi S 904 8) + 1) := by rw [eU2]; exact Xi_same (by unfold rg; omega)
    have b17_ : Xi U2 904 65 = Xi S 904 65 := (by rw [eU2, Xi_ne (by omega)]); have J17 : JR U2 fs ns := jr_up (by assumption : JR S _ _) ((VLR_FR hF rfl (by assumption : VLR S _ _))) eU2 (by omega) (fun b => by first | omega | (rw [FRR hF rfl]; omega) | (rw [FRR hF rfl, show Xi S 904 8 = Xi S 904 8 by omega]; omega))
    refine y_goto rfl rfl ?_
    refine y_return rfl rfl ?_
    have w18 : Xi U2 904 65 = Xi S 904 65 := (show Xi U2 904 65 = Xi S 904 65 from by rw [eU2]; exact Xi_ne (by omega))
    have w19 : Xi U2 904 66 = Xi S 904 66 := (show Xi U2 904 66 = Xi S 904 66 from by rw [eU2]; exact Xi_ne (by omega))
    exact ⟨hHU2, hFU2, rfl, (by first | exact cu_st (by omega) (by omega) (by assumption) (by rw [gA_1 (by omega)]; exact pe rfl (by omega)) | exact cu_od gp24 (fun b => gA_0 (by omega))), (by omega), (by first | assumption | exact (by assumption : JR U2 _ _))⟩
def md_mo_be__p : List rec := [(904, 905, 8, 9), (904, 905, 65, 66), (904, 905, 66, 67), (904, 905, 77, 78)]
abbrev Q_mo_be__p (S : sS) (fs : Nat) (ns : Nat) : pst := fun r S1 => RI S1 ∧ FR md_mo_be__p S S1 ∧ (r = none ∧ (gSq (cu S fs) (gBe (tR S fs ns)) = cu S1 fs) ∧ (Xi S1 904 65 = 0 → (Xi S1 904 77 = 1 ↔ tR S fs ns (Xi S 904 8 - fs) = 5)) ∧ (Xi S1 904 65 = 0 → Xi S 904 65 = 0 ∧ Xi S 904 8 ≤ Xi S1 904 8) ∧ (JR S1 fs ns))
set_option maxRecDepth 100000 in
theorem t_mo_be__p {S : sS} (hH : RI S) (fs : Nat) (ns : Nat) (hvl : VLR S fs ns) (hJR : JR S fs ns) (d : Nat) : Mp lay0 (d + 2) m_mo_be [.ref 904] S (Q_mo_be__p S fs ns) := by
  refine Mp_R rfl rfl (fun fu => ?_)
  have hF : FR md_mo_be__p S S := FR.rf
  have w1 : -2147483648 ≤ Xi S 904 65 ∧ Xi S 904 65 ≤ 2147483647 := Xi_rgI
  have w2 : -2147483648 ≤ Xi S 904 66 ∧ Xi S 904 66 ≤ 2147483647 := Xi_rgI
  have w3 : -2147483648 ≤ Xi S 904 77 ∧ Xi S 904 77 ≤ 2147483647 := Xi_rgI
  have w4 : -2147483648 ≤ Xi S 904 8 ∧ Xi S 904 8 ≤ 2147483647 := Xi_rgI
  have : Xi S 904 65 = 0 → (fs : Int) ≤ Xi S 904 8 ∧ Xi S 904 8 ≤ fs + ns := JR.i (by assumption)
  have hbd := hvl.2.2.2
  refine y_aload_n rfl rfl ?_
  refine y_bipush rfl rfl ?_
  refine y_callV rfl rfl rfl (t_mo_isNext__p hH fs ns 104 ⟨by omega, by omega⟩ (by first | assumption | exact (VLR_FR hF rfl (by assumption : VLR S _ _))) (by first | assumption | exact JR.i (by first | assumption | exact (by assumption : JR S _ _))) (rfl) _) ?_
  rintro _ _ ⟨rfl, z6, rfl, w6, w5⟩
  show Pl _ _ _ _ _ _ [iv z6] _ _
  have gb3 := w5
  try rw [show un7 104 = 4 from rfl] at gb3
  refine y_if_ne rfl rfl (by unfold rg; omega) (fun w7 => ?_) (fun w8 => ?_)
  · refine y_aload_n rfl rfl ?_
    refine y_aload_n rfl rfl ?_
    refine y_bipush rfl rfl ?_
    refine y_callV rfl rfl rfl (t_mo_isNext__p hH fs ns 105 ⟨by omega, by omega⟩ (by first | assumption | exact (VLR_FR hF rfl (by assumption : VLR S _ _))) (by first | assumption | exact JR.i (by first | assumption | exact (by assumption : JR S _ _))) (rfl) _) ?_
    rintro _ _ ⟨rfl, z10, rfl, w10, w9⟩
    show Pl _ _ _ _ _ _ [iv z10, .ref 904] _ _
    have gb22 := w9
    try rw [show un7 105 = 5 from rfl] at gb22
    refine y_pfz rfl rfl rfl rfl (by omega) ?_
    obtain ⟨U1, eU1⟩ : ∃ T : sS, T = uI S 904 77 (Int32.ofInt z10) := ⟨_, rfl⟩
    rw [← eU1]
    have hHU1 : RI U1 := by rw [eU1]; exact RI_w hH
    have hFU1 : FR md_mo_be__p S U1 := by rw [eU1]; exact FR.wI hF (mdf_i (r := (904, 905, 77, 78)) (List.mem_of_getElem? (i := 3) rfl) (inR_i (by omega) (by omega) (by omega) (by omega)))
    have w11 : Xi U1 904 77 = z10 := by rw [eU1]; exact Xi_same (by unfold rg; omega)
    refine y_aload_n rfl rfl ?_
    refine y_dup rfl rfl ?_
    refine y_gfi rfl rfl rfl rfl rfl ?_
    have w12 : (Xi U1 904 8) = (Xi S 904 8) := (show Xi U1 904 8 = Xi S 904 8 from by rw [eU1]; exact Xi_ne (by omega))
    rw [w12]
    refine y_iconst rfl ?_
    refine y_iadd rfl ?_
    refine y_pfi rfl rfl rfl rfl ?_
    obtain ⟨U2, eU2⟩ : ∃ T : sS, T = uI U1 904 8 (Int32.ofInt ((Xi S 904 8) + 1)) := ⟨_, rfl⟩
    rw [← eU2]
    have hHU2 : RI U2 := by rw [eU2]; exact RI_w hHU1
    have hFU2 : FR md_mo_be__p S U2 := by rw [eU2]; exact FR.wI hFU1 (mdf_i (r := (904, 905, 8, 9)) (List.mem_of_getElem? (i := 0) rfl) (inR_i (by omega) (by omega) (by omega) (by omega)))
    have w13 : Xi U2 904 8 = ((Xi S 904 8) + 1) := by rw [eU2]; exact Xi_same (by unfold rg; omega)
    have b35_ : Xi U2 904 65 = Xi U1 904 65 := (by rw [eU2, Xi_ne (by omega)]); have J35 : JR U2 fs ns := jr_up (JR_FR (FR_e eU1) rfl rfl rfl (by assumption : JR S _ _)) ((VLR_FR hFU1 rfl (by assumption : VLR S _ _))) eU2 (by omega) (fun b => by first | omega | (rw [FRR hFU1 rfl]; omega) | (rw [FRR hFU1 rfl, show Xi U1 904 8 = Xi S 904 8 by omega]; omega))
    refine y_goto rfl rfl ?_
    refine y_return rfl rfl ?_
    have w14 : Xi U2 904 65 = Xi S 904 65 := (show Xi U2 904 65 = Xi U1 904 65 from by rw [eU2]; exact Xi_ne (by omega)).trans ((show Xi U1 904 65 = Xi S 904 65 from by rw [eU1]; exact Xi_ne (by omega)))
    have w15 : Xi U2 904 66 = Xi S 904 66 := (show Xi U2 904 66 = Xi U1 904 66 from by rw [eU2]; exact Xi_ne (by omega)).trans ((show Xi U1 904 66 = Xi S 904 66 from by rw [eU1]; exact Xi_ne (by omega)))
    have w16 : Xi U2 904 77 = Xi U1 904 77 := (show Xi U2 904 77 = Xi U1 904 77 from by rw [eU2]; exact Xi_ne (by omega))
    exact ⟨hHU2, hFU2, rfl, (by first | exact cu_st (by omega) (by omega) (by assumption) (by rw [gBe_1 (by omega)]; exact pe rfl (by omega)) | exact cu_od gp42 (fun b => gBe_0 (by omega) (by omega))), (by first | (intro _; omega) | (intro q; exfalso; omega)), (by omega), (by first | assumption | exact (by assumption : JR U2 _ _))⟩
  · refine y_aload_n rfl rfl ?_
    refine y_bipush rfl rfl ?_
    refine y_callV rfl rfl rfl (t_mo_isNext__p hH fs ns 105 ⟨by omega, by omega⟩ (by first | assumption | exact (VLR_FR hF rfl (by assumption : VLR S _ _))) (by first | assumption | exact JR.i (by first | assumption | exact (by assumption : JR S _ _))) (rfl) _) ?_
    rintro _ _ ⟨rfl, z18, rfl, w18, w17⟩
    show Pl _ _ _ _ _ _ [iv z18] _ _
    have gb12 := w17
    try rw [show un7 105 = 5 from rfl] at gb12
    refine y_if_eq rfl rfl (by unfold rg; omega) (fun w19 => ?_) (fun w20 => ?_)
    · refine y_aload_n rfl rfl ?_
      refine y_callV rfl rfl rfl (t_mo_odd__p hH fs ns _) ?_
      rintro _ T3 ⟨hHT3, w25, rfl, w21, w22, w23⟩
      have hFT3 : FR md_mo_be__p S T3 := FR.tr hF w25 rfl
      show Pl _ _ _ _ _ _ [] _ _
      have gp42 := w21
      refine y_return rfl rfl ?_
      have w26 : Xi T3 904 77 = Xi S 904 77 := (show Xi T3 904 77 = Xi S 904 77 from w25.x _ _ rfl)
      have w27 : Xi T3 904 8 = Xi S 904 8 := (show Xi T3 904 8 = Xi S 904 8 from w25.x _ _ rfl)
      exact ⟨hHT3, hFT3, rfl, (by first | exact cu_st (by omega) (by omega) (by assumption) (by rw [gBe_1 (by omega)]; exact pe rfl (by omega)) | exact cu_od gp42 (fun b => gBe_0 (by omega) (by omega))), (by first | (intro _; omega) | (intro q; exfalso; omega)), (by omega), (by first | assumption | exact (by assumption : JR T3 _ _))⟩
    · refine y_aload_n rfl rfl ?_
      refine y_aload_n rfl rfl ?_
      refine y_bipush rfl rfl ?_
      refine y_callV rfl rfl rfl (t_mo_isNext__p hH fs ns 105 ⟨by omega, by omega⟩ (by first | assumption | exact (VLR_FR hF rfl (by assumption : VLR S _ _))) (by first | assumption | exact JR.i (by first | assumption | exact (by assumption : JR S _ _))) (rfl) _) ?_
      rintro _ _ ⟨rfl, z29, rfl, w29, w28⟩
      show Pl _ _ _ _ _ _ [iv z29, .ref 904] _ _
      have gb22 := w28
      try rw [show un7 105 = 5 from rfl] at gb22
      refine y_pfz rfl rfl rfl rfl (by omega) ?_
      obtain ⟨U4, eU4⟩ : ∃ T : sS, T = uI S 904 77 (Int32.ofInt z29) := ⟨_, rfl⟩
      rw [← eU4]
      have hHU4 : RI U4 := by rw [eU4]; exact RI_w hH
      have hFU4 : FR md_mo_be__p S U4 := by rw [eU4]; exact FR.wI hF (mdf_i (r := (904, 905, 77, 78)) (List.mem_of_getElem? (i := 3) rfl) (inR_i (by omega) (by omega) (by omega) (by omega)))
      have w30 : Xi U4 904 77 = z29 := by rw [eU4]; exact Xi_same (by unfold rg; omega)
      refine y_aload_n rfl rfl ?_
      refine y_dup rfl rfl ?_
      refine y_gfi rfl rfl rfl rfl rfl ?_
      have w31 : (Xi U4 904 8) = (Xi S 904 8) := (show Xi U4 904 8 = Xi S 904 8 from by rw [eU4]; exact Xi_ne (by omega))
      rw [w31]
      refine y_iconst rfl ?_
      refine y_iadd rfl ?_
      refine y_pfi rfl rfl rfl rfl ?_
      obtain ⟨U5, eU5⟩ : ∃ T : sS, T = uI U4 904 8 (Int32.ofInt ((Xi S 904 8) + 1)) := ⟨_, rfl⟩
      rw [← eU5]
      have hHU5 : RI U5 := by rw [eU5]; exact RI_w hHU4
      have hFU5 : FR md_mo_be__p S U5 := by rw [eU5]; exact FR.wI hFU4 (mdf_i (r := (904, 905, 8, 9)) (List.mem_of_getElem? (i := 0) rfl) (inR_i (by omega) (by omega) (by omega) (by omega)))
      have w32 : Xi U5 904 8 = ((Xi S 904 8) + 1) := by rw [eU5]; exact Xi_same (by unfold rg; omega)
      have b35_ : Xi U5 904 65 = Xi U4 904 65 := (by rw [eU5, Xi_ne (by omega)]); have J35 : JR U5 fs ns := jr_up (JR_FR (FR_e eU4) rfl rfl rfl (by assumption : JR S _ _)) ((VLR_FR hFU4 rfl (by assumption : VLR S _ _))) eU5 (by omega) (fun b => by first | omega | (rw [FRR hFU4 rfl]; omega) | (rw [FRR hFU4 rfl, show Xi U4 904 8 = Xi S 904 8 by omega]; omega))
      refine y_goto rfl rfl ?_
      refine y_return rfl rfl ?_
      have w33 : Xi U5 904 65 = Xi S 904 65 := (show Xi U5 904 65 = Xi U4 904 65 from by rw [eU5]; exact Xi_ne (by omega)).trans ((show Xi U4 904 65 = Xi S 904 65 from by rw [eU4]; exact Xi_ne (by omega)))
      have w34 : Xi U5 904 66 = Xi S 904 66 := (show Xi U5 904 66 = Xi U4 904 66 from by rw [eU5]; exact Xi_ne (by omega)).trans ((show Xi U4 904 66 = Xi S 904 66 from by rw [eU4]; exact Xi_ne (by omega)))
      have w35 : Xi U5 904 77 = Xi U4 904 77 := (show Xi U5 904 77 = Xi U4 904 77 from by rw [eU5]; exact Xi_ne (by omega))
      exact ⟨hHU5, hFU5, rfl, (by first | exact cu_st (by omega) (by omega) (by assumption) (by rw [gBe_1 (by omega)]; exact pe rfl (by omega)) | exact cu_od gp42 (fun b => gBe_0 (by omega) (by omega))), (by first | (intro _; omega) | (intro q; exfalso; omega)), (by omega), (by first | assumption | exact (by assumption : JR U5 _ _))⟩
def md_mo_oneOrVarious__p : List rec := [(904, 905, 8, 9), (904, 905, 65, 66), (904, 905, 66, 67)]
abbrev Q_mo_oneOrVarious__p (S : sS) (fs : Nat) (ns : Nat) : pst := fun r S1 => RI S1 ∧ FR md_mo_oneOrVarious__p S S1 ∧ (∃ z : Int, r = some (iv z) ∧ (0 ≤ z ∧ z ≤ 1) ∧ (gSq (cu S fs) (gHow (tR S fs ns)) = cu S1 fs) ∧ (Xi S1 904 65 = 0 → (z = 1 ↔ tR S fs ns (Xi S 904 8 - fs) = 22)) ∧ (Xi S1 904 65 = 0 → Xi S 904 65 = 0 ∧ Xi S 904 8 ≤ Xi S1 904 8) ∧ (JR S1 fs ns))
set_option maxRecDepth 100000 in
theorem t_mo_oneOrVarious__p {S : sS} (hH : RI S) (fs : Nat) (ns : Nat) (hvl : VLR S fs ns) (hJR : JR S fs ns) (d : Nat) : Mp lay0 (d + 2) m_mo_oneOrVarious [.ref 904] S (Q_mo_oneOrVarious__p S fs ns) := by
  refine Mp_R rfl rfl (fun fu => ?_)
  have hF : FR md_mo_oneOrVarious__p S S := FR.rf
  have w1 : -2147483648 ≤ Xi S 904 65 ∧ Xi S 904 65 ≤ 2147483647 := Xi_rgI
  have w2 : -2147483648 ≤ Xi S 904 66 ∧ Xi S 904 66 ≤ 2147483647 := Xi_rgI
  have w3 : -2147483648 ≤ Xi S 904 8 ∧ Xi S 904 8 ≤ 2147483647 := Xi_rgI
  have : Xi S 904 65 = 0 → (fs : Int) ≤ Xi S 904 8 ∧ Xi S 904 8 ≤ fs + ns := JR.i (by assumption)
  have hbd := hvl.2.2.2
  refine y_aload_n rfl rfl ?_
  refine y_bipush rfl rfl ?_
  refine y_callV rfl rfl rfl (t_mo_isNext__p hH fs ns 122 ⟨by omega, by omega⟩ (by first | assumption | exact (VLR_FR hF rfl (by assumption : VLR S _ _))) (by first | assumption | exact JR.i (by first | assumption | exact (by assumption : JR S _ _))) (rfl) _) ?_
  rintro _ _ ⟨rfl, z5, rfl, w5, w4⟩
  show Pl _ _ _ _ _ _ [iv z5] _ _
  have gb3 := w4
  try rw [show un7 122 = 22 from rfl] at gb3
  refine y_istore_n rfl rfl rfl ?_
  refine y_iload_n rfl rfl ?_
  refine y_if_ne rfl rfl (by unfold rg; omega) (fun w6 => ?_) (fun w7 => ?_)
  · refine y_aload_n rfl rfl ?_
    refine y_dup rfl rfl ?_
    refine y_gfi rfl rfl rfl rfl rfl ?_
    refine y_iconst rfl ?_
    refine y_iadd rfl ?_
    refine y_pfi rfl rfl rfl rfl ?_
    obtain ⟨U1, eU1⟩ : ∃ T : sS, T = uI S 904 8 (Int32.ofInt ((Xi S 904 8) + 1)) := ⟨_, rfl⟩
    rw [← eU1]
    have hHU1 : RI U1 := by rw [eU1]; exact RI_w hH
    have hFU1 : FR md_mo_oneOrVarious__p S U1 := by rw [eU1]; exact FR.wI hF (mdf_i (r := (904, 905, 8, 9)) (List.mem_of_getElem? (i := 0) rfl) (inR_i (by omega) (by omega) (by omega) (by omega)))
    have b31_ : Xi U1 904 65 = Xi S 904 65 := (by rw [eU1, Xi_ne (by omega)]); have J31 : JR U1 fs ns := by first | exact jr_up (by assumption : JR S _ _) (VLR_FR hF rfl (by assumption : VLR S _ _)) eU1 (by omega) (fun b => by omega) | exact jr_bad (by rw [eU1, Xi_ne (by omega)]; omega)
    have o31 : Xi S 904 65 ≠ 0 → cu S fs = cu U1 fs := fun b => by rw [cu_bad b, cu_bad (S := U1) (by rw [eU1, Xi_ne (by omega)]; exact b)]; rw [eU1, Xi_ne (by omega)]
    have x31 : Xi S 904 65 = 0 → Xi U1 904 8 = Xi S 904 8 + 1 := fun b => by rw [eU1]; exact (Xi_same (by unfold rg; omega)).trans (by omega)
    refine y_iload_n rfl rfl ?_
    refine y_ireturn rfl (retI_z (by omega)) ?_
    have w8 : Xi U1 904 65 = Xi S 904 65 := (show Xi U1 904 65 = Xi S 904 65 from by rw [eU1]; exact Xi_ne (by omega))
    have w9 : Xi U1 904 66 = Xi S 904 66 := (show Xi U1 904 66 = Xi S 904 66 from by rw [eU1]; exact Xi_ne (by omega))
    exact ⟨hHU1, hFU1, _, rfl, ⟨by omega, by omega⟩, (by first | exact cu_st (by omega) (by omega) (x31 (by omega)) (by rw [gHow_1 (by omega)]; exact pe rfl (by omega)) | (rw [← o31 (by omega)]; exact cu_od gp21 (fun b => gHow_0 (by omega) (by omega)))), (by first | (intro _; omega) | (intro q; exfalso; omega)), (by omega), (J31)⟩
  · refine y_aload_n rfl rfl ?_
    refine y_bipush rfl rfl ?_
    refine y_callV rfl rfl rfl (t_mo_isNext__p hH fs ns 123 ⟨by omega, by omega⟩ (by first | assumption | exact (VLR_FR hF rfl (by assumption : VLR S _ _))) (by first | assumption | exact JR.i (by first | assumption | exact (by assumption : JR S _ _))) (rfl) _) ?_
    rintro _ _ ⟨rfl, z11, rfl, w11, w10⟩
    show Pl _ _ _ _ _ _ [iv z11] _ _
    have gb14 := w10
    try rw [show un7 123 = 23 from rfl] at gb14
    refine y_if_ne rfl rfl (by unfold rg; omega) (fun w12 => ?_) (fun w13 => ?_)
    · refine y_aload_n rfl rfl ?_
      refine y_dup rfl rfl ?_
      refine y_gfi rfl rfl rfl rfl rfl ?_
      refine y_iconst rfl ?_
      refine y_iadd rfl ?_
      refine y_pfi rfl rfl rfl rfl ?_
      obtain ⟨U2, eU2⟩ : ∃ T : sS, T = uI S 904 8 (Int32.ofInt ((Xi S 904 8) + 1)) := ⟨_, rfl⟩
      rw [← eU2]
      have hHU2 : RI U2 := by rw [eU2]; exact RI_w hH
      have hFU2 : FR md_mo_oneOrVarious__p S U2 := by rw [eU2]; exact FR.wI hF (mdf_i (r := (904, 905, 8, 9)) (List.mem_of_getElem? (i := 0) rfl) (inR_i (by omega) (by omega) (by omega) (by omega)))
      have b31_ : Xi U2 904 65 = Xi S 904 65 := (by rw [eU2, Xi_ne (by omega)]); have J31 : JR U2 fs ns := by first | exact jr_up (by assumption : JR S _ _) (VLR_FR hF rfl (by assumption : VLR S _ _)) eU2 (by omega) (fun b => by omega) | exact jr_bad (by rw [eU2, Xi_ne (by omega)]; omega)
      have o31 : Xi S 904 65 ≠ 0 → cu S fs = cu U2 fs := fun b => by rw [cu_bad b, cu_bad (S := U2) (by rw [eU2, Xi_ne (by omega)]; exact b)]; rw [eU2, Xi_ne (by omega)]
      have x31 : Xi S 904 65 = 0 → Xi U2 904 8 = Xi S 904 8 + 1 := fun b => by rw [eU2]; exact (Xi_same (by unfold rg; omega)).trans (by omega)
      refine y_iload_n rfl rfl ?_
      refine y_ireturn rfl (retI_z (by omega)) ?_
      have w14 : Xi U2 904 65 = Xi S 904 65 := (show Xi U2 904 65 = Xi S 904 65 from by rw [eU2]; exact Xi_ne (by omega))
      have w15 : Xi U2 904 66 = Xi S 904 66 := (show Xi U2 904 66 = Xi S 904 66 from by rw [eU2]; exact Xi_ne (by omega))
      exact ⟨hHU2, hFU2, _, rfl, ⟨by omega, by omega⟩, (by first | exact cu_st (by omega) (by omega) (x31 (by omega)) (by rw [gHow_1 (by omega)]; exact pe rfl (by omega)) | (rw [← o31 (by omega)]; exact cu_od gp21 (fun b => gHow_0 (by omega) (by omega)))), (by first | (intro _; omega) | (intro q; exfalso; omega)), (by omega), (J31)⟩
    · refine y_aload_n rfl rfl ?_
      refine y_callV rfl rfl rfl (t_mo_odd__p hH fs ns _) ?_
      rintro _ T3 ⟨hHT3, w20, rfl, w16, w17, w18⟩
      have hFT3 : FR md_mo_oneOrVarious__p S T3 := FR.tr hF w20 rfl
      show Pl _ _ _ _ _ _ [] _ _
      have gp21 := w16
      refine y_aload_n rfl rfl ?_
      refine y_dup rfl rfl ?_
      refine y_gfi rfl rfl rfl rfl rfl ?_
      have w21 : (Xi T3 904 8) = (Xi S 904 8) := (show Xi T3 904 8 = Xi S 904 8 from w20.x _ _ rfl)
      rw [w21]
      refine y_iconst rfl ?_
      refine y_iadd rfl ?_
      refine y_pfi rfl rfl rfl rfl ?_
      obtain ⟨U4, eU4⟩ : ∃ T : sS, T = uI T3 904 8 (Int32.ofInt ((Xi S 904 8) + 1)) := ⟨_, rfl⟩
      rw [← eU4]
      have hHU4 : RI U4 := by rw [eU4]; exact RI_w hHT3
      have hFU4 : FR md_mo_oneOrVarious__p S U4 := by rw [eU4]; exact FR.wI hFT3 (mdf_i (r := (904, 905, 8, 9)) (List.mem_of_getElem? (i := 0) rfl) (inR_i (by omega) (by omega) (by omega) (by omega)))
      have b31_ : Xi U4 904 65 = Xi T3 904 65 := (by rw [eU4, Xi_ne (by omega)]); have J31 : JR U4 fs ns := by first | exact jr_up (by assumption : JR T3 _ _) (VLR_FR hFT3 rfl (by assumption : VLR S _ _)) eU4 (by omega) (fun b => by omega) | exact jr_bad (by rw [eU4, Xi_ne (by omega)]; omega)
      have o31 : Xi T3 904 65 ≠ 0 → cu T3 fs = cu U4 fs := fun b => by rw [cu_bad b, cu_bad (S := U4) (by rw [eU4, Xi_ne (by omega)]; exact b)]; rw [eU4, Xi_ne (by omega)]
      have x31 : Xi T3 904 65 = 0 → Xi U4 904 8 = Xi T3 904 8 + 1 := fun b => by rw [eU4]; exact (Xi_same (by unfold rg; omega)).trans (by omega)
      refine y_iload_n rfl rfl ?_
      refine y_ireturn rfl (retI_z (by omega)) ?_
      have w22 : Xi U4 904 65 = Xi T3 904 65 := (show Xi U4 904 65 = Xi T3 904 65 from by rw [eU4]; exact Xi_ne (by omega))
      have w23 : Xi U4 904 66 = Xi T3 904 66 := (show Xi U4 904 66 = Xi T3 904 66 from by rw [eU4]; exact Xi_ne (by omega))
      exact ⟨hHU4, hFU4, _, rfl, ⟨by omega, by omega⟩, (by first | exact cu_st (by omega) (by omega) (x31 (by omega)) (by rw [gHow_1 (by omega)]; exact pe rfl (by omega)) | (rw [← o31 (by omega)]; exact cu_od gp21 (fun b => gHow_0 (by omega) (by omega)))), (by first | (intro _; omega) | (intro q; exfalso; omega)), (by omega), (J31)⟩
def md_mo_run__p : List rec := [(904, 905, 8, 9), (904, 905, 65, 66), (904, 905, 66, 67), (904, 905, 69, 70), (950, 951, 0, 100000), (951, 952, 0, 100000)]
abbrev Q_mo_run__p (S : sS) (fs : Nat) (ns : Nat) : pst := fun r S1 => RI S1 ∧ FR md_mo_run__p S S1 ∧ (∃ z : Int, r = some (iv z) ∧ (-2147483648 ≤ z ∧ z ≤ 2147483647) ∧ (gSq (cu S fs) (gR (tR S fs ns)) = cu S1 fs) ∧ (Xi S1 904 65 = 0 → z = Xi S 904 69 ∧ Xi S1 904 69 = Xi S 904 69 + 1 ∧ Xi S1 950 z.toNat - fs = Xi S 904 8 - fs ∧ Xi S1 951 z.toNat = re7 (tR S fs ns) (Xi S 904 8 - fs) - (Xi S 904 8 - fs)) ∧ (Xi S 904 69 ≤ Xi S1 904 69) ∧ (∀ r : Nat, (r : Int) < Xi S 904 69 → Xi S1 950 r = Xi S 950 r ∧ Xi S1 951 r = Xi S 951 r) ∧ (Xi S1 904 65 = 0 → Xi S 904 65 = 0 ∧ Xi S 904 8 ≤ Xi S1 904 8) ∧ (JR S1 fs ns))
set_option maxRecDepth 100000 in
theorem t_mo_run__p {S : sS} (hH : RI S) (fs : Nat) (ns : Nat) (hvl : VLR S fs ns) (hJR : JR S fs ns) (d : Nat) : Mp lay0 (d + 2) m_mo_run [.ref 904] S (Q_mo_run__p S fs ns) := by
  refine Mp_R rfl rfl (fun fu => ?_)
  have hF : FR md_mo_run__p S S := FR.rf
  have w1 : -2147483648 ≤ Xi S 904 65 ∧ Xi S 904 65 ≤ 2147483647 := Xi_rgI
  have w2 : -2147483648 ≤ Xi S 904 66 ∧ Xi S 904 66 ≤ 2147483647 := Xi_rgI
  have w3 : -2147483648 ≤ Xi S 904 69 ∧ Xi S 904 69 ≤ 2147483647 := Xi_rgI
  have w4 : -2147483648 ≤ Xi S 904 8 ∧ Xi S 904 8 ≤ 2147483647 := Xi_rgI
  have : Xi S 904 65 = 0 → (fs : Int) ≤ Xi S 904 8 ∧ Xi S 904 8 ≤ fs + ns := JR.i (by assumption)
  have hbd := hvl.2.2.2
  have C27 : ∀ (n27 : Nat) (_ : n27 ≤ fu) (T1 : sS) (_ : RI T1) (_ : FR md_mo_run__p S T1), (Xi T1 904 65 = 0) → (Xi S 904 65 = 0) → (Xi T1 904 69 = Xi S 904 69) → (Xi S 904 8 ≤ Xi T1 904 8) → (0 ≤ Xi S 904 69) → (Xi T1 950 (Xi S 904 69).toNat = Xi S 904 8) → (∀ r : Nat, (r : Int) < Xi S 904 69 → Xi T1 950 r = Xi S 950 r) → (∀ r, Xi T1 951 r = Xi S 951 r) → (re7 (tR S fs ns) (Xi S 904 8 - fs) = reF (tR S fs ns) (5131 - (Xi T1 904 8 - fs - (Xi S 904 8 - fs))).toNat (Xi T1 904 8 - fs)) → ((fs : Int) ≤ Xi T1 904 8 ∧ Xi T1 904 8 ≤ fs + ns) → (tR S fs ns (Xi S 904 8 - fs) = 100) → Pl n27 lay0 (d + 1) m_mo_run 27 [(0, .ref 904)] [] T1 (Q_mo_run__p S fs ns) := by
    intro n27
    induction n27 with
    | zero => intros; exact Pl_0
    | succ n27 ih27 =>
      intro hm27 T1 hHT1 hFT1 w5 w6 w7 w8 z27 f27 k27 l27 R27 I27 H27
      have w9 : -2147483648 ≤ Xi T1 904 65 ∧ Xi T1 904 65 ≤ 2147483647 := Xi_rgI
      have w10 : -2147483648 ≤ Xi T1 904 66 ∧ Xi T1 904 66 ≤ 2147483647 := Xi_rgI
      have w11 : -2147483648 ≤ Xi T1 904 69 ∧ Xi T1 904 69 ≤ 2147483647 := Xi_rgI
      have w12 : -2147483648 ≤ Xi T1 904 8 ∧ Xi T1 904 8 ≤ 2147483647 := Xi_rgI
      refine ys_aload_n rfl rfl ?_
      refine y_gfr rfl rfl rfl rfl rfl (hHT1.r 904 4 907 rfl) ?_
      refine y_aload_n rfl rfl ?_
      refine y_gfi rfl rfl rfl rfl rfl ?_
      refine y_ialoadP (n := 5002) rfl rfl (by unfold rg; omega) (fun w13 w14 => ?_)
      have w15 : -2147483648 ≤ (Xi T1 907 (((Xi T1 904 8)).toNat)) ∧ (Xi T1 907 (((Xi T1 904 8)).toNat)) ≤ 2147483647 := Xi_rgI
      have e35 : (Xi T1 907 (((Xi T1 904 8)).toNat)) = Xi S 907 (Xi T1 904 8).toNat := by first | exact (hFT1.cx 907 rfl _).1 | rfl
      have T35 := tR_3 (z := (Xi T1 907 (((Xi T1 904 8)).toNat))) hvl I27.1 I27.2 e35.symm
      refine y_iconst rfl ?_
      refine y_icmp_ne rfl rfl (by unfold rg; omega) (by unfold rg; omega) (fun w16 => ?_) (fun w17 => ?_)
      · refine y_aload_n rfl rfl ?_
        refine y_gfr rfl rfl rfl rfl rfl (hHT1.r 904 68 951 rfl) ?_
        refine y_aload_n rfl rfl ?_
        refine y_gfi rfl rfl rfl rfl rfl ?_
        refine y_aload_n rfl rfl ?_
        refine y_gfi rfl rfl rfl rfl rfl ?_
        refine y_aload_n rfl rfl ?_
        refine y_gfr rfl rfl rfl rfl rfl (hHT1.r 904 67 950 rfl) ?_
        refine y_aload_n rfl rfl ?_
        refine y_gfi rfl rfl rfl rfl rfl ?_
        refine y_ialoadP (n := 2600) rfl rfl (by unfold rg; omega) (fun w18 w19 => ?_)
        have w20 : -2147483648 ≤ (Xi T1 950 (((Xi T1 904 69)).toNat)) ∧ (Xi T1 950 (((Xi T1 904 69)).toNat)) ≤ 2147483647 := Xi_rgI
        have e73 : (Xi T1 950 (((Xi T1 904 69)).toNat)) = Xi T1 950 (Xi S 904 69).toNat := congrArg (fun t : Int => Xi T1 950 t.toNat) (by omega)
        refine y_isub rfl ?_
        refine y_iastoreP (n := 2600) rfl rfl (by unfold rg; omega) (fun w21 w22 => ?_)
        obtain ⟨U2, eU2⟩ : ∃ T : sS, T = uI T1 951 (((Xi T1 904 69)).toNat) (Int32.ofInt ((Xi T1 904 8) - (Xi T1 950 (((Xi T1 904 69)).toNat)))) := ⟨_, rfl⟩
        rw [← eU2]
        have hHU2 : RI U2 := by rw [eU2]; exact RI_w hHT1
        have hFU2 : FR md_mo_run__p S U2 := by rw [eU2]; exact FR.wI hFT1 (mdf_i (r := (951, 952, 0, 100000)) (List.mem_of_getElem? (i := 5) rfl) (inR_i (by omega) (by omega) (by omega) (by omega)))
        have w23 : Xi U2 951 (((Xi T1 904 69)).toNat) = ((Xi T1 904 8) - (Xi T1 950 (((Xi T1 904 69)).toNat))) := by rw [eU2]; exact Xi_same (by unfold rg; omega)
        refine y_aload_n rfl rfl ?_
        refine y_dup rfl rfl ?_
        refine y_gfi rfl rfl rfl rfl rfl ?_
        have w24 : (Xi U2 904 69) = (Xi T1 904 69) := (show Xi U2 904 69 = Xi T1 904 69 from by rw [eU2]; exact Xi_ne (by omega))
        rw [w24]
        refine y_iconst rfl ?_
        refine y_iadd rfl ?_
        refine y_pfi rfl rfl rfl rfl ?_
        obtain ⟨U3, eU3⟩ : ∃ T : sS, T = uI U2 904 69 (Int32.ofInt ((Xi T1 904 69) + 1)) := ⟨_, rfl⟩
        rw [← eU3]
        have hHU3 : RI U3 := by rw [eU3]; exact RI_w hHU2
        have hFU3 : FR md_mo_run__p S U3 := by rw [eU3]; exact FR.wI hFU2 (mdf_i (r := (904, 905, 69, 70)) (List.mem_of_getElem? (i := 3) rfl) (inR_i (by omega) (by omega) (by omega) (by omega)))
        have w25 : Xi U3 904 69 = ((Xi T1 904 69) + 1) := by rw [eU3]; exact Xi_same (by unfold rg; omega)
        have x83 : Xi U3 904 8 = Xi T1 904 8 := by rw [eU3, Xi_ne (by omega), eU2, Xi_ne (by omega)]
        have F83 : Xi U3 950 (Xi S 904 69).toNat = Xi S 904 8 ∧ Xi U3 951 (Xi S 904 69).toNat = Xi U3 904 8 - Xi S 904 8 := ⟨by rw [eU3, Xi_ne (by omega), eU2, Xi_ne (by omega)]; exact f27, by rw [x83, eU3, Xi_ne (by omega), eU2, show (Xi S 904 69).toNat = (Xi T1 904 69).toNat by omega]; refine (Xi_same (by unfold rg; omega)).trans ?_; omega⟩
        have K83 : ∀ r : Nat, (r : Int) < Xi S 904 69 → Xi U3 950 r = Xi S 950 r ∧ Xi U3 951 r = Xi S 951 r := fun r hr => ⟨by rw [eU3, Xi_ne (by omega), eU2, Xi_ne (by omega)]; exact k27 r hr, by rw [eU3, Xi_ne (by omega), eU2, Xi_ne (by omega)]; exact l27 r⟩
        have J83 : JR U3 fs ns := jr_run hJR hvl (by omega) H27 (by have u := R27.trans (reF_n (T35.2 (by omega))); omega) (by omega) z27 (by omega) (hFU3.x 904 93 rfl) (FRR hFU3 rfl) F83.1 F83.2 K83
        refine y_aload_n rfl rfl ?_
        refine y_gfi rfl rfl rfl rfl rfl ?_
        refine y_iconst rfl ?_
        refine y_isub rfl ?_
        refine y_ireturn rfl rfl ?_
        have w26 : Xi U3 904 65 = Xi T1 904 65 := (show Xi U3 904 65 = Xi U2 904 65 from by rw [eU3]; exact Xi_ne (by omega)).trans ((show Xi U2 904 65 = Xi T1 904 65 from by rw [eU2]; exact Xi_ne (by omega)))
        have w27 : Xi U3 904 66 = Xi T1 904 66 := (show Xi U3 904 66 = Xi U2 904 66 from by rw [eU3]; exact Xi_ne (by omega)).trans ((show Xi U2 904 66 = Xi T1 904 66 from by rw [eU2]; exact Xi_ne (by omega)))
        have w28 : Xi U3 904 8 = Xi T1 904 8 := (show Xi U3 904 8 = Xi U2 904 8 from by rw [eU3]; exact Xi_ne (by omega)).trans ((show Xi U2 904 8 = Xi T1 904 8 from by rw [eU2]; exact Xi_ne (by omega)))
        exact ⟨hHU3, hFU3, _, rfl, ⟨by omega, by omega⟩, (by first | exact cu_od gp9 (fun b => gR_0 (by omega)) | exact cu_st (by omega) (by omega) rfl (gR_1 H27 (by have t := R27.trans (reF_n (T35.2 (by omega))); omega))), (by first | (intro q; exfalso; omega) | (intro _; exact ⟨by omega, by omega, by rw [show ((Xi U3 904 69) - 1) = Xi S 904 69 by omega]; have t := F83; omega, by rw [show ((Xi U3 904 69) - 1) = Xi S 904 69 by omega]; have t := F83; have u := R27.trans (reF_n (T35.2 (by omega))); omega⟩)), (by omega), (by first | exact K83 | exact (fun r _ => ⟨((by assumption : FR md_mo_odd__p U2 U3).cx 950 rfl r).1, ((by assumption : FR md_mo_odd__p U2 U3).cx 951 rfl r).1⟩)), (by omega), (by first | assumption | exact (by assumption : JR U3 _ _))⟩
      · refine y_aload_n rfl rfl ?_
        refine y_dup rfl rfl ?_
        refine y_gfi rfl rfl rfl rfl rfl ?_
        refine y_iconst rfl ?_
        refine y_iadd rfl ?_
        refine y_pfi rfl rfl rfl rfl ?_
        obtain ⟨U4, eU4⟩ : ∃ T : sS, T = uI T1 904 8 (Int32.ofInt ((Xi T1 904 8) + 1)) := ⟨_, rfl⟩
        rw [← eU4]
        have hHU4 : RI U4 := by rw [eU4]; exact RI_w hHT1
        have hFU4 : FR md_mo_run__p S U4 := by rw [eU4]; exact FR.wI hFT1 (mdf_i (r := (904, 905, 8, 9)) (List.mem_of_getElem? (i := 0) rfl) (inR_i (by omega) (by omega) (by omega) (by omega)))
        have w29 : Xi U4 904 8 = ((Xi T1 904 8) + 1) := by rw [eU4]; exact Xi_same (by unfold rg; omega)
        have k47 : ∀ r : Nat, (r : Int) < Xi S 904 69 → Xi U4 950 r = Xi S 950 r := fun r hr => by rw [eU4, Xi_ne (by omega)]; exact k27 r hr
        have l47 : ∀ r, Xi U4 951 r = Xi S 951 r := fun r => by rw [eU4, Xi_ne (by omega)]; exact l27 r
        have f47 : Xi U4 950 (Xi S 904 69).toNat = Xi S 904 8 := by rw [eU4, Xi_ne (by omega)]; exact f27
        refine y_goto rfl rfl ?_
        have w30 : Xi U4 904 65 = Xi T1 904 65 := (show Xi U4 904 65 = Xi T1 904 65 from by rw [eU4]; exact Xi_ne (by omega))
        have w31 : Xi U4 904 66 = Xi T1 904 66 := (show Xi U4 904 66 = Xi T1 904 66 from by rw [eU4]; exact Xi_ne (by omega))
        have w32 : Xi U4 904 69 = Xi T1 904 69 := (show Xi U4 904 69 = Xi T1 904 69 from by rw [eU4]; exact Xi_ne (by omega))
        exact Pl_weak (ih27 (by omega) U4 hHU4 hFU4  (by omega) (by omega) (by omega) (by omega) (by first | exact z27 | omega) (by first | exact f47 | (rw [eU1]; exact Xi_same (by unfold rg; omega)) | assumption) (by first | exact k47 | exact k26) (by first | exact l47 | exact l26) (by first | (rw [show Xi U4 904 8 = Xi S 904 8 by omega]; exact re7_0) | (rw [show Xi U4 904 8 - fs = Xi T1 904 8 - fs + 1 by omega]; exact R27.trans (reF_s (by have := hvl.2.2.2; omega) (by omega) (T35.1 (by omega))))) (by first | (have t := hJR.i (by omega); exact ⟨by omega, by omega⟩) | (have t := in_u2 hvl I27.1 I27.2 (by have u := T35.1 (by omega); omega) (by have u := T35.1 (by omega); omega); exact ⟨by omega, by omega⟩)) (by first | exact H27 | omega)) (by omega) (And.intro rfl (True.intro))
  refine y_aload_n rfl rfl ?_
  refine y_iconst rfl ?_
  refine y_callV rfl rfl rfl (t_mo_isNext__p hH fs ns 3 ⟨by omega, by omega⟩ (by first | assumption | exact (VLR_FR hF rfl (by assumption : VLR S _ _))) (by first | assumption | exact JR.i (by first | assumption | exact (by assumption : JR S _ _))) (rfl) _) ?_
  rintro _ _ ⟨rfl, z34, rfl, w34, w33⟩
  show Pl _ _ _ _ _ _ [iv z34] _ _
  have gb2 := w33
  try rw [show un7 3 = 100 from rfl] at gb2
  refine y_if_ne rfl rfl (by unfold rg; omega) (fun w35 => ?_) (fun w36 => ?_)
  · refine y_aload_n rfl rfl ?_
    refine y_gfr rfl rfl rfl rfl rfl (hH.r 904 67 950 rfl) ?_
    refine y_aload_n rfl rfl ?_
    refine y_gfi rfl rfl rfl rfl rfl ?_
    refine y_aload_n rfl rfl ?_
    refine y_gfi rfl rfl rfl rfl rfl ?_
    refine y_iastoreP (n := 2600) rfl rfl (by unfold rg; omega) (fun w37 w38 => ?_)
    obtain ⟨U5, eU5⟩ : ∃ T : sS, T = uI S 950 (((Xi S 904 69)).toNat) (Int32.ofInt (Xi S 904 8)) := ⟨_, rfl⟩
    rw [← eU5]
    have hHU5 : RI U5 := by rw [eU5]; exact RI_w hH
    have hFU5 : FR md_mo_run__p S U5 := by rw [eU5]; exact FR.wI hF (mdf_i (r := (950, 951, 0, 100000)) (List.mem_of_getElem? (i := 4) rfl) (inR_i (by omega) (by omega) (by omega) (by omega)))
    have w39 : Xi U5 950 (((Xi S 904 69)).toNat) = (Xi S 904 8) := by rw [eU5]; exact Xi_same (by unfold rg; omega)
    have k26 : ∀ r : Nat, (r : Int) < Xi S 904 69 → Xi U5 950 r = Xi S 950 r := fun r hr => by rw [eU5, Xi_ne (by omega)]
    have l26 : ∀ r, Xi U5 951 r = Xi S 951 r := fun r => by rw [eU5, Xi_ne (by omega)]
    have w40 : Xi U5 904 65 = Xi S 904 65 := (show Xi U5 904 65 = Xi S 904 65 from by rw [eU5]; exact Xi_ne (by omega))
    have w41 : Xi U5 904 66 = Xi S 904 66 := (show Xi U5 904 66 = Xi S 904 66 from by rw [eU5]; exact Xi_ne (by omega))
    have w42 : Xi U5 904 69 = Xi S 904 69 := (show Xi U5 904 69 = Xi S 904 69 from by rw [eU5]; exact Xi_ne (by omega))
    have w43 : Xi U5 904 8 = Xi S 904 8 := (show Xi U5 904 8 = Xi S 904 8 from by rw [eU5]; exact Xi_ne (by omega))
    exact Pl_weak (C27 fu (by omega) U5 hHU5 hFU5  (by omega) (by omega) (by omega) (by omega) (by first | exact z27 | omega) (by first | exact f47 | (rw [eU1]; exact Xi_same (by unfold rg; omega)) | assumption) (by first | exact k47 | exact k26) (by first | exact l47 | exact l26) (by first | (rw [show Xi U5 904 8 = Xi S 904 8 by omega]; exact re7_0) | (rw [show Xi U5 904 8 - fs = Xi S 904 8 - fs + 1 by omega]; exact R27.trans (reF_s (by have := hvl.2.2.2; omega) (by omega) (T35.1 (by omega))))) (by first | (have t := hJR.i (by omega); exact ⟨by omega, by omega⟩) | (have t := in_u2 hvl I27.1 I27.2 (by have u := T35.1 (by omega); omega) (by have u := T35.1 (by omega); omega); exact ⟨by omega, by omega⟩)) (by first | exact H27 | omega)) (by omega) (And.intro rfl (True.intro))
  · refine y_aload_n rfl rfl ?_
    refine y_callV rfl rfl rfl (t_mo_odd__p hH fs ns _) ?_
    rintro _ T6 ⟨hHT6, w48, rfl, w44, w45, w46⟩
    have hFT6 : FR md_mo_run__p S T6 := FR.tr hF w48 rfl
    show Pl _ _ _ _ _ _ [] _ _
    have gp9 := w44
    refine y_iconst rfl ?_
    refine y_ireturn rfl rfl ?_
    have w49 : Xi T6 904 69 = Xi S 904 69 := (show Xi T6 904 69 = Xi S 904 69 from w48.x _ _ rfl)
    have w50 : Xi T6 904 8 = Xi S 904 8 := (show Xi T6 904 8 = Xi S 904 8 from w48.x _ _ rfl)
    exact ⟨hHT6, hFT6, _, rfl, ⟨by omega, by omega⟩, (by first | exact cu_od gp9 (fun b => gR_0 (by omega)) | exact cu_st (by omega) (by omega) rfl (gR_1 H27 (by have t := R27.trans (reF_n (T35.2 (by omega))); omega))), (by first | (intro q; exfalso; omega) | (intro _; exact ⟨by omega, by omega, by rw [show 0 = Xi S 904 69 by omega]; have t := F83; omega, by rw [show 0 = Xi S 904 69 by omega]; have t := F83; have u := R27.trans (reF_n (T35.2 (by omega))); omega⟩)), (by omega), (by first | exact K83 | exact (fun r _ => ⟨((by assumption : FR md_mo_odd__p S T6).cx 950 rfl r).1, ((by assumption : FR md_mo_odd__p S T6).cx 951 rfl r).1⟩)), (by omega), (by first | assumption | exact (by assumption : JR T6 _ _))⟩
def md_mo_name__p : List rec := [(904, 905, 8, 9), (904, 905, 65, 66), (904, 905, 66, 67), (904, 905, 69, 70), (950, 951, 0, 100000), (951, 952, 0, 100000)]
abbrev Q_mo_name__p (S : sS) (fs : Nat) (ns : Nat) : pst := fun r S1 => RI S1 ∧ FR md_mo_name__p S S1 ∧ (∃ z : Int, r = some (iv z) ∧ (-2147483648 ≤ z ∧ z ≤ 2147483647) ∧ (gSq (cu S fs) (gN (tR S fs ns)) = cu S1 fs) ∧ (Xi S1 904 65 = 0 → z = Xi S 904 69 ∧ Xi S1 904 69 = Xi S 904 69 + 1 ∧ Xi S1 950 z.toNat - fs = bA (tR S fs ns) (Xi S 904 8 - fs) ∧ Xi S1 951 z.toNat = re7 (tR S fs ns) (bA (tR S fs ns) (Xi S 904 8 - fs)) - (bA (tR S fs ns) (Xi S 904 8 - fs))) ∧ (Xi S 904 69 ≤ Xi S1 904 69) ∧ (∀ r : Nat, (r : Int) < Xi S 904 69 → Xi S1 950 r = Xi S 950 r ∧ Xi S1 951 r = Xi S 951 r) ∧ (Xi S1 904 65 = 0 → Xi S 904 65 = 0 ∧ Xi S 904 8 ≤ Xi S1 904 8) ∧ (JR S1 fs ns))
set_option maxRecDepth 100000 in
theorem t_mo_name__p {S : sS} (hH : RI S) (fs : Nat) (ns : Nat) (hvl : VLR S fs ns) (hJR : JR S fs ns) (d : Nat) : Mp lay0 (d + 3) m_mo_name [.ref 904] S (Q_mo_name__p S fs ns) := by
  refine Mp_R rfl rfl (fun fu => ?_)
  have hF : FR md_mo_name__p S S := FR.rf
  have w1 : -2147483648 ≤ Xi S 904 65 ∧ Xi S 904 65 ≤ 2147483647 := Xi_rgI
  have w2 : -2147483648 ≤ Xi S 904 66 ∧ Xi S 904 66 ≤ 2147483647 := Xi_rgI
  have w3 : -2147483648 ≤ Xi S 904 69 ∧ Xi S 904 69 ≤ 2147483647 := Xi_rgI
  have w4 : -2147483648 ≤ Xi S 904 8 ∧ Xi S 904 8 ≤ 2147483647 := Xi_rgI
  have : Xi S 904 65 = 0 → (fs : Int) ≤ Xi S 904 8 ∧ Xi S 904 8 ≤ fs + ns := JR.i (by assumption)
  have hbd := hvl.2.2.2
  refine y_aload_n rfl rfl ?_
  refine y_callV rfl rfl rfl (t_mo_look__p hH fs ns (by first | assumption | exact (VLR_FR hF rfl (by assumption : VLR S _ _))) (by first | assumption | exact JR.i (by first | assumption | exact (by assumption : JR S _ _))) _) ?_
  rintro _ _ ⟨rfl, z6, rfl, w6, w5⟩
  show Pl _ _ _ _ _ _ [iv z6] _ _
  have := un_ab z6
  have gb1 := w5
  refine y_callS rfl rfl (by decide) rfl (t_mo_isArt__p hH z6 ⟨by omega, by omega⟩ _) ?_
  rintro _ _ ⟨rfl, z9, rfl, w9, w7, w8⟩
  show Pl _ _ _ _ _ _ [iv z9] _ _
  refine y_if_eq rfl rfl (by unfold rg; omega) (fun w10 => ?_) (fun w11 => ?_)
  · refine y_aload_n rfl rfl ?_
    refine y_callV rfl rfl rfl (t_mo_run__p hH fs ns (by first | assumption | exact (VLR_FR hF rfl (by assumption : VLR S _ _))) (by first | assumption | exact (by assumption : JR S _ _)) _) ?_
    rintro _ T1 ⟨hHT1, w17, z16, rfl, w16, w12, r21_, w13, k21, w14, w15⟩
    have hFT1 : FR md_mo_name__p S T1 := FR.tr hF w17 rfl
    show Pl _ _ _ _ _ _ [iv z16] _ _
    have : Xi T1 904 65 = 0 → (fs : Int) ≤ Xi T1 904 8 ∧ Xi T1 904 8 ≤ fs + ns := JR.i (by assumption)
    have gp21 := w12
    have r21 := r21_
    try rw [FRR hF rfl] at r21
    refine y_ireturn rfl rfl ?_
    exact ⟨hHT1, hFT1, _, rfl, ⟨by omega, by omega⟩, (by first | exact gN_of (V := S) (fun b => ⟨by omega, by rw [bA_1 (by omega)]; omega⟩) (fun b => by exfalso; omega) gp21 | exact gN_of (V := S) (fun b => ⟨b, by rw [bA_0 (by omega)]⟩) (fun _ => rfl) gp21), (by first | (intro q; have t := r21 q; rw [show bA (tR S fs ns) (Xi S 904 8 - fs) = Xi S 904 8 - fs by (first | (rw [bA_1 (by omega)]; omega) | (rw [bA_0 (by omega)]) | (rw [bA_0 (by omega)]; omega))]; exact ⟨by omega, by omega, t.2.2.1, t.2.2.2⟩)), (by omega), (fun r hr => by have t := k21 r (by omega); exact ⟨t.1.trans ((fun j => rfl) r), t.2.trans ((fun j => rfl) r)⟩), (by omega), (by first | assumption | exact (by assumption : JR T1 _ _))⟩
  · refine y_aload_n rfl rfl ?_
    refine y_dup rfl rfl ?_
    refine y_gfi rfl rfl rfl rfl rfl ?_
    refine y_iconst rfl ?_
    refine y_iadd rfl ?_
    refine y_pfi rfl rfl rfl rfl ?_
    obtain ⟨U2, eU2⟩ : ∃ T : sS, T = uI S 904 8 (Int32.ofInt ((Xi S 904 8) + 1)) := ⟨_, rfl⟩
    rw [← eU2]
    have hHU2 : RI U2 := by rw [eU2]; exact RI_w hH
    have hFU2 : FR md_mo_name__p S U2 := by rw [eU2]; exact FR.wI hF (mdf_i (r := (904, 905, 8, 9)) (List.mem_of_getElem? (i := 0) rfl) (inR_i (by omega) (by omega) (by omega) (by omega)))
    have w18 : Xi U2 904 8 = ((Xi S 904 8) + 1) := by rw [eU2]; exact Xi_same (by unfold rg; omega)
    have b17_ : Xi U2 904 65 = Xi S 904 65 := (by rw [eU2, Xi_ne (by omega)]); have J17 : JR U2 fs ns := jr_up (by assumption : JR S _ _) ((VLR_FR hF rfl (by assumption : VLR S _ _))) eU2 (by omega) (fun b => by first | omega | (rw [FRR hF rfl]; omega) | (rw [FRR hF rfl, show Xi S 904 8 = Xi S 904 8 by omega]; omega))
    refine y_aload_n rfl rfl ?_
    have w19 : Xi U2 904 65 = Xi S 904 65 := (show Xi U2 904 65 = Xi S 904 65 from by rw [eU2]; exact Xi_ne (by omega))
    have w21 : Xi U2 904 69 = Xi S 904 69 := (show Xi U2 904 69 = Xi S 904 69 from by rw [eU2]; exact Xi_ne (by omega))
    refine y_callV rfl rfl rfl (t_mo_run__p hHU2 fs ns (by first | assumption | exact (VLR_FR hFU2 rfl (by assumption : VLR S _ _))) (by first | assumption | exact (by assumption : JR U2 _ _)) _) ?_
    rintro _ T3 ⟨hHT3, w27, z26, rfl, w26, w22, r21_, w23, k21, w24, w25⟩
    have hFT3 : FR md_mo_name__p S T3 := FR.tr hFU2 w27 rfl
    show Pl _ _ _ _ _ _ [iv z26] _ _
    have : Xi T3 904 65 = 0 → (fs : Int) ≤ Xi T3 904 8 ∧ Xi T3 904 8 ≤ fs + ns := JR.i (by assumption)
    have gp21 := w22
    try rw [FRR hFU2 rfl] at gp21
    have r21 := r21_
    try rw [FRR hFU2 rfl] at r21
    refine y_ireturn rfl rfl ?_
    exact ⟨hHT3, hFT3, _, rfl, ⟨by omega, by omega⟩, (by first | exact gN_of (V := U2) (fun b => ⟨by omega, by rw [bA_1 (by omega)]; omega⟩) (fun b => by exfalso; omega) gp21 | exact gN_of (V := S) (fun b => ⟨b, by rw [bA_0 (by omega)]⟩) (fun _ => rfl) gp21), (by first | (intro q; have t := r21 q; rw [show bA (tR S fs ns) (Xi S 904 8 - fs) = Xi U2 904 8 - fs by (first | (rw [bA_1 (by omega)]; omega) | (rw [bA_0 (by omega)]) | (rw [bA_0 (by omega)]; omega))]; exact ⟨by omega, by omega, t.2.2.1, t.2.2.2⟩)), (by omega), (fun r hr => by have t := k21 r (by omega); exact ⟨t.1.trans ((fun j => ((FR_e eU2).cx 950 rfl j).1) r), t.2.trans ((fun j => ((FR_e eU2).cx 951 rfl j).1) r)⟩), (by omega), (by first | assumption | exact (by assumption : JR T3 _ _))⟩
def md_mo_isMore__p : List rec := [(904, 905, 8, 9)]
abbrev Q_mo_isMore__p (S : sS) (fs : Nat) (ns : Nat) : pst := fun r S1 => RI S1 ∧ FR md_mo_isMore__p S S1 ∧ (∃ z : Int, r = some (iv z) ∧ (0 ≤ z ∧ z ≤ 1) ∧ (Xi S 904 65 = 0 → gBt (tR S fs ns) (Xi S 904 8 - fs) = (z, Xi S1 904 8 - fs)) ∧ (Xi S1 904 65 = Xi S 904 65) ∧ (z = 1 → Xi S 904 65 = 0) ∧ (Xi S 904 65 ≠ 0 → z = 0 ∧ cu S1 fs = cu S fs) ∧ (Xi S1 904 65 = 0 → Xi S 904 65 = 0 ∧ Xi S 904 8 ≤ Xi S1 904 8) ∧ (JR S1 fs ns))
set_option maxRecDepth 100000 in
theorem t_mo_isMore__p {S : sS} (hH : RI S) (fs : Nat) (ns : Nat) (hvl : VLR S fs ns) (hJR : JR S fs ns) (d : Nat) : Mp lay0 (d + 2) m_mo_isMore [.ref 904] S (Q_mo_isMore__p S fs ns) := by
  refine Mp_R rfl rfl (fun fu => ?_)
  have hF : FR md_mo_isMore__p S S := FR.rf
  have w1 : -2147483648 ≤ Xi S 904 65 ∧ Xi S 904 65 ≤ 2147483647 := Xi_rgI
  have w2 : -2147483648 ≤ Xi S 904 66 ∧ Xi S 904 66 ≤ 2147483647 := Xi_rgI
  have w3 : -2147483648 ≤ Xi S 904 8 ∧ Xi S 904 8 ≤ 2147483647 := Xi_rgI
  have : Xi S 904 65 = 0 → (fs : Int) ≤ Xi S 904 8 ∧ Xi S 904 8 ≤ fs + ns := JR.i (by assumption)
  have hbd := hvl.2.2.2
  refine y_aload_n rfl rfl ?_
  refine y_bipush rfl rfl ?_
  refine y_callV rfl rfl rfl (t_mo_isNext__p hH fs ns 44 ⟨by omega, by omega⟩ (by first | assumption | exact (VLR_FR hF rfl (by assumption : VLR S _ _))) (by first | assumption | exact JR.i (by first | assumption | exact (by assumption : JR S _ _))) (rfl) _) ?_
  rintro _ _ ⟨rfl, z5, rfl, w5, w4⟩
  show Pl _ _ _ _ _ _ [iv z5] _ _
  have gb3 := w4
  try rw [show un7 44 = 104 from rfl] at gb3
  refine y_if_eq rfl rfl (by unfold rg; omega) (fun w6 => ?_) (fun w7 => ?_)
  · refine y_aload_n rfl rfl ?_
    refine y_bipush rfl rfl ?_
    refine y_callV rfl rfl rfl (t_mo_isNext__p hH fs ns 116 ⟨by omega, by omega⟩ (by first | assumption | exact (VLR_FR hF rfl (by assumption : VLR S _ _))) (by first | assumption | exact JR.i (by first | assumption | exact (by assumption : JR S _ _))) (rfl) _) ?_
    rintro _ _ ⟨rfl, z9, rfl, w9, w8⟩
    show Pl _ _ _ _ _ _ [iv z9] _ _
    have gb52 := w8
    try rw [show un7 116 = 16 from rfl] at gb52
    refine y_if_eq rfl rfl (by unfold rg; omega) (fun w10 => ?_) (fun w11 => ?_)
    · refine y_iconst rfl ?_
      refine y_ireturn rfl rfl ?_
      exact ⟨hH, hF, _, rfl, ⟨by omega, by omega⟩, (fun b => by first | (rw [gBt_0 (by omega) (by omega)]) | (rw [gBt_a (by omega) (by omega)]; exact pe rfl (by omega)) | (refine gBt_c (by omega) ?_; first | (rw [if_pos (by omega)]; omega) | (rw [if_neg (by omega)]; omega))), (by omega), (by omega), (by first | exact fun _ => ⟨rfl, rfl⟩ | exact fun b => absurd (by omega) b), (by omega), (by first | assumption | exact (by assumption : JR S _ _))⟩
    · refine y_aload_n rfl rfl ?_
      refine y_dup rfl rfl ?_
      refine y_gfi rfl rfl rfl rfl rfl ?_
      refine y_iconst rfl ?_
      refine y_iadd rfl ?_
      refine y_pfi rfl rfl rfl rfl ?_
      obtain ⟨U1, eU1⟩ : ∃ T : sS, T = uI S 904 8 (Int32.ofInt ((Xi S 904 8) + 1)) := ⟨_, rfl⟩
      rw [← eU1]
      have hHU1 : RI U1 := by rw [eU1]; exact RI_w hH
      have hFU1 : FR md_mo_isMore__p S U1 := by rw [eU1]; exact FR.wI hF (mdf_i (r := (904, 905, 8, 9)) (List.mem_of_getElem? (i := 0) rfl) (inR_i (by omega) (by omega) (by omega) (by omega)))
      have w12 : Xi U1 904 8 = ((Xi S 904 8) + 1) := by rw [eU1]; exact Xi_same (by unfold rg; omega)
      have b65_ : Xi U1 904 65 = Xi S 904 65 := (by rw [eU1, Xi_ne (by omega)]); have J65 : JR U1 fs ns := jr_up (by assumption : JR S _ _) ((VLR_FR hF rfl (by assumption : VLR S _ _))) eU1 (by omega) (fun b => by first | omega | (rw [FRR hF rfl]; omega) | (rw [FRR hF rfl, show Xi S 904 8 = Xi S 904 8 by omega]; omega))
      refine y_iconst rfl ?_
      refine y_ireturn rfl rfl ?_
      have w13 : Xi U1 904 65 = Xi S 904 65 := (show Xi U1 904 65 = Xi S 904 65 from by rw [eU1]; exact Xi_ne (by omega))
      have w14 : Xi U1 904 66 = Xi S 904 66 := (show Xi U1 904 66 = Xi S 904 66 from by rw [eU1]; exact Xi_ne (by omega))
      exact ⟨hHU1, hFU1, _, rfl, ⟨by omega, by omega⟩, (fun b => by first | (rw [gBt_0 (by omega) (by omega)]) | (rw [gBt_a (by omega) (by omega)]; exact pe rfl (by omega)) | (refine gBt_c (by omega) ?_; first | (rw [if_pos (by omega)]; omega) | (rw [if_neg (by omega)]; omega))), (by omega), (by omega), (by first | exact fun _ => ⟨rfl, rfl⟩ | exact fun b => absurd (by omega) b), (by omega), (by first | assumption | exact (by assumption : JR U1 _ _))⟩
  · refine y_aload_n rfl rfl ?_
    refine y_dup rfl rfl ?_
    refine y_gfi rfl rfl rfl rfl rfl ?_
    refine y_iconst rfl ?_
    refine y_iadd rfl ?_
    refine y_pfi rfl rfl rfl rfl ?_
    obtain ⟨U2, eU2⟩ : ∃ T : sS, T = uI S 904 8 (Int32.ofInt ((Xi S 904 8) + 1)) := ⟨_, rfl⟩
    rw [← eU2]
    have hHU2 : RI U2 := by rw [eU2]; exact RI_w hH
    have hFU2 : FR md_mo_isMore__p S U2 := by rw [eU2]; exact FR.wI hF (mdf_i (r := (904, 905, 8, 9)) (List.mem_of_getElem? (i := 0) rfl) (inR_i (by omega) (by omega) (by omega) (by omega)))
    have w15 : Xi U2 904 8 = ((Xi S 904 8) + 1) := by rw [eU2]; exact Xi_same (by unfold rg; omega)
    have b16_ : Xi U2 904 65 = Xi S 904 65 := (by rw [eU2, Xi_ne (by omega)]); have J16 : JR U2 fs ns := jr_up (by assumption : JR S _ _) ((VLR_FR hF rfl (by assumption : VLR S _ _))) eU2 (by omega) (fun b => by first | omega | (rw [FRR hF rfl]; omega) | (rw [FRR hF rfl, show Xi S 904 8 = Xi S 904 8 by omega]; omega))
    have x16 : Xi U2 904 8 = Xi S 904 8 + 1 := by assumption
    refine y_aload_n rfl rfl ?_
    refine y_dup rfl rfl ?_
    refine y_gfi rfl rfl rfl rfl rfl ?_
    refine y_aload_n rfl rfl ?_
    refine y_gfr rfl rfl rfl rfl rfl (hHU2.r 904 4 907 rfl) ?_
    refine y_aload_n rfl rfl ?_
    refine y_gfi rfl rfl rfl rfl rfl ?_
    refine y_ialoadP (n := 5002) rfl rfl (by unfold rg; omega) (fun w16 w17 => ?_)
    have w18 : -2147483648 ≤ (Xi U2 907 (((Xi U2 904 8)).toNat)) ∧ (Xi U2 907 (((Xi U2 904 8)).toNat)) ≤ 2147483647 := Xi_rgI
    have T32 := tR_k (k := 116) (z := (Xi U2 907 (((Xi U2 904 8)).toNat))) hvl (J16.i (by omega)).1 (J16.i (by omega)).2 rfl (by first | exact ((hFU2.cx 907 rfl _).1).symm | rfl)
    rw [show un7 116 = 16 from rfl, show Xi U2 904 8 - (fs : Int) = Xi S 904 8 - fs + 1 by omega] at T32
    refine y_bipush rfl rfl ?_
    refine y_icmp_ne rfl rfl (by unfold rg; omega) (by unfold rg; omega) (fun w19 => ?_) (fun w20 => ?_)
    · refine y_iconst rfl ?_
      refine y_iadd rfl ?_
      refine y_pfi rfl rfl rfl rfl ?_
      obtain ⟨U3, eU3⟩ : ∃ T : sS, T = uI U2 904 8 (Int32.ofInt ((Xi U2 904 8) + 0)) := ⟨_, rfl⟩
      rw [← eU3]
      have hHU3 : RI U3 := by rw [eU3]; exact RI_w hHU2
      have hFU3 : FR md_mo_isMore__p S U3 := by rw [eU3]; exact FR.wI hFU2 (mdf_i (r := (904, 905, 8, 9)) (List.mem_of_getElem? (i := 0) rfl) (inR_i (by omega) (by omega) (by omega) (by omega)))
      have w21 : Xi U3 904 8 = ((Xi U2 904 8) + 0) := by rw [eU3]; exact Xi_same (by unfold rg; omega)
      have b44_ : Xi U3 904 65 = Xi U2 904 65 := (by rw [eU3, Xi_ne (by omega)]); have J44 : JR U3 fs ns := by first | exact jr_same J16 eU3 (by omega) | exact jr_up J16 (VLR_FR (FR_e eU2) rfl hvl) eU3 (by omega) (fun b => by rw [FRR (FR_e eU2) rfl, show Xi U2 904 8 - (fs : Int) = Xi S 904 8 - fs + 1 by omega]; omega)
      refine y_iconst rfl ?_
      refine y_ireturn rfl rfl ?_
      have w22 : Xi U3 904 65 = Xi S 904 65 := (show Xi U3 904 65 = Xi U2 904 65 from by rw [eU3]; exact Xi_ne (by omega)).trans ((show Xi U2 904 65 = Xi S 904 65 from by rw [eU2]; exact Xi_ne (by omega)))
      have w23 : Xi U3 904 66 = Xi S 904 66 := (show Xi U3 904 66 = Xi U2 904 66 from by rw [eU3]; exact Xi_ne (by omega)).trans ((show Xi U2 904 66 = Xi S 904 66 from by rw [eU2]; exact Xi_ne (by omega)))
      exact ⟨hHU3, hFU3, _, rfl, ⟨by omega, by omega⟩, (fun b => by first | (rw [gBt_0 (by omega) (by omega)]) | (rw [gBt_a (by omega) (by omega)]; exact pe rfl (by omega)) | (refine gBt_c (by omega) ?_; first | (rw [if_pos (by omega)]; omega) | (rw [if_neg (by omega)]; omega))), (by omega), (by omega), (by first | exact fun _ => ⟨rfl, rfl⟩ | exact fun b => absurd (by omega) b), (by omega), (by first | assumption | exact (by assumption : JR U3 _ _))⟩
    · refine y_iconst rfl ?_
      refine y_goto rfl rfl ?_
      refine y_iadd rfl ?_
      refine y_pfi rfl rfl rfl rfl ?_
      obtain ⟨U4, eU4⟩ : ∃ T : sS, T = uI U2 904 8 (Int32.ofInt ((Xi U2 904 8) + 1)) := ⟨_, rfl⟩
      rw [← eU4]
      have hHU4 : RI U4 := by rw [eU4]; exact RI_w hHU2
      have hFU4 : FR md_mo_isMore__p S U4 := by rw [eU4]; exact FR.wI hFU2 (mdf_i (r := (904, 905, 8, 9)) (List.mem_of_getElem? (i := 0) rfl) (inR_i (by omega) (by omega) (by omega) (by omega)))
      have w24 : Xi U4 904 8 = ((Xi U2 904 8) + 1) := by rw [eU4]; exact Xi_same (by unfold rg; omega)
      have b44_ : Xi U4 904 65 = Xi U2 904 65 := (by rw [eU4, Xi_ne (by omega)]); have J44 : JR U4 fs ns := by first | exact jr_same J16 eU4 (by omega) | exact jr_up J16 (VLR_FR (FR_e eU2) rfl hvl) eU4 (by omega) (fun b => by rw [FRR (FR_e eU2) rfl, show Xi U2 904 8 - (fs : Int) = Xi S 904 8 - fs + 1 by omega]; omega)
      refine y_iconst rfl ?_
      refine y_ireturn rfl rfl ?_
      have w25 : Xi U4 904 65 = Xi S 904 65 := (show Xi U4 904 65 = Xi U2 904 65 from by rw [eU4]; exact Xi_ne (by omega)).trans ((show Xi U2 904 65 = Xi S 904 65 from by rw [eU2]; exact Xi_ne (by omega)))
      have w26 : Xi U4 904 66 = Xi S 904 66 := (show Xi U4 904 66 = Xi U2 904 66 from by rw [eU4]; exact Xi_ne (by omega)).trans ((show Xi U2 904 66 = Xi S 904 66 from by rw [eU2]; exact Xi_ne (by omega)))
      exact ⟨hHU4, hFU4, _, rfl, ⟨by omega, by omega⟩, (fun b => by first | (rw [gBt_0 (by omega) (by omega)]) | (rw [gBt_a (by omega) (by omega)]; exact pe rfl (by omega)) | (refine gBt_c (by omega) ?_; first | (rw [if_pos (by omega)]; omega) | (rw [if_neg (by omega)]; omega))), (by omega), (by omega), (by first | exact fun _ => ⟨rfl, rfl⟩ | exact fun b => absurd (by omega) b), (by omega), (by first | assumption | exact (by assumption : JR U4 _ _))⟩
def md_mo_placing__p : List rec := [(904, 905, 8, 9), (904, 905, 65, 66), (904, 905, 66, 67)]
abbrev Q_mo_placing__p (S : sS) (fs : Nat) (ns : Nat) : pst := fun r S1 => RI S1 ∧ FR md_mo_placing__p S S1 ∧ (∃ z : Int, r = some (iv z) ∧ (-2147483648 ≤ z ∧ z ≤ 2147483647) ∧ (gSq (cu S fs) (gPc (tR S fs ns)) = cu S1 fs) ∧ (Xi S1 904 65 = 0 → z = pw7 (tR S fs ns (Xi S 904 8 - fs))) ∧ (Xi S1 904 65 = 0 → Xi S 904 65 = 0 ∧ Xi S 904 8 ≤ Xi S1 904 8) ∧ (JR S1 fs ns))
set_option maxRecDepth 100000 in
theorem t_mo_placing__p {S : sS} (hH : RI S) (fs : Nat) (ns : Nat) (hvl : VLR S fs ns) (hJR : JR S fs ns) (d : Nat) : Mp lay0 (d + 3) m_mo_placing [.ref 904] S (Q_mo_placing__p S fs ns) := by
  refine Mp_R rfl rfl (fun fu => ?_)
  have hF : FR md_mo_placing__p S S := FR.rf
  have w1 : -2147483648 ≤ Xi S 904 65 ∧ Xi S 904 65 ≤ 2147483647 := Xi_rgI
  have w2 : -2147483648 ≤ Xi S 904 66 ∧ Xi S 904 66 ≤ 2147483647 := Xi_rgI
  have w3 : -2147483648 ≤ Xi S 904 8 ∧ Xi S 904 8 ≤ 2147483647 := Xi_rgI
  have : Xi S 904 65 = 0 → (fs : Int) ≤ Xi S 904 8 ∧ Xi S 904 8 ≤ fs + ns := JR.i (by assumption)
  have hbd := hvl.2.2.2
  have C60 : ∀  (v2 : Int), (0 ≤ v2 ∧ v2 ≤ 5) → ((v2 = 0 → Xi S 904 65 = 0 → (tR S fs ns (Xi S 904 8 - fs) ≠ 8 ∧ tR S fs ns (Xi S 904 8 - fs) ≠ 9 ∧ tR S fs ns (Xi S 904 8 - fs) ≠ 29 ∧ tR S fs ns (Xi S 904 8 - fs) ≠ 30 ∧ tR S fs ns (Xi S 904 8 - fs) ≠ 31)) ∧ (v2 = 1 → Xi S 904 65 = 0 ∧ tR S fs ns (Xi S 904 8 - fs) = 8) ∧ (v2 = 2 → Xi S 904 65 = 0 ∧ tR S fs ns (Xi S 904 8 - fs) = 9) ∧ (v2 = 3 → Xi S 904 65 = 0 ∧ tR S fs ns (Xi S 904 8 - fs) = 29) ∧ (v2 = 4 → Xi S 904 65 = 0 ∧ tR S fs ns (Xi S 904 8 - fs) = 30) ∧ (v2 = 5 → Xi S 904 65 = 0 ∧ tR S fs ns (Xi S 904 8 - fs) = 31)) → Pl fu lay0 (d + 2) m_mo_placing 60 [(0, .ref 904), (2, iv v2)] [] S (Q_mo_placing__p S fs ns) := by
    intro v2 w4 q60
    refine y_iload_n rfl rfl ?_
    refine y_if_ne rfl rfl (by unfold rg; omega) (fun w5 => ?_) (fun w6 => ?_)
    · refine y_aload_n rfl rfl ?_
      refine y_dup rfl rfl ?_
      refine y_gfi rfl rfl rfl rfl rfl ?_
      refine y_iconst rfl ?_
      refine y_iadd rfl ?_
      refine y_pfi rfl rfl rfl rfl ?_
      obtain ⟨U1, eU1⟩ : ∃ T : sS, T = uI S 904 8 (Int32.ofInt ((Xi S 904 8) + 1)) := ⟨_, rfl⟩
      rw [← eU1]
      have hHU1 : RI U1 := by rw [eU1]; exact RI_w hH
      have hFU1 : FR md_mo_placing__p S U1 := by rw [eU1]; exact FR.wI hF (mdf_i (r := (904, 905, 8, 9)) (List.mem_of_getElem? (i := 0) rfl) (inR_i (by omega) (by omega) (by omega) (by omega)))
      have w7 : Xi U1 904 8 = ((Xi S 904 8) + 1) := by rw [eU1]; exact Xi_same (by unfold rg; omega)
      have b77_ : Xi U1 904 65 = Xi S 904 65 := (by rw [eU1, Xi_ne (by omega)]); have J77 : JR U1 fs ns := jr_up (by assumption : JR S _ _) ((VLR_FR hF rfl (by assumption : VLR S _ _))) eU1 (by omega) (fun b => by first | omega | (rw [FRR hF rfl]; omega) | (rw [FRR hF rfl, show Xi S 904 8 = Xi S 904 8 by omega]; omega))
      have : Xi U1 904 65 = 0 → (fs : Int) ≤ Xi U1 904 8 ∧ Xi U1 904 8 ≤ fs + ns := JR.i (by assumption)
      refine y_iload_n rfl rfl ?_
      refine y_iconst rfl ?_
      refine y_icmp_le rfl rfl (by unfold rg; omega) (by unfold rg; omega) (fun w8 => ?_) (fun w9 => ?_)
      · refine y_iload_n rfl rfl ?_
        refine y_ireturn rfl rfl ?_
        have w10 : Xi U1 904 65 = Xi S 904 65 := (show Xi U1 904 65 = Xi S 904 65 from by rw [eU1]; exact Xi_ne (by omega))
        have w11 : Xi U1 904 66 = Xi S 904 66 := (show Xi U1 904 66 = Xi S 904 66 from by rw [eU1]; exact Xi_ne (by omega))
        exact ⟨hHU1, hFU1, _, rfl, ⟨by omega, by omega⟩, (by first | exact cu_od gp65 (fun b => gPc_0 (by omega)) | exact cu_st (by omega) (by omega) (by assumption) (by rw [gPc_1 (by omega)]; exact pe rfl (by omega)) | exact cu_og (by omega) (by first | (rw [gPc_2 (by omega)]; exact cu_go gp98 (by omega) (by omega)) | (rw [gPc_3 (by omega)]; exact cu_go gp98 (by omega) (by omega)))), (by first | exact fun b => absurd b (by omega) | exact fun b => pw_i (by omega)), (by omega), (by first | assumption | exact (by assumption : JR U1 _ _))⟩
      · refine y_aload_n rfl rfl ?_
        refine y_iload_n rfl rfl ?_
        refine y_iconst rfl ?_
        refine y_icmp_ne rfl rfl (by unfold rg; omega) (by unfold rg; omega) (fun w12 => ?_) (fun w13 => ?_)
        · refine y_bipush rfl rfl ?_
          have w14 : Xi U1 904 65 = Xi S 904 65 := (show Xi U1 904 65 = Xi S 904 65 from by rw [eU1]; exact Xi_ne (by omega))
          refine y_callV rfl rfl rfl (t_mo_take__p hHU1 fs ns 110 ⟨by omega, by omega⟩ (by first | assumption | exact (VLR_FR hFU1 rfl (by assumption : VLR S _ _))) (by first | assumption | exact (by assumption : JR U1 _ _)) (rfl) (by decide) _) ?_
          rintro _ T2 ⟨hHT2, w20, rfl, w16, w17, w18⟩
          have hFT2 : FR md_mo_placing__p S T2 := FR.tr hFU1 w20 rfl
          show Pl _ _ _ _ _ _ [] _ _
          have : Xi T2 904 65 = 0 → (fs : Int) ≤ Xi T2 904 8 ∧ Xi T2 904 8 ≤ fs + ns := JR.i (by assumption)
          have gp98 := w16
          try rw [FRR hFU1 rfl] at gp98
          try rw [show un7 110 = 10 from rfl] at gp98
          refine y_iload_n rfl rfl ?_
          refine y_ireturn rfl rfl ?_
          exact ⟨hHT2, hFT2, _, rfl, ⟨by omega, by omega⟩, (by first | exact cu_od gp65 (fun b => gPc_0 (by omega)) | exact cu_st (by omega) (by omega) (by assumption) (by rw [gPc_1 (by omega)]; exact pe rfl (by omega)) | exact cu_og (by omega) (by first | (rw [gPc_2 (by omega)]; exact cu_go gp98 (by omega) (by omega)) | (rw [gPc_3 (by omega)]; exact cu_go gp98 (by omega) (by omega)))), (by first | exact fun b => absurd b (by omega) | exact fun b => pw_i (by omega)), (by omega), (by first | assumption | exact (by assumption : JR T2 _ _))⟩
        · refine y_bipush rfl rfl ?_
          refine y_goto rfl rfl ?_
          have w21 : Xi U1 904 65 = Xi S 904 65 := (show Xi U1 904 65 = Xi S 904 65 from by rw [eU1]; exact Xi_ne (by omega))
          refine y_callV rfl rfl rfl (t_mo_take__p hHU1 fs ns 107 ⟨by omega, by omega⟩ (by first | assumption | exact (VLR_FR hFU1 rfl (by assumption : VLR S _ _))) (by first | assumption | exact (by assumption : JR U1 _ _)) (rfl) (by decide) _) ?_
          rintro _ T3 ⟨hHT3, w27, rfl, w23, w24, w25⟩
          have hFT3 : FR md_mo_placing__p S T3 := FR.tr hFU1 w27 rfl
          show Pl _ _ _ _ _ _ [] _ _
          have : Xi T3 904 65 = 0 → (fs : Int) ≤ Xi T3 904 8 ∧ Xi T3 904 8 ≤ fs + ns := JR.i (by assumption)
          have gp98 := w23
          try rw [FRR hFU1 rfl] at gp98
          try rw [show un7 107 = 7 from rfl] at gp98
          refine y_iload_n rfl rfl ?_
          refine y_ireturn rfl rfl ?_
          exact ⟨hHT3, hFT3, _, rfl, ⟨by omega, by omega⟩, (by first | exact cu_od gp65 (fun b => gPc_0 (by omega)) | exact cu_st (by omega) (by omega) (by assumption) (by rw [gPc_1 (by omega)]; exact pe rfl (by omega)) | exact cu_og (by omega) (by first | (rw [gPc_2 (by omega)]; exact cu_go gp98 (by omega) (by omega)) | (rw [gPc_3 (by omega)]; exact cu_go gp98 (by omega) (by omega)))), (by first | exact fun b => absurd b (by omega) | exact fun b => pw_i (by omega)), (by omega), (by first | assumption | exact (by assumption : JR T3 _ _))⟩
    · refine y_aload_n rfl rfl ?_
      refine y_callV rfl rfl rfl (t_mo_odd__p hH fs ns _) ?_
      rintro _ T4 ⟨hHT4, w32, rfl, w28, w29, w30⟩
      have hFT4 : FR md_mo_placing__p S T4 := FR.tr hF w32 rfl
      show Pl _ _ _ _ _ _ [] _ _
      have gp65 := w28
      refine y_iconst rfl ?_
      refine y_ireturn rfl rfl ?_
      have w33 : Xi T4 904 8 = Xi S 904 8 := (show Xi T4 904 8 = Xi S 904 8 from w32.x _ _ rfl)
      exact ⟨hHT4, hFT4, _, rfl, ⟨by omega, by omega⟩, (by first | exact cu_od gp65 (fun b => gPc_0 (by omega)) | exact cu_st (by omega) (by omega) (by assumption) (by rw [gPc_1 (by omega)]; exact pe rfl (by omega)) | exact cu_og (by omega) (by first | (rw [gPc_2 (by omega)]; exact cu_go gp98 (by omega) (by omega)) | (rw [gPc_3 (by omega)]; exact cu_go gp98 (by omega) (by omega)))), (by first | exact fun b => absurd b (by omega) | exact fun b => pw_i (by omega)), (by omega), (by first | assumption | exact (by assumption : JR T4 _ _))⟩
  refine y_aload_n rfl rfl ?_
  refine y_callV rfl rfl rfl (t_mo_look__p hH fs ns (by first | assumption | exact (VLR_FR hF rfl (by assumption : VLR S _ _))) (by first | assumption | exact JR.i (by first | assumption | exact (by assumption : JR S _ _))) _) ?_
  rintro _ _ ⟨rfl, z35, rfl, w35, w34⟩
  show Pl _ _ _ _ _ _ [iv z35] _ _
  have := un_ab z35
  have gb1 := w34
  refine y_istore_n rfl rfl rfl ?_
  refine y_iload_n rfl rfl ?_
  refine y_bipush rfl rfl ?_
  refine y_icmp_ne rfl rfl (by unfold rg; omega) (by unfold rg; omega) (fun w36 => ?_) (fun w37 => ?_)
  · refine y_iload_n rfl rfl ?_
    refine y_bipush rfl rfl ?_
    refine y_icmp_ne rfl rfl (by unfold rg; omega) (by unfold rg; omega) (fun w38 => ?_) (fun w39 => ?_)
    · refine y_iload_n rfl rfl ?_
      refine y_sipush rfl rfl ?_
      refine y_icmp_ne rfl rfl (by unfold rg; omega) (by unfold rg; omega) (fun w40 => ?_) (fun w41 => ?_)
      · refine y_iload_n rfl rfl ?_
        refine y_sipush rfl rfl ?_
        refine y_icmp_ne rfl rfl (by unfold rg; omega) (by unfold rg; omega) (fun w42 => ?_) (fun w43 => ?_)
        · refine y_iload_n rfl rfl ?_
          refine y_sipush rfl rfl ?_
          refine y_icmp_ne rfl rfl (by unfold rg; omega) (by unfold rg; omega) (fun w44 => ?_) (fun w45 => ?_)
          · refine y_iconst rfl ?_
            refine y_istore_n rfl rfl rfl ?_
            exact Pl_weak (C60 (0) (by omega) (by omega)) (by omega) (And.intro rfl (And.intro rfl (True.intro)))
          · refine y_iconst rfl ?_
            refine y_goto rfl rfl ?_
            refine y_istore_n rfl rfl rfl ?_
            exact Pl_weak (C60 (5) (by omega) (by omega)) (by omega) (And.intro rfl (And.intro rfl (True.intro)))
        · refine y_iconst rfl ?_
          refine y_goto rfl rfl ?_
          refine y_istore_n rfl rfl rfl ?_
          exact Pl_weak (C60 (4) (by omega) (by omega)) (by omega) (And.intro rfl (And.intro rfl (True.intro)))
      · refine y_iconst rfl ?_
        refine y_goto rfl rfl ?_
        refine y_istore_n rfl rfl rfl ?_
        exact Pl_weak (C60 (3) (by omega) (by omega)) (by omega) (And.intro rfl (And.intro rfl (True.intro)))
    · refine y_iconst rfl ?_
      refine y_goto rfl rfl ?_
      refine y_istore_n rfl rfl rfl ?_
      exact Pl_weak (C60 (2) (by omega) (by omega)) (by omega) (And.intro rfl (And.intro rfl (True.intro)))
  · refine y_iconst rfl ?_
    refine y_goto rfl rfl ?_
    refine y_istore_n rfl rfl rfl ?_
    exact Pl_weak (C60 (1) (by omega) (by omega)) (by omega) (And.intro rfl (And.intro rfl (True.intro)))
def md_mo_list__p : List rec := [(904, 905, 8, 9), (904, 905, 65, 66), (904, 905, 66, 67), (904, 905, 69, 70), (904, 905, 71, 72), (904, 905, 72, 73), (950, 951, 0, 100000), (951, 952, 0, 100000)]
abbrev Q_mo_list__p (S : sS) (fs : Nat) (ns : Nat) (art : Int) : pst := fun r S1 => RI S1 ∧ FR md_mo_list__p S S1 ∧ (r = none ∧ (gSq (cu S fs) (gLs2 (tR S fs ns) 5200) = cu S1 fs) ∧ (Xi S1 904 71 = Xi S 904 69 ∧ Xi S1 904 72 = Xi S1 904 69 - Xi S 904 69) ∧ (Xi S 904 69 ≤ Xi S1 904 69) ∧ (Xi S1 904 65 = 0 → Xi S 904 65 = 0 ∧ Xi S 904 8 ≤ Xi S1 904 8) ∧ (JR S1 fs ns))
set_option maxRecDepth 100000 in
theorem t_mo_list__p {S : sS} (hH : RI S) (fs : Nat) (ns : Nat) (art : Int) (hart : 0 ≤ art ∧ art ≤ 1) (hvl : VLR S fs ns) (hJR : JR S fs ns) (ha : art = 1) (hr0 : 0 ≤ Xi S 904 69) (d : Nat) : Mp lay0 (d + 4) m_mo_list [.ref 904, iv art] S (Q_mo_list__p S fs ns art) := by
  refine Mp_R rfl rfl (fun fu => ?_)
  have hF : FR md_mo_list__p S S := FR.rf
  have w1 : -2147483648 ≤ Xi S 904 65 ∧ Xi S 904 65 ≤ 2147483647 := Xi_rgI
  have w2 : -2147483648 ≤ Xi S 904 66 ∧ Xi S 904 66 ≤ 2147483647 := Xi_rgI
  have w3 : -2147483648 ≤ Xi S 904 69 ∧ Xi S 904 69 ≤ 2147483647 := Xi_rgI
  have w4 : -2147483648 ≤ Xi S 904 71 ∧ Xi S 904 71 ≤ 2147483647 := Xi_rgI
  have w5 : -2147483648 ≤ Xi S 904 8 ∧ Xi S 904 8 ≤ 2147483647 := Xi_rgI
  have : Xi S 904 65 = 0 → (fs : Int) ≤ Xi S 904 8 ∧ Xi S 904 8 ≤ fs + ns := JR.i (by assumption)
  have hbd := hvl.2.2.2
  have C10 : ∀ (n10 : Nat) (_ : n10 ≤ fu) (T1 : sS) (_ : RI T1) (_ : FR md_mo_list__p S T1) (v2 : Int), (0 ≤ v2 ∧ v2 ≤ 1) → (Xi T1 904 71 = Xi S 904 69) → (Xi S 904 69 ≤ Xi T1 904 69) → (JR T1 fs ns) → (Xi T1 904 65 = 0 → Xi S 904 65 = 0 ∧ Xi S 904 8 ≤ Xi T1 904 8) → ((v2 ≠ 0 → Xi T1 904 65 = 0 → EXM (gSq (cu S fs) (gLs2 (tR S fs ns) 5200)) (tR S fs ns) ns (Xi T1 904 8 - fs)) ∧ ((v2 = 0 ∨ Xi T1 904 65 ≠ 0) → gSq (cu S fs) (gLs2 (tR S fs ns) 5200) = cu T1 fs)) → (Xi T1 904 65 = 0 → (fs : Int) ≤ Xi T1 904 8 ∧ Xi T1 904 8 ≤ fs + ns) → Pl n10 lay0 (d + 3) m_mo_list 10 [(0, .ref 904), (1, iv art), (2, iv v2)] [] T1 (Q_mo_list__p S fs ns art) := by
    intro n10
    induction n10 with
    | zero => intros; exact Pl_0
    | succ n10 ih10 =>
      intro hm10 T1 hHT1 hFT1 v2 w6 w7 w8 J10 m10 G10 j10
      have w9 : -2147483648 ≤ Xi T1 904 65 ∧ Xi T1 904 65 ≤ 2147483647 := Xi_rgI
      have w10 : -2147483648 ≤ Xi T1 904 66 ∧ Xi T1 904 66 ≤ 2147483647 := Xi_rgI
      have w11 : -2147483648 ≤ Xi T1 904 69 ∧ Xi T1 904 69 ≤ 2147483647 := Xi_rgI
      have w12 : -2147483648 ≤ Xi T1 904 71 ∧ Xi T1 904 71 ≤ 2147483647 := Xi_rgI
      have w13 : -2147483648 ≤ Xi T1 904 8 ∧ Xi T1 904 8 ≤ 2147483647 := Xi_rgI
      refine ys_iload_n rfl rfl ?_
      refine y_if_eq rfl rfl (by unfold rg; omega) (fun w14 => ?_) (fun w15 => ?_)
      · refine y_aload_n rfl rfl ?_
        refine y_aload_n rfl rfl ?_
        refine y_gfi rfl rfl rfl rfl rfl ?_
        refine y_aload_n rfl rfl ?_
        refine y_gfi rfl rfl rfl rfl rfl ?_
        refine y_isub rfl ?_
        refine y_pfi rfl rfl rfl rfl ?_
        obtain ⟨U2, eU2⟩ : ∃ T : sS, T = uI T1 904 72 (Int32.ofInt ((Xi T1 904 69) - (Xi T1 904 71))) := ⟨_, rfl⟩
        rw [← eU2]
        have hHU2 : RI U2 := by rw [eU2]; exact RI_w hHT1
        have hFU2 : FR md_mo_list__p S U2 := by rw [eU2]; exact FR.wI hFT1 (mdf_i (r := (904, 905, 72, 73)) (List.mem_of_getElem? (i := 5) rfl) (inR_i (by omega) (by omega) (by omega) (by omega)))
        have w16 : Xi U2 904 72 = ((Xi T1 904 69) - (Xi T1 904 71)) := by rw [eU2]; exact Xi_same (by unfold rg; omega)
        refine y_return rfl rfl ?_
        have w17 : Xi U2 904 65 = Xi T1 904 65 := (show Xi U2 904 65 = Xi T1 904 65 from by rw [eU2]; exact Xi_ne (by omega))
        have w18 : Xi U2 904 66 = Xi T1 904 66 := (show Xi U2 904 66 = Xi T1 904 66 from by rw [eU2]; exact Xi_ne (by omega))
        have w19 : Xi U2 904 69 = Xi T1 904 69 := (show Xi U2 904 69 = Xi T1 904 69 from by rw [eU2]; exact Xi_ne (by omega))
        have w20 : Xi U2 904 71 = Xi T1 904 71 := (show Xi U2 904 71 = Xi T1 904 71 from by rw [eU2]; exact Xi_ne (by omega))
        have w21 : Xi U2 904 8 = Xi T1 904 8 := (show Xi U2 904 8 = Xi T1 904 8 from by rw [eU2]; exact Xi_ne (by omega))
        exact ⟨hHU2, hFU2, rfl, ((G10.2 (by omega)).trans (cu_eq (by omega) (by omega) (by omega)).symm), (by omega), (by omega), (by omega), (by first | assumption | exact (JR_FR (FR_e eU2) rfl rfl rfl (by assumption : JR T1 _ _)))⟩
      · refine y_aload_n rfl rfl ?_
        refine y_gfi rfl rfl rfl rfl rfl ?_
        refine y_if_ne rfl rfl (by unfold rg; omega) (fun w22 => ?_) (fun w23 => ?_)
        · refine y_aload_n rfl rfl ?_
          refine y_aload_n rfl rfl ?_
          refine y_gfi rfl rfl rfl rfl rfl ?_
          refine y_aload_n rfl rfl ?_
          refine y_gfi rfl rfl rfl rfl rfl ?_
          refine y_isub rfl ?_
          refine y_pfi rfl rfl rfl rfl ?_
          obtain ⟨U3, eU3⟩ : ∃ T : sS, T = uI T1 904 72 (Int32.ofInt ((Xi T1 904 69) - (Xi T1 904 71))) := ⟨_, rfl⟩
          rw [← eU3]
          have hHU3 : RI U3 := by rw [eU3]; exact RI_w hHT1
          have hFU3 : FR md_mo_list__p S U3 := by rw [eU3]; exact FR.wI hFT1 (mdf_i (r := (904, 905, 72, 73)) (List.mem_of_getElem? (i := 5) rfl) (inR_i (by omega) (by omega) (by omega) (by omega)))
          have w24 : Xi U3 904 72 = ((Xi T1 904 69) - (Xi T1 904 71)) := by rw [eU3]; exact Xi_same (by unfold rg; omega)
          refine y_return rfl rfl ?_
          have w25 : Xi U3 904 65 = Xi T1 904 65 := (show Xi U3 904 65 = Xi T1 904 65 from by rw [eU3]; exact Xi_ne (by omega))
          have w26 : Xi U3 904 66 = Xi T1 904 66 := (show Xi U3 904 66 = Xi T1 904 66 from by rw [eU3]; exact Xi_ne (by omega))
          have w27 : Xi U3 904 69 = Xi T1 904 69 := (show Xi U3 904 69 = Xi T1 904 69 from by rw [eU3]; exact Xi_ne (by omega))
          have w28 : Xi U3 904 71 = Xi T1 904 71 := (show Xi U3 904 71 = Xi T1 904 71 from by rw [eU3]; exact Xi_ne (by omega))
          have w29 : Xi U3 904 8 = Xi T1 904 8 := (show Xi U3 904 8 = Xi T1 904 8 from by rw [eU3]; exact Xi_ne (by omega))
          exact ⟨hHU3, hFU3, rfl, ((G10.2 (by omega)).trans (cu_eq (by omega) (by omega) (by omega)).symm), (by omega), (by omega), (by omega), (by first | assumption | exact (JR_FR (FR_e eU3) rfl rfl rfl (by assumption : JR T1 _ _)))⟩
        · refine y_iload_n rfl rfl ?_
          refine y_if_eq rfl rfl (by unfold rg; omega) (fun w30 => ?_) (fun w31 => ?_)
          · exfalso; omega
          · refine y_aload_n rfl rfl ?_
            refine y_callV rfl rfl rfl (t_mo_name__p hHT1 fs ns (by first | assumption | exact (VLR_FR hFT1 rfl (by assumption : VLR S _ _))) (by first | assumption | exact (by assumption : JR T1 _ _)) _) ?_
            rintro _ T4 ⟨hHT4, w38, z37, rfl, w37, g26_, w32, w33, w34, w35, w36⟩
            have hFT4 : FR md_mo_list__p S T4 := FR.tr hFT1 w38 rfl
            show Pl _ _ _ _ _ _ [iv z37] _ _
            have : Xi T4 904 65 = 0 → (fs : Int) ≤ Xi T4 904 8 ∧ Xi T4 904 8 ≤ fs + ns := JR.i (by assumption)
            have gp26 := g26_
            try rw [FRR hFT1 rfl] at gp26
            refine y_pop rfl rfl ?_
            refine y_goto rfl rfl ?_
            refine y_aload_n rfl rfl ?_
            have w39 : Xi T4 904 71 = Xi T1 904 71 := (show Xi T4 904 71 = Xi T1 904 71 from w38.x _ _ rfl)
            refine y_callV rfl rfl rfl (t_mo_isMore__p hHT4 fs ns (by first | assumption | exact (VLR_FR hFT4 rfl (by assumption : VLR S _ _))) (by first | assumption | exact (by assumption : JR T4 _ _)) _) ?_
            rintro _ T5 ⟨hHT5, w44, z43, rfl, w43, m39_, kb39, w40, cb39, w41, w42⟩
            have hFT5 : FR md_mo_list__p S T5 := FR.tr hFT4 w44 rfl
            show Pl _ _ _ _ _ _ [iv z43] _ _
            have : Xi T5 904 65 = 0 → (fs : Int) ≤ Xi T5 904 8 ∧ Xi T5 904 8 ≤ fs + ns := JR.i (by assumption)
            have m39 := m39_
            try rw [FRR hFT4 rfl] at m39
            have G39 := ls_s (G10.1 (by omega) (by omega)) (by omega) (cu_go gp26 (by omega) rfl) m39 kb39 cb39 (by omega)
            refine y_istore_n rfl rfl rfl ?_
            refine y_goto rfl rfl ?_
            have w45 : Xi T5 904 65 = Xi T4 904 65 := (show Xi T5 904 65 = Xi T4 904 65 from w44.x _ _ rfl)
            have w46 : Xi T5 904 66 = Xi T4 904 66 := (show Xi T5 904 66 = Xi T4 904 66 from w44.x _ _ rfl)
            have w47 : Xi T5 904 69 = Xi T4 904 69 := (show Xi T5 904 69 = Xi T4 904 69 from w44.x _ _ rfl)
            have w48 : Xi T5 904 71 = Xi T1 904 71 := (show Xi T5 904 71 = Xi T4 904 71 from w44.x _ _ rfl).trans ((show Xi T4 904 71 = Xi T1 904 71 from w38.x _ _ rfl))
            exact Pl_weak (ih10 (by omega) T5 hHT5 hFT5 (z43) (by omega) (by omega) (by omega) (by first | assumption | exact (by assumption : JR T5 _ _)) (by omega) (by first | exact G39 | exact ls_0 (by omega) (by omega) (by omega) (by omega)) (by omega)) (by omega) (And.intro rfl (And.intro rfl (And.intro rfl (True.intro))))
  refine y_aload_n rfl rfl ?_
  refine y_aload_n rfl rfl ?_
  refine y_gfi rfl rfl rfl rfl rfl ?_
  refine y_pfi rfl rfl rfl rfl ?_
  obtain ⟨U6, eU6⟩ : ∃ T : sS, T = uI S 904 71 (Int32.ofInt (Xi S 904 69)) := ⟨_, rfl⟩
  rw [← eU6]
  have hHU6 : RI U6 := by rw [eU6]; exact RI_w hH
  have hFU6 : FR md_mo_list__p S U6 := by rw [eU6]; exact FR.wI hF (mdf_i (r := (904, 905, 71, 72)) (List.mem_of_getElem? (i := 4) rfl) (inR_i (by omega) (by omega) (by omega) (by omega)))
  have w49 : Xi U6 904 71 = (Xi S 904 69) := by rw [eU6]; exact Xi_same (by unfold rg; omega)
  refine y_iconst rfl ?_
  refine y_istore_n rfl rfl rfl ?_
  have w50 : Xi U6 904 65 = Xi S 904 65 := (show Xi U6 904 65 = Xi S 904 65 from by rw [eU6]; exact Xi_ne (by omega))
  have w51 : Xi U6 904 66 = Xi S 904 66 := (show Xi U6 904 66 = Xi S 904 66 from by rw [eU6]; exact Xi_ne (by omega))
  have w52 : Xi U6 904 69 = Xi S 904 69 := (show Xi U6 904 69 = Xi S 904 69 from by rw [eU6]; exact Xi_ne (by omega))
  have w53 : Xi U6 904 8 = Xi S 904 8 := (show Xi U6 904 8 = Xi S 904 8 from by rw [eU6]; exact Xi_ne (by omega))
  exact Pl_weak (C10 fu (by omega) U6 hHU6 hFU6 (1) (by omega) (by omega) (by omega) (by first | assumption | exact (JR_FR (FR_e eU6) rfl rfl rfl (by assumption : JR S _ _))) (by omega) (by first | exact G39 | exact ls_0 (by omega) (by omega) (by omega) (by omega)) (by omega)) (by omega) (And.intro rfl (And.intro rfl (And.intro rfl (True.intro))))
abbrev Q_mo_endsTest__p (S : sS) (k : Int) (nw : Int) : pst := fun r S1 => S = S1 ∧ (∃ z : Int, r = some (iv z) ∧ (0 ≤ z ∧ z ≤ 1) ∧ (z = 1 → (k = 46 ∨ k = 59 ∨ k = 1 ∨ (nw = 0 ∧ (k = 116 ∨ k = 58)))) ∧ (z = 0 → ¬ (k = 46 ∨ k = 59 ∨ k = 1 ∨ (nw = 0 ∧ (k = 116 ∨ k = 58)))))
set_option maxRecDepth 100000 in
theorem t_mo_endsTest__p {S : sS} (hH : RI S) (k : Int) (nw : Int) (hk : -2147483648 ≤ k ∧ k ≤ 2147483647) (hnw : 0 ≤ nw ∧ nw ≤ 1) (d : Nat) : Mp lay0 (d + 1) m_mo_endsTest [.ref 904, iv k, iv nw] S (Q_mo_endsTest__p S k nw) := by
  refine Mp_R rfl rfl (fun fu => ?_)
  refine y_iload_n rfl rfl ?_
  refine y_bipush rfl rfl ?_
  refine y_icmp_eq rfl rfl (by unfold rg; omega) (by unfold rg; omega) (fun w1 => ?_) (fun w2 => ?_)
  · refine y_iconst rfl ?_
    refine y_goto rfl rfl ?_
    refine y_ireturn rfl rfl ?_
    exact ⟨rfl, _, rfl, ⟨by omega, by omega⟩, (by omega), (by omega)⟩
  · refine y_iload_n rfl rfl ?_
    refine y_bipush rfl rfl ?_
    refine y_icmp_eq rfl rfl (by unfold rg; omega) (by unfold rg; omega) (fun w3 => ?_) (fun w4 => ?_)
    · refine y_iconst rfl ?_
      refine y_goto rfl rfl ?_
      refine y_ireturn rfl rfl ?_
      exact ⟨rfl, _, rfl, ⟨by omega, by omega⟩, (by omega), (by omega)⟩
    · refine y_iload_n rfl rfl ?_
      refine y_iconst rfl ?_
      refine y_icmp_eq rfl rfl (by unfold rg; omega) (by unfold rg; omega) (fun w5 => ?_) (fun w6 => ?_)
      · refine y_iconst rfl ?_
        refine y_goto rfl rfl ?_
        refine y_ireturn rfl rfl ?_
        exact ⟨rfl, _, rfl, ⟨by omega, by omega⟩, (by omega), (by omega)⟩
      · refine y_iload_n rfl rfl ?_
        refine y_if_ne rfl rfl (by unfold rg; omega) (fun w7 => ?_) (fun w8 => ?_)
        · refine y_iconst rfl ?_
          refine y_ireturn rfl rfl ?_
          exact ⟨rfl, _, rfl, ⟨by omega, by omega⟩, (by omega), (by omega)⟩
        · refine y_iload_n rfl rfl ?_
          refine y_bipush rfl rfl ?_
          refine y_icmp_eq rfl rfl (by unfold rg; omega) (by unfold rg; omega) (fun w9 => ?_) (fun w10 => ?_)
          · refine y_iconst rfl ?_
            refine y_goto rfl rfl ?_
            refine y_ireturn rfl rfl ?_
            exact ⟨rfl, _, rfl, ⟨by omega, by omega⟩, (by omega), (by omega)⟩
          · refine y_iload_n rfl rfl ?_
            refine y_bipush rfl rfl ?_
            refine y_icmp_ne rfl rfl (by unfold rg; omega) (by unfold rg; omega) (fun w11 => ?_) (fun w12 => ?_)
            · refine y_iconst rfl ?_
              refine y_ireturn rfl rfl ?_
              exact ⟨rfl, _, rfl, ⟨by omega, by omega⟩, (by omega), (by omega)⟩
            · refine y_iconst rfl ?_
              refine y_goto rfl rfl ?_
              refine y_ireturn rfl rfl ?_
              exact ⟨rfl, _, rfl, ⟨by omega, by omega⟩, (by omega), (by omega)⟩
theorem un_45 (z : Int) : (z = 4 → un7 z = 101) ∧ (z = 5 → un7 z = 102) ∧ (z ≠ 4 → z = tr7 (un7 z) → un7 z ≠ 101) ∧ (z ≠ 5 → z = tr7 (un7 z) → un7 z ≠ 102) := ⟨fun h => by rw [h]; rfl, fun h => by rw [h]; rfl, fun h e q => h (by rw [e, q]; rfl), fun h e q => h (by rw [e, q]; rfl)⟩
def md_mo_what__p : List rec := [(904, 905, 8, 9), (904, 905, 65, 66), (904, 905, 66, 67), (904, 905, 69, 70), (904, 905, 78, 79), (950, 951, 0, 100000), (951, 952, 0, 100000)]
abbrev Q_mo_what__p (S : sS) (fs : Nat) (ns : Nat) : pst := fun r S1 => RI S1 ∧ FR md_mo_what__p S S1 ∧ (r = none ∧ (gSq (cu S fs) (gWh (tR S fs ns)) = cu S1 fs) ∧ (Xi S1 904 78 = Xi S 904 8) ∧ (Xi S1 904 65 = 0 → tR S fs ns (Xi S 904 8 - fs) ≠ 101 → tR S fs ns (Xi S 904 8 - fs) ≠ 102 → Xi S1 904 69 = Xi S 904 69 + 1 ∧ Xi S1 950 (Xi S 904 69).toNat - fs = Xi S 904 8 - fs ∧ Xi S1 951 (Xi S 904 69).toNat = re7 (tR S fs ns) (Xi S 904 8 - fs) - (Xi S 904 8 - fs)) ∧ (tR S fs ns (Xi S 904 8 - fs) = 101 ∨ tR S fs ns (Xi S 904 8 - fs) = 102 → Xi S 904 65 = 0 → Xi S1 904 69 = Xi S 904 69) ∧ (Xi S 904 69 ≤ Xi S1 904 69) ∧ (∀ r : Nat, (r : Int) < Xi S 904 69 → Xi S1 950 r = Xi S 950 r ∧ Xi S1 951 r = Xi S 951 r) ∧ (Xi S1 904 65 = 0 → Xi S 904 65 = 0 ∧ Xi S 904 8 ≤ Xi S1 904 8) ∧ (JR S1 fs ns))
set_option maxRecDepth 100000 in
theorem t_mo_what__p {S : sS} (hH : RI S) (fs : Nat) (ns : Nat) (hvl : VLR S fs ns) (hJR : JR S fs ns) (d : Nat) : Mp lay0 (d + 3) m_mo_what [.ref 904] S (Q_mo_what__p S fs ns) := by
  refine Mp_R rfl rfl (fun fu => ?_)
  have hF : FR md_mo_what__p S S := FR.rf
  have w1 : -2147483648 ≤ Xi S 904 65 ∧ Xi S 904 65 ≤ 2147483647 := Xi_rgI
  have w2 : -2147483648 ≤ Xi S 904 66 ∧ Xi S 904 66 ≤ 2147483647 := Xi_rgI
  have w3 : -2147483648 ≤ Xi S 904 69 ∧ Xi S 904 69 ≤ 2147483647 := Xi_rgI
  have w4 : -2147483648 ≤ Xi S 904 78 ∧ Xi S 904 78 ≤ 2147483647 := Xi_rgI
  have w5 : -2147483648 ≤ Xi S 904 8 ∧ Xi S 904 8 ≤ 2147483647 := Xi_rgI
  have : Xi S 904 65 = 0 → (fs : Int) ≤ Xi S 904 8 ∧ Xi S 904 8 ≤ fs + ns := JR.i (by assumption)
  have hbd := hvl.2.2.2
  refine y_aload_n rfl rfl ?_
  refine y_aload_n rfl rfl ?_
  refine y_gfi rfl rfl rfl rfl rfl ?_
  refine y_pfi rfl rfl rfl rfl ?_
  obtain ⟨U1, eU1⟩ : ∃ T : sS, T = uI S 904 78 (Int32.ofInt (Xi S 904 8)) := ⟨_, rfl⟩
  rw [← eU1]
  have hHU1 : RI U1 := by rw [eU1]; exact RI_w hH
  have hFU1 : FR md_mo_what__p S U1 := by rw [eU1]; exact FR.wI hF (mdf_i (r := (904, 905, 78, 79)) (List.mem_of_getElem? (i := 4) rfl) (inR_i (by omega) (by omega) (by omega) (by omega)))
  have w6 : Xi U1 904 78 = (Xi S 904 8) := by rw [eU1]; exact Xi_same (by unfold rg; omega)
  refine y_aload_n rfl rfl ?_
  have w7 : Xi U1 904 65 = Xi S 904 65 := (show Xi U1 904 65 = Xi S 904 65 from by rw [eU1]; exact Xi_ne (by omega))
  have w8 : Xi U1 904 66 = Xi S 904 66 := (show Xi U1 904 66 = Xi S 904 66 from by rw [eU1]; exact Xi_ne (by omega))
  have w9 : Xi U1 904 69 = Xi S 904 69 := (show Xi U1 904 69 = Xi S 904 69 from by rw [eU1]; exact Xi_ne (by omega))
  have w10 : Xi U1 904 8 = Xi S 904 8 := (show Xi U1 904 8 = Xi S 904 8 from by rw [eU1]; exact Xi_ne (by omega))
  refine y_callV rfl rfl rfl (t_mo_look__p hHU1 fs ns (by first | assumption | exact (VLR_FR hFU1 rfl (by assumption : VLR S _ _))) (by first | assumption | exact JR.i (by first | assumption | exact (JR_FR (FR_e eU1) rfl rfl rfl (by assumption : JR S _ _)))) _) ?_
  rintro _ _ ⟨rfl, z12, rfl, w12, w11⟩
  show Pl _ _ _ _ _ _ [iv z12] _ _
  have := un_ab z12
  have gb9 := w11
  try rw [FRR hFU1 rfl] at gb9
  try rw [show Xi U1 904 8 = Xi S 904 8 by omega] at gb9
  have u9 := un_45 (z12)
  refine y_istore_n rfl rfl rfl ?_
  refine y_iload_n rfl rfl ?_
  refine y_iconst rfl ?_
  refine y_icmp_eq rfl rfl (by unfold rg; omega) (by unfold rg; omega) (fun w13 => ?_) (fun w14 => ?_)
  · refine y_aload_n rfl rfl ?_
    refine y_dup rfl rfl ?_
    refine y_gfi rfl rfl rfl rfl rfl ?_
    have w15 : (Xi U1 904 8) = (Xi S 904 8) := (show Xi U1 904 8 = Xi S 904 8 from by rw [eU1]; exact Xi_ne (by omega))
    rw [w15]
    refine y_iconst rfl ?_
    refine y_iadd rfl ?_
    refine y_pfi rfl rfl rfl rfl ?_
    obtain ⟨U2, eU2⟩ : ∃ T : sS, T = uI U1 904 8 (Int32.ofInt ((Xi S 904 8) + 1)) := ⟨_, rfl⟩
    rw [← eU2]
    have hHU2 : RI U2 := by rw [eU2]; exact RI_w hHU1
    have hFU2 : FR md_mo_what__p S U2 := by rw [eU2]; exact FR.wI hFU1 (mdf_i (r := (904, 905, 8, 9)) (List.mem_of_getElem? (i := 0) rfl) (inR_i (by omega) (by omega) (by omega) (by omega)))
    have w16 : Xi U2 904 8 = ((Xi S 904 8) + 1) := by rw [eU2]; exact Xi_same (by unfold rg; omega)
    have b30_ : Xi U2 904 65 = Xi U1 904 65 := (by rw [eU2, Xi_ne (by omega)]); have J30 : JR U2 fs ns := jr_up (JR_FR (FR_e eU1) rfl rfl rfl (by assumption : JR S _ _)) ((VLR_FR hFU1 rfl (by assumption : VLR S _ _))) eU2 (by omega) (fun b => by first | omega | (rw [FRR hFU1 rfl]; omega) | (rw [FRR hFU1 rfl, show Xi U1 904 8 = Xi S 904 8 by omega]; omega))
    have : Xi U2 904 65 = 0 → (fs : Int) ≤ Xi U2 904 8 ∧ Xi U2 904 8 ≤ fs + ns := JR.i (by assumption)
    refine y_goto rfl rfl ?_
    refine y_return rfl rfl ?_
    have w17 : Xi U2 904 65 = Xi S 904 65 := (show Xi U2 904 65 = Xi U1 904 65 from by rw [eU2]; exact Xi_ne (by omega)).trans ((show Xi U1 904 65 = Xi S 904 65 from by rw [eU1]; exact Xi_ne (by omega)))
    have w18 : Xi U2 904 66 = Xi S 904 66 := (show Xi U2 904 66 = Xi U1 904 66 from by rw [eU2]; exact Xi_ne (by omega)).trans ((show Xi U1 904 66 = Xi S 904 66 from by rw [eU1]; exact Xi_ne (by omega)))
    have w19 : Xi U2 904 69 = Xi S 904 69 := (show Xi U2 904 69 = Xi U1 904 69 from by rw [eU2]; exact Xi_ne (by omega)).trans ((show Xi U1 904 69 = Xi S 904 69 from by rw [eU1]; exact Xi_ne (by omega)))
    have w20 : Xi U2 904 78 = Xi U1 904 78 := (show Xi U2 904 78 = Xi U1 904 78 from by rw [eU2]; exact Xi_ne (by omega))
    exact ⟨hHU2, hFU2, rfl, (by first | exact cu_st (by omega) (by omega) (by assumption) (by rw [gWh_1 (by omega)]; exact pe rfl (by omega)) | exact cu_cg gp37 (fun b => gWh_r (by omega) (by omega))), (by omega), (by first | (intro a b c; exfalso; omega) | (intro q _ _; obtain ⟨t1, t2, t3, t4⟩ := r37 q; rw [t1, show Xi U1 904 69 = Xi S 904 69 by omega] at t3 t4; rw [show Xi U1 904 8 - (fs : Int) = Xi S 904 8 - fs by omega] at t3 t4; exact ⟨by omega, t3, t4⟩)), (by first | (intro _ _; omega) | (intro a b; exfalso; omega)), (by omega), (by first | exact (fun r _ => ⟨(fun j => ((FR_e eU2).cx 950 rfl j).1.trans (((FR_e eU1).cx 950 rfl j).1)) r, (fun j => ((FR_e eU2).cx 951 rfl j).1.trans (((FR_e eU1).cx 951 rfl j).1)) r⟩) | exact (fun r hr => by have t := k37 r (by omega); exact ⟨t.1.trans ((fun j => ((FR_e eU1).cx 950 rfl j).1) r), t.2.trans ((fun j => ((FR_e eU1).cx 951 rfl j).1) r)⟩)), (by omega), (by first | assumption | exact (by assumption : JR U2 _ _))⟩
  · refine y_iload_n rfl rfl ?_
    refine y_iconst rfl ?_
    refine y_icmp_ne rfl rfl (by unfold rg; omega) (by unfold rg; omega) (fun w21 => ?_) (fun w22 => ?_)
    · refine y_aload_n rfl rfl ?_
      refine y_callV rfl rfl rfl (t_mo_run__p hHU1 fs ns (by first | assumption | exact (VLR_FR hFU1 rfl (by assumption : VLR S _ _))) (by first | assumption | exact (JR_FR (FR_e eU1) rfl rfl rfl (by assumption : JR S _ _))) _) ?_
      rintro _ T3 ⟨hHT3, w32, z31, rfl, w31, w27, r37_, w28, k37, w29, w30⟩
      have hFT3 : FR md_mo_what__p S T3 := FR.tr hFU1 w32 rfl
      show Pl _ _ _ _ _ _ [iv z31] _ _
      have : Xi T3 904 65 = 0 → (fs : Int) ≤ Xi T3 904 8 ∧ Xi T3 904 8 ≤ fs + ns := JR.i (by assumption)
      have gp37 := w27
      try rw [FRR hFU1 rfl] at gp37
      try rw [show cu U1 fs = cu S fs from cu_eq (by omega) (by omega) (by omega)] at gp37
      have r37 := r37_
      try rw [FRR hFU1 rfl] at r37
      refine y_pop rfl rfl ?_
      refine y_return rfl rfl ?_
      have w33 : Xi T3 904 78 = Xi U1 904 78 := (show Xi T3 904 78 = Xi U1 904 78 from w32.x _ _ rfl)
      exact ⟨hHT3, hFT3, rfl, (by first | exact cu_st (by omega) (by omega) (by assumption) (by rw [gWh_1 (by omega)]; exact pe rfl (by omega)) | exact cu_cg gp37 (fun b => gWh_r (by omega) (by omega))), (by omega), (by first | (intro a b c; exfalso; omega) | (intro q _ _; obtain ⟨t1, t2, t3, t4⟩ := r37 q; rw [t1, show Xi U1 904 69 = Xi S 904 69 by omega] at t3 t4; rw [show Xi U1 904 8 - (fs : Int) = Xi S 904 8 - fs by omega] at t3 t4; exact ⟨by omega, t3, t4⟩)), (by first | (intro _ _; omega) | (intro a b; exfalso; omega)), (by omega), (by first | exact (fun r _ => ⟨(fun j => ((w32).cx 950 rfl j).1.trans (((FR_e eU1).cx 950 rfl j).1)) r, (fun j => ((w32).cx 951 rfl j).1.trans (((FR_e eU1).cx 951 rfl j).1)) r⟩) | exact (fun r hr => by have t := k37 r (by omega); exact ⟨t.1.trans ((fun j => ((FR_e eU1).cx 950 rfl j).1) r), t.2.trans ((fun j => ((FR_e eU1).cx 951 rfl j).1) r)⟩)), (by omega), (by first | assumption | exact (by assumption : JR T3 _ _))⟩
    · refine y_aload_n rfl rfl ?_
      refine y_dup rfl rfl ?_
      refine y_gfi rfl rfl rfl rfl rfl ?_
      have w34 : (Xi U1 904 8) = (Xi S 904 8) := (show Xi U1 904 8 = Xi S 904 8 from by rw [eU1]; exact Xi_ne (by omega))
      rw [w34]
      refine y_iconst rfl ?_
      refine y_iadd rfl ?_
      refine y_pfi rfl rfl rfl rfl ?_
      obtain ⟨U4, eU4⟩ : ∃ T : sS, T = uI U1 904 8 (Int32.ofInt ((Xi S 904 8) + 1)) := ⟨_, rfl⟩
      rw [← eU4]
      have hHU4 : RI U4 := by rw [eU4]; exact RI_w hHU1
      have hFU4 : FR md_mo_what__p S U4 := by rw [eU4]; exact FR.wI hFU1 (mdf_i (r := (904, 905, 8, 9)) (List.mem_of_getElem? (i := 0) rfl) (inR_i (by omega) (by omega) (by omega) (by omega)))
      have w35 : Xi U4 904 8 = ((Xi S 904 8) + 1) := by rw [eU4]; exact Xi_same (by unfold rg; omega)
      have b30_ : Xi U4 904 65 = Xi U1 904 65 := (by rw [eU4, Xi_ne (by omega)]); have J30 : JR U4 fs ns := jr_up (JR_FR (FR_e eU1) rfl rfl rfl (by assumption : JR S _ _)) ((VLR_FR hFU1 rfl (by assumption : VLR S _ _))) eU4 (by omega) (fun b => by first | omega | (rw [FRR hFU1 rfl]; omega) | (rw [FRR hFU1 rfl, show Xi U1 904 8 = Xi S 904 8 by omega]; omega))
      have : Xi U4 904 65 = 0 → (fs : Int) ≤ Xi U4 904 8 ∧ Xi U4 904 8 ≤ fs + ns := JR.i (by assumption)
      refine y_goto rfl rfl ?_
      refine y_return rfl rfl ?_
      have w36 : Xi U4 904 65 = Xi S 904 65 := (show Xi U4 904 65 = Xi U1 904 65 from by rw [eU4]; exact Xi_ne (by omega)).trans ((show Xi U1 904 65 = Xi S 904 65 from by rw [eU1]; exact Xi_ne (by omega)))
      have w37 : Xi U4 904 66 = Xi S 904 66 := (show Xi U4 904 66 = Xi U1 904 66 from by rw [eU4]; exact Xi_ne (by omega)).trans ((show Xi U1 904 66 = Xi S 904 66 from by rw [eU1]; exact Xi_ne (by omega)))
      have w38 : Xi U4 904 69 = Xi S 904 69 := (show Xi U4 904 69 = Xi U1 904 69 from by rw [eU4]; exact Xi_ne (by omega)).trans ((show Xi U1 904 69 = Xi S 904 69 from by rw [eU1]; exact Xi_ne (by omega)))
      have w39 : Xi U4 904 78 = Xi U1 904 78 := (show Xi U4 904 78 = Xi U1 904 78 from by rw [eU4]; exact Xi_ne (by omega))
      exact ⟨hHU4, hFU4, rfl, (by first | exact cu_st (by omega) (by omega) (by assumption) (by rw [gWh_1 (by omega)]; exact pe rfl (by omega)) | exact cu_cg gp37 (fun b => gWh_r (by omega) (by omega))), (by omega), (by first | (intro a b c; exfalso; omega) | (intro q _ _; obtain ⟨t1, t2, t3, t4⟩ := r37 q; rw [t1, show Xi U1 904 69 = Xi S 904 69 by omega] at t3 t4; rw [show Xi U1 904 8 - (fs : Int) = Xi S 904 8 - fs by omega] at t3 t4; exact ⟨by omega, t3, t4⟩)), (by first | (intro _ _; omega) | (intro a b; exfalso; omega)), (by omega), (by first | exact (fun r _ => ⟨(fun j => ((FR_e eU4).cx 950 rfl j).1.trans (((FR_e eU1).cx 950 rfl j).1)) r, (fun j => ((FR_e eU4).cx 951 rfl j).1.trans (((FR_e eU1).cx 951 rfl j).1)) r⟩) | exact (fun r hr => by have t := k37 r (by omega); exact ⟨t.1.trans ((fun j => ((FR_e eU1).cx 950 rfl j).1) r), t.2.trans ((fun j => ((FR_e eU1).cx 951 rfl j).1) r)⟩)), (by omega), (by first | assumption | exact (by assumption : JR U4 _ _))⟩
def md_mo_property__p : List rec := [(904, 905, 8, 9), (904, 905, 65, 66), (904, 905, 66, 67), (904, 905, 69, 70), (950, 951, 0, 100000), (951, 952, 0, 100000), (956, 957, 0, 100000)]
abbrev Q_mo_property__p (S : sS) (fs : Nat) (ns : Nat) : pst := fun r S1 => RI S1 ∧ FR md_mo_property__p S S1 ∧ (r = none ∧ (gSq (cu S fs) (gPy (tR S fs ns)) = cu S1 fs) ∧ (Xi S 904 69 ≤ Xi S1 904 69) ∧ (Xi S1 904 65 = 0 → Xi S 904 65 = 0 ∧ Xi S 904 8 ≤ Xi S1 904 8) ∧ (JR S1 fs ns))
set_option maxRecDepth 100000 in
theorem t_mo_property__p {S : sS} (hH : RI S) (fs : Nat) (ns : Nat) (hvl : VLR S fs ns) (hJR : JR S fs ns) (d : Nat) : Mp lay0 (d + 3) m_mo_property [.ref 904] S (Q_mo_property__p S fs ns) := by
  refine Mp_R rfl rfl (fun fu => ?_)
  have hF : FR md_mo_property__p S S := FR.rf
  have w1 : -2147483648 ≤ Xi S 904 65 ∧ Xi S 904 65 ≤ 2147483647 := Xi_rgI
  have w2 : -2147483648 ≤ Xi S 904 66 ∧ Xi S 904 66 ≤ 2147483647 := Xi_rgI
  have w3 : -2147483648 ≤ Xi S 904 69 ∧ Xi S 904 69 ≤ 2147483647 := Xi_rgI
  have w4 : -2147483648 ≤ Xi S 904 8 ∧ Xi S 904 8 ≤ 2147483647 := Xi_rgI
  have : Xi S 904 65 = 0 → (fs : Int) ≤ Xi S 904 8 ∧ Xi S 904 8 ≤ fs + ns := JR.i (by assumption)
  have hbd := hvl.2.2.2
  refine y_aload_n rfl rfl ?_
  refine y_bipush rfl rfl ?_
  refine y_callV rfl rfl rfl (t_mo_take__p hH fs ns 102 ⟨by omega, by omega⟩ (by first | assumption | exact (VLR_FR hF rfl (by assumption : VLR S _ _))) (by first | assumption | exact (by assumption : JR S _ _)) (rfl) (by decide) _) ?_
  rintro _ T1 ⟨hHT1, w9, rfl, w5, w6, w7⟩
  have hFT1 : FR md_mo_property__p S T1 := FR.tr hF w9 rfl
  show Pl _ _ _ _ _ _ [] _ _
  have : Xi T1 904 65 = 0 → (fs : Int) ≤ Xi T1 904 8 ∧ Xi T1 904 8 ≤ fs + ns := JR.i (by assumption)
  have gp3 := w5
  try rw [show un7 102 = 2 from rfl] at gp3
  refine y_aload_n rfl rfl ?_
  refine y_gfr rfl rfl rfl rfl rfl (hHT1.r 904 86 956 rfl) ?_
  refine y_aload_n rfl rfl ?_
  refine y_gfi rfl rfl rfl rfl rfl ?_
  have w10 : -2147483648 ≤ (Xi T1 904 93) ∧ (Xi T1 904 93) ≤ 2147483647 := Xi_rgI
  refine y_aload_n rfl rfl ?_
  have w11 : Xi T1 904 69 = Xi S 904 69 := (show Xi T1 904 69 = Xi S 904 69 from w9.x _ _ rfl)
  refine y_callV rfl rfl rfl (t_mo_run__p hHT1 fs ns (by first | assumption | exact (VLR_FR hFT1 rfl (by assumption : VLR S _ _))) (by first | assumption | exact (by assumption : JR T1 _ _)) _) ?_
  rintro _ T2 ⟨hHT2, w19, z18, rfl, w18, w12, w13, w14, w15, w16, w17⟩
  have hFT2 : FR md_mo_property__p S T2 := FR.tr hFT1 w19 rfl
  show Pl _ _ _ _ _ _ [iv z18, iv (Xi T1 904 93), .ref 956] _ _
  have : Xi T2 904 65 = 0 → (fs : Int) ≤ Xi T2 904 8 ∧ Xi T2 904 8 ≤ fs + ns := JR.i (by assumption)
  have gp15 := w12
  try rw [FRR hFT1 rfl] at gp15
  refine y_iastoreP (n := 1700) rfl rfl (by unfold rg; omega) (fun w20 w21 => ?_)
  obtain ⟨U3, eU3⟩ : ∃ T : sS, T = uI T2 956 (((Xi T1 904 93)).toNat) (Int32.ofInt z18) := ⟨_, rfl⟩
  rw [← eU3]
  have hHU3 : RI U3 := by rw [eU3]; exact RI_w hHT2
  have hFU3 : FR md_mo_property__p S U3 := by rw [eU3]; exact FR.wI hFT2 (mdf_i (r := (956, 957, 0, 100000)) (List.mem_of_getElem? (i := 6) rfl) (inR_i (by omega) (by omega) (by omega) (by omega)))
  have w22 : Xi U3 956 (((Xi T1 904 93)).toNat) = z18 := by rw [eU3]; exact Xi_same (by unfold rg; omega)
  refine y_aload_n rfl rfl ?_
  refine y_bipush rfl rfl ?_
  have w23 : Xi U3 904 65 = Xi T2 904 65 := (show Xi U3 904 65 = Xi T2 904 65 from by rw [eU3]; exact Xi_ne (by omega))
  have w24 : Xi U3 904 66 = Xi T2 904 66 := (show Xi U3 904 66 = Xi T2 904 66 from by rw [eU3]; exact Xi_ne (by omega))
  have w25 : Xi U3 904 69 = Xi T2 904 69 := (show Xi U3 904 69 = Xi T2 904 69 from by rw [eU3]; exact Xi_ne (by omega))
  have w26 : Xi U3 904 8 = Xi T2 904 8 := (show Xi U3 904 8 = Xi T2 904 8 from by rw [eU3]; exact Xi_ne (by omega))
  refine y_callV rfl rfl rfl (t_mo_take__p hHU3 fs ns 107 ⟨by omega, by omega⟩ (by first | assumption | exact (VLR_FR hFU3 rfl (by assumption : VLR S _ _))) (by first | assumption | exact (JR_FR (FR_e eU3) rfl rfl rfl (by assumption : JR T2 _ _))) (rfl) (by decide) _) ?_
  rintro _ T4 ⟨hHT4, w31, rfl, w27, w28, w29⟩
  have hFT4 : FR md_mo_property__p S T4 := FR.tr hFU3 w31 rfl
  show Pl _ _ _ _ _ _ [] _ _
  have : Xi T4 904 65 = 0 → (fs : Int) ≤ Xi T4 904 8 ∧ Xi T4 904 8 ≤ fs + ns := JR.i (by assumption)
  have gp22 := w27
  try rw [FRR hFU3 rfl] at gp22
  try rw [show cu U3 fs = cu T2 fs from cu_eq (by omega) (by omega) (by omega)] at gp22
  try rw [show un7 107 = 7 from rfl] at gp22
  refine y_return rfl rfl ?_
  have w32 : Xi T4 904 69 = Xi T2 904 69 := (show Xi T4 904 69 = Xi U3 904 69 from w31.x _ _ rfl).trans ((show Xi U3 904 69 = Xi T2 904 69 from by rw [eU3]; exact Xi_ne (by omega)))
  exact ⟨hHT4, hFT4, rfl, (by rw [gPy_e, gp3, gp15, gp22]), (by omega), (by omega), (by first | assumption | exact (by assumption : JR T4 _ _))⟩
abbrev Q_mo_beginsOf__p (S : sS) (fs : Nat) (ns : Nat) (t : Int) : pst := fun r S1 => S = S1 ∧ (∃ z : Int, r = some (iv z) ∧ (0 ≤ z ∧ z ≤ 1) ∧ ((fs : Int) ≤ t → t ≤ fs + ns → (z = 1 → bp7 (tR S fs ns) (t - fs)) ∧ (z = 0 → ¬ bp7 (tR S fs ns) (t - fs))))
set_option maxRecDepth 100000 in
theorem t_mo_beginsOf__p {S : sS} (hH : RI S) (fs : Nat) (ns : Nat) (t : Int) (ht : -2147483648 ≤ t ∧ t ≤ 2147483647) (hvl : VLR S fs ns) (d : Nat) : Mp lay0 (d + 1) m_mo_beginsOf [.ref 904, iv t] S (Q_mo_beginsOf__p S fs ns t) := by
  refine Mp_R rfl rfl (fun fu => ?_)
  have C17 : ∀ (n17 : Nat) (_ : n17 ≤ fu) (v2 : Int), (-2147483648 ≤ v2 ∧ v2 ≤ 2147483647) → (t < v2) → ((fs : Int) ≤ t → t ≤ fs + ns → tR S fs ns (t - fs) = 2) → ((fs : Int) ≤ t → t ≤ fs + ns → v2 ≤ fs + ns) → ((fs : Int) ≤ t → t ≤ fs + ns → re7 (tR S fs ns) (t - fs + 1) = reF (tR S fs ns) (5131 - (v2 - fs - (t - fs + 1))).toNat (v2 - fs)) → ((fs : Int) ≤ t → t ≤ fs + ns → t + 1 < v2 → tR S fs ns (t - fs + 1) = 100) → Pl n17 lay0 (d + 0) m_mo_beginsOf 17 [(0, .ref 904), (1, iv t), (2, iv v2)] [] S (Q_mo_beginsOf__p S fs ns t) := by
    intro n17
    induction n17 with
    | zero => intros; exact Pl_0
    | succ n17 ih17 =>
      intro hm17 v2 w1 w2 h17 I17 R17 F17
      refine ys_aload_n rfl rfl ?_
      refine y_gfr rfl rfl rfl rfl rfl (hH.r 904 4 907 rfl) ?_
      refine y_iload_n rfl rfl ?_
      refine y_ialoadP (n := 5002) rfl rfl (by unfold rg; omega) (fun w3 w4 => ?_)
      have w5 : -2147483648 ≤ (Xi S 907 ((v2).toNat)) ∧ (Xi S 907 ((v2).toNat)) ≤ 2147483647 := Xi_rgI
      have T22 : (fs : Int) ≤ t → t ≤ fs + ns → (((Xi S 907 ((v2).toNat)) = 3 → tR S fs ns (v2 - fs) = 100) ∧ ((Xi S 907 ((v2).toNat)) ≠ 3 → tR S fs ns (v2 - fs) ≠ 100)) := fun h1 h2 => tR_3 hvl (by omega) (I17 h1 h2) rfl
      refine y_iconst rfl ?_
      refine y_icmp_ne rfl rfl (by unfold rg; omega) (by unfold rg; omega) (fun w6 => ?_) (fun w7 => ?_)
      · refine y_iload_n rfl rfl ?_
        refine y_iload_n rfl rfl ?_
        refine y_iconst rfl ?_
        refine y_iadd rfl ?_
        refine y_icmp_le rfl rfl (by unfold rg; omega) (by unfold rg; omega) (fun w8 => ?_) (fun w9 => ?_)
        · refine y_iconst rfl ?_
          refine y_ireturn rfl rfl ?_
          exact ⟨rfl, _, rfl, ⟨by omega, by omega⟩, (by first | exact (fun h1 h2 => ⟨fun e => absurd e (by omega), fun _ b => absurd b.1 ((T9 h1 h2).2 (by omega))⟩) | exact (fun h1 h2 => ⟨fun e => absurd e (by omega), fun _ b => absurd b.2.1 (by rw [show t - (fs : Int) + 1 = v2 - fs by omega]; exact (T22 h1 h2).2 (by omega))⟩) | exact (fun h1 h2 => ⟨fun e => absurd e (by omega), fun _ b => absurd b.2.2 (by rw [(R17 h1 h2).trans (reF_n ((T22 h1 h2).2 (by omega)))]; exact (T45 h1 h2).2 (by omega))⟩) | exact (fun h1 h2 => ⟨fun _ => ⟨h17 h1 h2, F17 h1 h2 (by omega), by rw [(R17 h1 h2).trans (reF_n ((T22 h1 h2).2 (by omega)))]; exact (T45 h1 h2).1 (by omega)⟩, fun e => absurd e (by omega)⟩))⟩
        · refine y_aload_n rfl rfl ?_
          refine y_gfr rfl rfl rfl rfl rfl (hH.r 904 4 907 rfl) ?_
          refine y_iload_n rfl rfl ?_
          refine y_ialoadP (n := 5002) rfl rfl (by unfold rg; omega) (fun w10 w11 => ?_)
          have T45 : (fs : Int) ≤ t → t ≤ fs + ns → (((Xi S 907 ((v2).toNat)) = 107 → tR S fs ns (v2 - fs) = 7) ∧ ((Xi S 907 ((v2).toNat)) ≠ 107 → tR S fs ns (v2 - fs) ≠ 7)) := fun h1 h2 => tR_k (k := 107) hvl (by omega) (I17 h1 h2) rfl rfl
          refine y_bipush rfl rfl ?_
          refine y_icmp_ne rfl rfl (by unfold rg; omega) (by unfold rg; omega) (fun w12 => ?_) (fun w13 => ?_)
          · refine y_iconst rfl ?_
            refine y_ireturn rfl rfl ?_
            exact ⟨rfl, _, rfl, ⟨by omega, by omega⟩, (by first | exact (fun h1 h2 => ⟨fun e => absurd e (by omega), fun _ b => absurd b.1 ((T9 h1 h2).2 (by omega))⟩) | exact (fun h1 h2 => ⟨fun e => absurd e (by omega), fun _ b => absurd b.2.1 (by rw [show t - (fs : Int) + 1 = v2 - fs by omega]; exact (T22 h1 h2).2 (by omega))⟩) | exact (fun h1 h2 => ⟨fun e => absurd e (by omega), fun _ b => absurd b.2.2 (by rw [(R17 h1 h2).trans (reF_n ((T22 h1 h2).2 (by omega)))]; exact (T45 h1 h2).2 (by omega))⟩) | exact (fun h1 h2 => ⟨fun _ => ⟨h17 h1 h2, F17 h1 h2 (by omega), by rw [(R17 h1 h2).trans (reF_n ((T22 h1 h2).2 (by omega)))]; exact (T45 h1 h2).1 (by omega)⟩, fun e => absurd e (by omega)⟩))⟩
          · refine y_iconst rfl ?_
            refine y_goto rfl rfl ?_
            refine y_ireturn rfl rfl ?_
            exact ⟨rfl, _, rfl, ⟨by omega, by omega⟩, (by first | exact (fun h1 h2 => ⟨fun e => absurd e (by omega), fun _ b => absurd b.1 ((T9 h1 h2).2 (by omega))⟩) | exact (fun h1 h2 => ⟨fun e => absurd e (by omega), fun _ b => absurd b.2.1 (by rw [show t - (fs : Int) + 1 = v2 - fs by omega]; exact (T22 h1 h2).2 (by omega))⟩) | exact (fun h1 h2 => ⟨fun e => absurd e (by omega), fun _ b => absurd b.2.2 (by rw [(R17 h1 h2).trans (reF_n ((T22 h1 h2).2 (by omega)))]; exact (T45 h1 h2).2 (by omega))⟩) | exact (fun h1 h2 => ⟨fun _ => ⟨h17 h1 h2, F17 h1 h2 (by omega), by rw [(R17 h1 h2).trans (reF_n ((T22 h1 h2).2 (by omega)))]; exact (T45 h1 h2).1 (by omega)⟩, fun e => absurd e (by omega)⟩))⟩
      · refine y_iinc rfl rfl rfl rfl ?_
        refine y_goto rfl rfl ?_
        exact Pl_weak (ih17 (by omega) ((v2 + 1)) (by omega) (by omega) (by first | exact h17 | exact fun h1 h2 => (T9 h1 h2).1 (by omega)) (by first | exact (fun h1 h2 => in_u2 hvl h1 h2 (by have := (T9 h1 h2).1 (by omega); omega) (by have := (T9 h1 h2).1 (by omega); omega)) | exact (fun h1 h2 => in_u2 hvl (by omega) (I17 h1 h2) (by have := (T22 h1 h2).1 (by omega); omega) (by have := (T22 h1 h2).1 (by omega); omega))) (by first | exact (fun h1 h2 => by rw [show t + 1 - (fs : Int) = t - fs + 1 by omega]; exact re7_0) | exact (fun h1 h2 => by have b := hvl.2.2.2; have i := I17 h1 h2; rw [show v2 + 1 - (fs : Int) = v2 - fs + 1 by omega]; exact (R17 h1 h2).trans (reF_s (by omega) (by omega) ((T22 h1 h2).1 (by omega))))) (by first | exact (fun _ _ q => absurd q (by omega)) | exact (fun h1 h2 _ => (Int.lt_or_le (t + 1) v2).elim (fun q => F17 h1 h2 q) (fun q => by rw [show t - (fs : Int) + 1 = v2 - fs by omega]; exact (T22 h1 h2).1 (by omega))))) (by omega) (And.intro rfl (And.intro rfl (And.intro rfl (True.intro))))
  refine y_iload_n rfl rfl ?_
  refine y_iconst rfl ?_
  refine y_iadd rfl ?_
  refine y_istore_n rfl rfl rfl ?_
  refine y_aload_n rfl rfl ?_
  refine y_gfr rfl rfl rfl rfl rfl (hH.r 904 4 907 rfl) ?_
  refine y_iload_n rfl rfl ?_
  refine y_ialoadP (n := 5002) rfl rfl (by unfold rg; omega) (fun w14 w15 => ?_)
  have w16 : -2147483648 ≤ (Xi S 907 ((t).toNat)) ∧ (Xi S 907 ((t).toNat)) ≤ 2147483647 := Xi_rgI
  have T9 : (fs : Int) ≤ t → t ≤ fs + ns → (((Xi S 907 ((t).toNat)) = 102 → tR S fs ns (t - fs) = 2) ∧ ((Xi S 907 ((t).toNat)) ≠ 102 → tR S fs ns (t - fs) ≠ 2)) := fun h1 h2 => tR_k (k := 102) hvl h1 h2 rfl rfl
  refine y_bipush rfl rfl ?_
  refine y_icmp_eq rfl rfl (by unfold rg; omega) (by unfold rg; omega) (fun w17 => ?_) (fun w18 => ?_)
  · exact Pl_weak (C17 fu (by omega) ((t + 1)) (by omega) (by omega) (by first | exact h17 | exact fun h1 h2 => (T9 h1 h2).1 (by omega)) (by first | exact (fun h1 h2 => in_u2 hvl h1 h2 (by have := (T9 h1 h2).1 (by omega); omega) (by have := (T9 h1 h2).1 (by omega); omega)) | exact (fun h1 h2 => in_u2 hvl (by omega) (I17 h1 h2) (by have := (T22 h1 h2).1 (by omega); omega) (by have := (T22 h1 h2).1 (by omega); omega))) (by first | exact (fun h1 h2 => by rw [show t + 1 - (fs : Int) = t - fs + 1 by omega]; exact re7_0) | exact (fun h1 h2 => by have b := hvl.2.2.2; have i := I17 h1 h2; rw [show v2 + 1 - (fs : Int) = v2 - fs + 1 by omega]; exact (R17 h1 h2).trans (reF_s (by omega) (by omega) ((T22 h1 h2).1 (by omega))))) (by first | exact (fun _ _ q => absurd q (by omega)) | exact (fun h1 h2 _ => (Int.lt_or_le (t + 1) v2).elim (fun q => F17 h1 h2 q) (fun q => by rw [show t - (fs : Int) + 1 = v2 - fs by omega]; exact (T22 h1 h2).1 (by omega))))) (by omega) (And.intro rfl (And.intro rfl (And.intro rfl (True.intro))))
  · refine y_iconst rfl ?_
    refine y_ireturn rfl rfl ?_
    exact ⟨rfl, _, rfl, ⟨by omega, by omega⟩, (by first | exact (fun h1 h2 => ⟨fun e => absurd e (by omega), fun _ b => absurd b.1 ((T9 h1 h2).2 (by omega))⟩) | exact (fun h1 h2 => ⟨fun e => absurd e (by omega), fun _ b => absurd b.2.1 (by rw [show t - (fs : Int) + 1 = v2 - fs by omega]; exact (T22 h1 h2).2 (by omega))⟩) | exact (fun h1 h2 => ⟨fun e => absurd e (by omega), fun _ b => absurd b.2.2 (by rw [(R17 h1 h2).trans (reF_n ((T22 h1 h2).2 (by omega)))]; exact (T45 h1 h2).2 (by omega))⟩) | exact (fun h1 h2 => ⟨fun _ => ⟨h17 h1 h2, F17 h1 h2 (by omega), by rw [(R17 h1 h2).trans (reF_n ((T22 h1 h2).2 (by omega)))]; exact (T45 h1 h2).1 (by omega)⟩, fun e => absurd e (by omega)⟩))⟩
