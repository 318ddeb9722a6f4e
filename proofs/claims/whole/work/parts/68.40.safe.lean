/-! SAFETY of methods: printed by wip/safe (vc.py, decl.py) -/
def md_co_addFirst__2 : List rec := [(882, 883, 3, 4), (883, 884, 0, 100000), (884, 885, 0, 100000), (885, 886, 0, 100000), (886, 887, 0, 100000), (887, 888, 0, 100000)]
abbrev Q_co_addFirst__2 (S : sS) (i : Nat) (xi : String × Nat × String × List Int32) (kind : Int) (act : Int) : pst := fun r S1 => HI S1 ∧ FR md_co_addFirst__2 S S1 ∧ (r = none ∧ (Xi S1 882 3 = Xi S 882 3 + 1) ∧ (CMD S1))
set_option maxRecDepth 100000 in
theorem t_co_addFirst__2 {S : sS} (hH : HI S) (i : Nat) (xi : String × Nat × String × List Int32) (kind : Int) (act : Int) (hi : strT[i]? = some xi) (hkind : -2 ≤ kind ∧ kind ≤ 15) (hact : 0 ≤ act ∧ act ≤ 11) (hc : Xi S 882 3 < 20) (hC : CMD S) (ha : act < Xi S 5 8 ∧ (kind = -1 → Xi S 19 act.toNat = -1) ∧ (Xi S 19 act.toNat = -2 → kind = -2)) (d : Nat) : Mt lay0 (d + 5) m_co_addFirst [.ref 882, .ref (SB + i), iv kind, iv act] S (Q_co_addFirst__2 S i xi kind act) := by
  refine Mt_R rfl rfl ?_
  have hF : FR md_co_addFirst__2 S S := FR.rf
  have hsli := str_sm hi
  have w1 : 0 ≤ Xi S 5 8 ∧ Xi S 5 8 ≤ 12 := hH.c _ _
  have w2 : 0 ≤ Xi S 882 3 ∧ Xi S 882 3 ≤ 20 := hH.c _ _
  have h20 : 0 ≤ Xi S 882 3 ∧ Xi S 882 3 ≤ 20 := hH.c _ _
  refine l_iconst rfl ?_
  refine l_istore rfl rfl rfl ?_
  refine l_aload_n rfl rfl ?_
  refine l_callT rfl rfl (cOkT0 (str_is hi) rfl) (t_js_length hi _) ?_
  rintro _ _ ⟨rfl, rfl⟩
  show Rl _ _ _ _ _ [iv (xi.2.2.2.length : Int)] _ _
  refine l_if_le rfl rfl (by unfold rg; omega) (fun w4 => ?_) (fun w5 => ?_)
  · refine l_aload_n rfl rfl ?_
    refine l_gfr rfl rfl rfl rfl rfl (hH.r 882 6 885 rfl) ?_
    refine l_aload_n rfl rfl ?_
    refine l_gfi rfl rfl rfl rfl rfl ?_
    refine l_iload_n rfl rfl ?_
    refine l_iconst rfl ?_
    refine l_icmp_ne rfl rfl (by unfold rg; omega) (by unfold rg; omega) (fun w6 => ?_) (fun w7 => ?_)
    · refine l_iload rfl rfl ?_
      refine l_iastore (n := 20) rfl rfl (by omega) (by omega) (by unfold rg; omega) ?_
      obtain ⟨U1, eU1⟩ : ∃ T : sS, T = uI S 885 (((Xi S 882 3)).toNat) (Int32.ofInt 0) := ⟨_, rfl⟩
      rw [← eU1]
      have hHU1 : HI U1 := by rw [eU1]; exact HI_w hH (show -1 ≤ 0 by omega) (show 0 ≤ 7 by omega)
      have hFU1 : FR md_co_addFirst__2 S U1 := by rw [eU1]; exact FR.wI hF (mdf_i (r := (885, 886, 0, 100000)) (List.mem_of_getElem? (i := 3) rfl) (inR_i (by omega) (by omega) (by omega) (by omega)))
      have w8 : Xi U1 885 (((Xi S 882 3)).toNat) = 0 := by rw [eU1]; exact Xi_same (by unfold rg; omega)
      have e48 : Xi U1 882 3 = Xi S 882 3 := ((FR_e eU1).x 882 3 rfl).trans (by first | exact e25 | rfl)
      have f48 : ∀ i, Xi U1 883 i = Xi S 883 i := fun i => ((FR_e eU1).cx 883 rfl i).1.trans (by first | exact f25 i | rfl)
      have hk48 : KCM S U1 := kcm_w5 eU1 (by first | exact hk25 | exact KCM.rf) (by omega) (by omega)
      have g48 : Xi U1 885 (Xi S 882 3).toNat = -1 → kind = -1 := fun q => by omega
      refine l_aload_n rfl rfl ?_
      refine l_gfr rfl rfl rfl rfl rfl (hHU1.r 882 7 886 rfl) ?_
      refine l_aload_n rfl rfl ?_
      refine l_gfi rfl rfl rfl rfl rfl ?_
      have w9 : (Xi U1 882 3) = (Xi S 882 3) := (show Xi U1 882 3 = Xi S 882 3 from by rw [eU1]; exact Xi_ne (by omega))
      rw [w9]
      refine l_iload_n rfl rfl ?_
      refine l_iastore (n := 20) rfl rfl (by omega) (by omega) (by unfold rg; omega) ?_
      obtain ⟨U2, eU2⟩ : ∃ T : sS, T = uI U1 886 (((Xi S 882 3)).toNat) (Int32.ofInt kind) := ⟨_, rfl⟩
      rw [← eU2]
      have hHU2 : HI U2 := by rw [eU2]; exact HI_w hHU1 (show -2 ≤ kind by omega) (show kind ≤ 255 by omega)
      have hFU2 : FR md_co_addFirst__2 S U2 := by rw [eU2]; exact FR.wI hFU1 (mdf_i (r := (886, 887, 0, 100000)) (List.mem_of_getElem? (i := 4) rfl) (inR_i (by omega) (by omega) (by omega) (by omega)))
      have w10 : Xi U2 886 (((Xi S 882 3)).toNat) = kind := by rw [eU2]; exact Xi_same (by unfold rg; omega)
      have e58 : Xi U2 882 3 = Xi S 882 3 := ((FR_e eU2).x 882 3 rfl).trans e48
      have f58 : ∀ i, Xi U2 883 i = Xi S 883 i := fun i => ((FR_e eU2).cx 883 rfl i).1.trans (f48 i)
      have hk58 : KCM S U2 := kcm_w6 eU2 hk48 (by omega) (by omega)
      have g58 : Xi U2 886 (Xi S 882 3).toNat = kind := by omega
      have y58 : ∀ j, Xi U2 885 j = Xi U1 885 j := fun j => ((FR_e eU2).cx 885 rfl j).1
      refine l_aload_n rfl rfl ?_
      refine l_gfr rfl rfl rfl rfl rfl (hHU2.r 882 5 884 rfl) ?_
      refine l_aload_n rfl rfl ?_
      refine l_gfi rfl rfl rfl rfl rfl ?_
      have w11 : (Xi U2 882 3) = (Xi S 882 3) := (show Xi U2 882 3 = Xi U1 882 3 from by rw [eU2]; exact Xi_ne (by omega)).trans ((show Xi U1 882 3 = Xi S 882 3 from by rw [eU1]; exact Xi_ne (by omega)))
      rw [w11]
      refine l_iload_n rfl rfl ?_
      refine l_iconst rfl ?_
      refine l_icmp_ne rfl rfl (by unfold rg; omega) (by unfold rg; omega) (fun w12 => ?_) (fun w13 => ?_)
      · refine l_iload rfl rfl ?_
        refine l_iconst rfl ?_
        refine l_iadd rfl ?_
        refine l_iastore (n := 20) rfl rfl (by omega) (by omega) (by unfold rg; omega) ?_
        obtain ⟨U3, eU3⟩ : ∃ T : sS, T = uI U2 884 (((Xi S 882 3)).toNat) (Int32.ofInt (0 + 1)) := ⟨_, rfl⟩
        rw [← eU3]
        have hHU3 : HI U3 := by rw [eU3]; exact HI_w hHU2 (show 0 ≤ (0 + 1) by omega) (show (0 + 1) ≤ 8 by omega)
        have hFU3 : FR md_co_addFirst__2 S U3 := by rw [eU3]; exact FR.wI hFU2 (mdf_i (r := (884, 885, 0, 100000)) (List.mem_of_getElem? (i := 2) rfl) (inR_i (by omega) (by omega) (by omega) (by omega)))
        have w14 : Xi U3 884 (((Xi S 882 3)).toNat) = (0 + 1) := by rw [eU3]; exact Xi_same (by unfold rg; omega)
        have hk81 : KCM S U3 := kcm_f (FR_e eU3) rfl hk58
        have y81 : ∀ j, Xi U3 885 j = Xi U2 885 j := fun j => ((FR_e eU3).cx 885 rfl j).1
        have x81 : ∀ j, Xi U3 886 j = Xi U2 886 j := fun j => ((FR_e eU3).cx 886 rfl j).1
        have f81 : ∀ i, Xi U3 883 i = Xi S 883 i := fun i => ((FR_e eU3).cx 883 rfl i).1.trans (f58 i)
        have e81 : Xi U3 882 3 = Xi S 882 3 := ((FR_e eU3).x 882 3 rfl).trans e58
        have g81 : Xi U3 885 (Xi U3 882 3).toNat = -1 → Xi S 19 act.toNat = -1 := fun q => by rw [e81, y81, y58] at q; exact ha.2.1 (g48 q)
        have m81 : Xi S 19 act.toNat = -2 → Xi U3 886 (Xi U3 882 3).toNat = -2 := fun q => by rw [e81, x81, g58]; exact ha.2.2 q
        refine l_aload_n rfl rfl ?_
        refine l_iload_n rfl rfl ?_
        have w15 : Xi U3 882 3 = Xi S 882 3 := (show Xi U3 882 3 = Xi U2 882 3 from by rw [eU3]; exact Xi_ne (by omega)).trans ( (show Xi U2 882 3 = Xi U1 882 3 from by rw [eU2]; exact Xi_ne (by omega)).trans ((show Xi U1 882 3 = Xi S 882 3 from by rw [eU1]; exact Xi_ne (by omega))))
        refine l_callV rfl rfl rfl (t_co_addAs__2 hHU3 act ⟨by omega, by omega⟩ (by first | assumption | omega) _) ?_
        rintro _ T4 ⟨hHT4, w21, rfl, w17, w18, w19⟩
        have hFT4 : FR md_co_addFirst__2 S T4 := FR.tr hFU3 w21 rfl
        show Rl _ _ _ _ _ [] _ _
        have c84 : CMD T4 := CMD_add hH hC hk81 e81 f81 (fun j => (hFT4.cx 5 rfl j).1) (fun j => (hFT4.cx 19 rfl j).1) (fun j => ((by assumption : FR md_co_addAs__2 U3 T4).cx 885 rfl j).1) (fun j => ((by assumption : FR md_co_addAs__2 U3 T4).cx 886 rfl j).1) (by assumption) (by assumption) (by assumption) ha.1 g81 m81
        refine l_return rfl rfl ?_
        have w22 : 0 ≤ Xi T4 882 3 ∧ Xi T4 882 3 ≤ 20 := hHT4.c _ _
        exact ⟨hHT4, hFT4, rfl, (by omega), (c84)⟩
      · refine l_iload rfl rfl ?_
        refine l_goto rfl rfl ?_
        refine l_iastore (n := 20) rfl rfl (by omega) (by omega) (by unfold rg; omega) ?_
        obtain ⟨U5, eU5⟩ : ∃ T : sS, T = uI U2 884 (((Xi S 882 3)).toNat) (Int32.ofInt 0) := ⟨_, rfl⟩
        rw [← eU5]
        have hHU5 : HI U5 := by rw [eU5]; exact HI_w hHU2 (show 0 ≤ 0 by omega) (show 0 ≤ 8 by omega)
        have hFU5 : FR md_co_addFirst__2 S U5 := by rw [eU5]; exact FR.wI hFU2 (mdf_i (r := (884, 885, 0, 100000)) (List.mem_of_getElem? (i := 2) rfl) (inR_i (by omega) (by omega) (by omega) (by omega)))
        have w23 : Xi U5 884 (((Xi S 882 3)).toNat) = 0 := by rw [eU5]; exact Xi_same (by unfold rg; omega)
        have hk81 : KCM S U5 := kcm_f (FR_e eU5) rfl hk58
        have y81 : ∀ j, Xi U5 885 j = Xi U2 885 j := fun j => ((FR_e eU5).cx 885 rfl j).1
        have x81 : ∀ j, Xi U5 886 j = Xi U2 886 j := fun j => ((FR_e eU5).cx 886 rfl j).1
        have f81 : ∀ i, Xi U5 883 i = Xi S 883 i := fun i => ((FR_e eU5).cx 883 rfl i).1.trans (f58 i)
        have e81 : Xi U5 882 3 = Xi S 882 3 := ((FR_e eU5).x 882 3 rfl).trans e58
        have g81 : Xi U5 885 (Xi U5 882 3).toNat = -1 → Xi S 19 act.toNat = -1 := fun q => by rw [e81, y81, y58] at q; exact ha.2.1 (g48 q)
        have m81 : Xi S 19 act.toNat = -2 → Xi U5 886 (Xi U5 882 3).toNat = -2 := fun q => by rw [e81, x81, g58]; exact ha.2.2 q
        refine l_aload_n rfl rfl ?_
        refine l_iload_n rfl rfl ?_
        have w24 : Xi U5 882 3 = Xi S 882 3 := (show Xi U5 882 3 = Xi U2 882 3 from by rw [eU5]; exact Xi_ne (by omega)).trans ( (show Xi U2 882 3 = Xi U1 882 3 from by rw [eU2]; exact Xi_ne (by omega)).trans ((show Xi U1 882 3 = Xi S 882 3 from by rw [eU1]; exact Xi_ne (by omega))))
        refine l_callV rfl rfl rfl (t_co_addAs__2 hHU5 act ⟨by omega, by omega⟩ (by first | assumption | omega) _) ?_
        rintro _ T6 ⟨hHT6, w30, rfl, w26, w27, w28⟩
        have hFT6 : FR md_co_addFirst__2 S T6 := FR.tr hFU5 w30 rfl
        show Rl _ _ _ _ _ [] _ _
        have c84 : CMD T6 := CMD_add hH hC hk81 e81 f81 (fun j => (hFT6.cx 5 rfl j).1) (fun j => (hFT6.cx 19 rfl j).1) (fun j => ((by assumption : FR md_co_addAs__2 U5 T6).cx 885 rfl j).1) (fun j => ((by assumption : FR md_co_addAs__2 U5 T6).cx 886 rfl j).1) (by assumption) (by assumption) (by assumption) ha.1 g81 m81
        refine l_return rfl rfl ?_
        have w31 : 0 ≤ Xi T6 882 3 ∧ Xi T6 882 3 ≤ 20 := hHT6.c _ _
        exact ⟨hHT6, hFT6, rfl, (by omega), (c84)⟩
    · refine l_iconst rfl ?_
      refine l_goto rfl rfl ?_
      refine l_iastore (n := 20) rfl rfl (by omega) (by omega) (by unfold rg; omega) ?_
      obtain ⟨U7, eU7⟩ : ∃ T : sS, T = uI S 885 (((Xi S 882 3)).toNat) (Int32.ofInt (-1)) := ⟨_, rfl⟩
      rw [← eU7]
      have hHU7 : HI U7 := by rw [eU7]; exact HI_w hH (show -1 ≤ (-1) by omega) (show (-1) ≤ 7 by omega)
      have hFU7 : FR md_co_addFirst__2 S U7 := by rw [eU7]; exact FR.wI hF (mdf_i (r := (885, 886, 0, 100000)) (List.mem_of_getElem? (i := 3) rfl) (inR_i (by omega) (by omega) (by omega) (by omega)))
      have w32 : Xi U7 885 (((Xi S 882 3)).toNat) = (-1) := by rw [eU7]; exact Xi_same (by unfold rg; omega)
      have e48 : Xi U7 882 3 = Xi S 882 3 := ((FR_e eU7).x 882 3 rfl).trans (by first | exact e25 | rfl)
      have f48 : ∀ i, Xi U7 883 i = Xi S 883 i := fun i => ((FR_e eU7).cx 883 rfl i).1.trans (by first | exact f25 i | rfl)
      have hk48 : KCM S U7 := kcm_w5 eU7 (by first | exact hk25 | exact KCM.rf) (by omega) (by omega)
      have g48 : Xi U7 885 (Xi S 882 3).toNat = -1 → kind = -1 := fun q => by omega
      refine l_aload_n rfl rfl ?_
      refine l_gfr rfl rfl rfl rfl rfl (hHU7.r 882 7 886 rfl) ?_
      refine l_aload_n rfl rfl ?_
      refine l_gfi rfl rfl rfl rfl rfl ?_
      have w33 : (Xi U7 882 3) = (Xi S 882 3) := (show Xi U7 882 3 = Xi S 882 3 from by rw [eU7]; exact Xi_ne (by omega))
      rw [w33]
      refine l_iload_n rfl rfl ?_
      refine l_iastore (n := 20) rfl rfl (by omega) (by omega) (by unfold rg; omega) ?_
      obtain ⟨U8, eU8⟩ : ∃ T : sS, T = uI U7 886 (((Xi S 882 3)).toNat) (Int32.ofInt kind) := ⟨_, rfl⟩
      rw [← eU8]
      have hHU8 : HI U8 := by rw [eU8]; exact HI_w hHU7 (show -2 ≤ kind by omega) (show kind ≤ 255 by omega)
      have hFU8 : FR md_co_addFirst__2 S U8 := by rw [eU8]; exact FR.wI hFU7 (mdf_i (r := (886, 887, 0, 100000)) (List.mem_of_getElem? (i := 4) rfl) (inR_i (by omega) (by omega) (by omega) (by omega)))
      have w34 : Xi U8 886 (((Xi S 882 3)).toNat) = kind := by rw [eU8]; exact Xi_same (by unfold rg; omega)
      have e58 : Xi U8 882 3 = Xi S 882 3 := ((FR_e eU8).x 882 3 rfl).trans e48
      have f58 : ∀ i, Xi U8 883 i = Xi S 883 i := fun i => ((FR_e eU8).cx 883 rfl i).1.trans (f48 i)
      have hk58 : KCM S U8 := kcm_w6 eU8 hk48 (by omega) (by omega)
      have g58 : Xi U8 886 (Xi S 882 3).toNat = kind := by omega
      have y58 : ∀ j, Xi U8 885 j = Xi U7 885 j := fun j => ((FR_e eU8).cx 885 rfl j).1
      refine l_aload_n rfl rfl ?_
      refine l_gfr rfl rfl rfl rfl rfl (hHU8.r 882 5 884 rfl) ?_
      refine l_aload_n rfl rfl ?_
      refine l_gfi rfl rfl rfl rfl rfl ?_
      have w35 : (Xi U8 882 3) = (Xi S 882 3) := (show Xi U8 882 3 = Xi U7 882 3 from by rw [eU8]; exact Xi_ne (by omega)).trans ((show Xi U7 882 3 = Xi S 882 3 from by rw [eU7]; exact Xi_ne (by omega)))
      rw [w35]
      refine l_iload_n rfl rfl ?_
      refine l_iconst rfl ?_
      refine l_icmp_ne rfl rfl (by unfold rg; omega) (by unfold rg; omega) (fun w36 => ?_) (fun w37 => ?_)
      · refine l_iload rfl rfl ?_
        refine l_iconst rfl ?_
        refine l_iadd rfl ?_
        refine l_iastore (n := 20) rfl rfl (by omega) (by omega) (by unfold rg; omega) ?_
        obtain ⟨U9, eU9⟩ : ∃ T : sS, T = uI U8 884 (((Xi S 882 3)).toNat) (Int32.ofInt (0 + 1)) := ⟨_, rfl⟩
        rw [← eU9]
        have hHU9 : HI U9 := by rw [eU9]; exact HI_w hHU8 (show 0 ≤ (0 + 1) by omega) (show (0 + 1) ≤ 8 by omega)
        have hFU9 : FR md_co_addFirst__2 S U9 := by rw [eU9]; exact FR.wI hFU8 (mdf_i (r := (884, 885, 0, 100000)) (List.mem_of_getElem? (i := 2) rfl) (inR_i (by omega) (by omega) (by omega) (by omega)))
        have w38 : Xi U9 884 (((Xi S 882 3)).toNat) = (0 + 1) := by rw [eU9]; exact Xi_same (by unfold rg; omega)
        have hk81 : KCM S U9 := kcm_f (FR_e eU9) rfl hk58
        have y81 : ∀ j, Xi U9 885 j = Xi U8 885 j := fun j => ((FR_e eU9).cx 885 rfl j).1
        have x81 : ∀ j, Xi U9 886 j = Xi U8 886 j := fun j => ((FR_e eU9).cx 886 rfl j).1
        have f81 : ∀ i, Xi U9 883 i = Xi S 883 i := fun i => ((FR_e eU9).cx 883 rfl i).1.trans (f58 i)
        have e81 : Xi U9 882 3 = Xi S 882 3 := ((FR_e eU9).x 882 3 rfl).trans e58
        have g81 : Xi U9 885 (Xi U9 882 3).toNat = -1 → Xi S 19 act.toNat = -1 := fun q => by rw [e81, y81, y58] at q; exact ha.2.1 (g48 q)
        have m81 : Xi S 19 act.toNat = -2 → Xi U9 886 (Xi U9 882 3).toNat = -2 := fun q => by rw [e81, x81, g58]; exact ha.2.2 q
        refine l_aload_n rfl rfl ?_
        refine l_iload_n rfl rfl ?_
        have w39 : Xi U9 882 3 = Xi S 882 3 := (show Xi U9 882 3 = Xi U8 882 3 from by rw [eU9]; exact Xi_ne (by omega)).trans ( (show Xi U8 882 3 = Xi U7 882 3 from by rw [eU8]; exact Xi_ne (by omega)).trans ((show Xi U7 882 3 = Xi S 882 3 from by rw [eU7]; exact Xi_ne (by omega))))
        refine l_callV rfl rfl rfl (t_co_addAs__2 hHU9 act ⟨by omega, by omega⟩ (by first | assumption | omega) _) ?_
        rintro _ T10 ⟨hHT10, w45, rfl, w41, w42, w43⟩
        have hFT10 : FR md_co_addFirst__2 S T10 := FR.tr hFU9 w45 rfl
        show Rl _ _ _ _ _ [] _ _
        have c84 : CMD T10 := CMD_add hH hC hk81 e81 f81 (fun j => (hFT10.cx 5 rfl j).1) (fun j => (hFT10.cx 19 rfl j).1) (fun j => ((by assumption : FR md_co_addAs__2 U9 T10).cx 885 rfl j).1) (fun j => ((by assumption : FR md_co_addAs__2 U9 T10).cx 886 rfl j).1) (by assumption) (by assumption) (by assumption) ha.1 g81 m81
        refine l_return rfl rfl ?_
        have w46 : 0 ≤ Xi T10 882 3 ∧ Xi T10 882 3 ≤ 20 := hHT10.c _ _
        exact ⟨hHT10, hFT10, rfl, (by omega), (c84)⟩
      · refine l_iload rfl rfl ?_
        refine l_goto rfl rfl ?_
        refine l_iastore (n := 20) rfl rfl (by omega) (by omega) (by unfold rg; omega) ?_
        obtain ⟨U11, eU11⟩ : ∃ T : sS, T = uI U8 884 (((Xi S 882 3)).toNat) (Int32.ofInt 0) := ⟨_, rfl⟩
        rw [← eU11]
        have hHU11 : HI U11 := by rw [eU11]; exact HI_w hHU8 (show 0 ≤ 0 by omega) (show 0 ≤ 8 by omega)
        have hFU11 : FR md_co_addFirst__2 S U11 := by rw [eU11]; exact FR.wI hFU8 (mdf_i (r := (884, 885, 0, 100000)) (List.mem_of_getElem? (i := 2) rfl) (inR_i (by omega) (by omega) (by omega) (by omega)))
        have w47 : Xi U11 884 (((Xi S 882 3)).toNat) = 0 := by rw [eU11]; exact Xi_same (by unfold rg; omega)
        have hk81 : KCM S U11 := kcm_f (FR_e eU11) rfl hk58
        have y81 : ∀ j, Xi U11 885 j = Xi U8 885 j := fun j => ((FR_e eU11).cx 885 rfl j).1
        have x81 : ∀ j, Xi U11 886 j = Xi U8 886 j := fun j => ((FR_e eU11).cx 886 rfl j).1
        have f81 : ∀ i, Xi U11 883 i = Xi S 883 i := fun i => ((FR_e eU11).cx 883 rfl i).1.trans (f58 i)
        have e81 : Xi U11 882 3 = Xi S 882 3 := ((FR_e eU11).x 882 3 rfl).trans e58
        have g81 : Xi U11 885 (Xi U11 882 3).toNat = -1 → Xi S 19 act.toNat = -1 := fun q => by rw [e81, y81, y58] at q; exact ha.2.1 (g48 q)
        have m81 : Xi S 19 act.toNat = -2 → Xi U11 886 (Xi U11 882 3).toNat = -2 := fun q => by rw [e81, x81, g58]; exact ha.2.2 q
        refine l_aload_n rfl rfl ?_
        refine l_iload_n rfl rfl ?_
        have w48 : Xi U11 882 3 = Xi S 882 3 := (show Xi U11 882 3 = Xi U8 882 3 from by rw [eU11]; exact Xi_ne (by omega)).trans ( (show Xi U8 882 3 = Xi U7 882 3 from by rw [eU8]; exact Xi_ne (by omega)).trans ((show Xi U7 882 3 = Xi S 882 3 from by rw [eU7]; exact Xi_ne (by omega))))
        refine l_callV rfl rfl rfl (t_co_addAs__2 hHU11 act ⟨by omega, by omega⟩ (by first | assumption | omega) _) ?_
        rintro _ T12 ⟨hHT12, w54, rfl, w50, w51, w52⟩
        have hFT12 : FR md_co_addFirst__2 S T12 := FR.tr hFU11 w54 rfl
        show Rl _ _ _ _ _ [] _ _
        have c84 : CMD T12 := CMD_add hH hC hk81 e81 f81 (fun j => (hFT12.cx 5 rfl j).1) (fun j => (hFT12.cx 19 rfl j).1) (fun j => ((by assumption : FR md_co_addAs__2 U11 T12).cx 885 rfl j).1) (fun j => ((by assumption : FR md_co_addAs__2 U11 T12).cx 886 rfl j).1) (by assumption) (by assumption) (by assumption) ha.1 g81 m81
        refine l_return rfl rfl ?_
        have w55 : 0 ≤ Xi T12 882 3 ∧ Xi T12 882 3 ≤ 20 := hHT12.c _ _
        exact ⟨hHT12, hFT12, rfl, (by omega), (c84)⟩
  · refine l_aload_n rfl rfl ?_
    refine l_gfr rfl rfl rfl rfl rfl (hH.r 882 8 887 rfl) ?_
    refine l_aload_n rfl rfl ?_
    refine l_gfi rfl rfl rfl rfl rfl ?_
    refine l_bipush rfl rfl ?_
    refine l_imul rfl ?_
    refine l_aload_n rfl rfl ?_
    refine l_callS rfl rfl (by decide) rfl (t_vo_codeOf hH i xi hi _) ?_
    rintro _ _ ⟨rfl, z57, rfl⟩
    show Rl _ _ _ _ _ [jw z57, iv ((Xi S 882 3) * 8), .ref 887] _ _
    refine l_lastore (n := 160) rfl rfl (by omega) (by omega) (by unfold rg; omega) ?_
    obtain ⟨U13, eU13⟩ : ∃ T : sS, T = uJ S 887 ((((Xi S 882 3) * 8)).toNat) (Int64.ofInt z57) := ⟨_, rfl⟩
    rw [← eU13]
    have hHU13 : HI U13 := by rw [eU13]; exact HI_J hH
    have hFU13 : FR md_co_addFirst__2 S U13 := by rw [eU13]; exact FR.wJ hF (mdf_i (r := (887, 888, 0, 100000)) (List.mem_of_getElem? (i := 5) rfl) (inR_i (by omega) (by omega) (by omega) (by omega)))
    have e25 : Xi U13 882 3 = Xi S 882 3 := (FR_J eU13).x 882 3 rfl
    have f25 : ∀ i, Xi U13 883 i = Xi S 883 i := fun i => ((FR_J eU13).cx 883 rfl i).1
    have hk25 : KCM S U13 := kcm_f (FR_J eU13) rfl KCM.rf
    refine l_iinc rfl rfl rfl rfl ?_
    refine l_aload_n rfl rfl ?_
    refine l_gfr rfl rfl rfl rfl rfl (hHU13.r 882 6 885 rfl) ?_
    refine l_aload_n rfl rfl ?_
    refine l_gfi rfl rfl rfl rfl rfl ?_
    have w58 : (Xi U13 882 3) = (Xi S 882 3) := (show Xi U13 882 3 = Xi S 882 3 from by rw [eU13]; rfl)
    rw [w58]
    refine l_iload_n rfl rfl ?_
    refine l_iconst rfl ?_
    refine l_icmp_ne rfl rfl (by unfold rg; omega) (by unfold rg; omega) (fun w59 => ?_) (fun w60 => ?_)
    · refine l_iload rfl rfl ?_
      refine l_iastore (n := 20) rfl rfl (by omega) (by omega) (by unfold rg; omega) ?_
      obtain ⟨U14, eU14⟩ : ∃ T : sS, T = uI U13 885 (((Xi S 882 3)).toNat) (Int32.ofInt (0 + 1)) := ⟨_, rfl⟩
      rw [← eU14]
      have hHU14 : HI U14 := by rw [eU14]; exact HI_w hHU13 (show -1 ≤ (0 + 1) by omega) (show (0 + 1) ≤ 7 by omega)
      have hFU14 : FR md_co_addFirst__2 S U14 := by rw [eU14]; exact FR.wI hFU13 (mdf_i (r := (885, 886, 0, 100000)) (List.mem_of_getElem? (i := 3) rfl) (inR_i (by omega) (by omega) (by omega) (by omega)))
      have w61 : Xi U14 885 (((Xi S 882 3)).toNat) = (0 + 1) := by rw [eU14]; exact Xi_same (by unfold rg; omega)
      have e48 : Xi U14 882 3 = Xi S 882 3 := ((FR_e eU14).x 882 3 rfl).trans (by first | exact e25 | rfl)
      have f48 : ∀ i, Xi U14 883 i = Xi S 883 i := fun i => ((FR_e eU14).cx 883 rfl i).1.trans (by first | exact f25 i | rfl)
      have hk48 : KCM S U14 := kcm_w5 eU14 (by first | exact hk25 | exact KCM.rf) (by omega) (by omega)
      have g48 : Xi U14 885 (Xi S 882 3).toNat = -1 → kind = -1 := fun q => by omega
      refine l_aload_n rfl rfl ?_
      refine l_gfr rfl rfl rfl rfl rfl (hHU14.r 882 7 886 rfl) ?_
      refine l_aload_n rfl rfl ?_
      refine l_gfi rfl rfl rfl rfl rfl ?_
      have w62 : (Xi U14 882 3) = (Xi S 882 3) := (show Xi U14 882 3 = Xi U13 882 3 from by rw [eU14]; exact Xi_ne (by omega)).trans ((show Xi U13 882 3 = Xi S 882 3 from by rw [eU13]; rfl))
      rw [w62]
      refine l_iload_n rfl rfl ?_
      refine l_iastore (n := 20) rfl rfl (by omega) (by omega) (by unfold rg; omega) ?_
      obtain ⟨U15, eU15⟩ : ∃ T : sS, T = uI U14 886 (((Xi S 882 3)).toNat) (Int32.ofInt kind) := ⟨_, rfl⟩
      rw [← eU15]
      have hHU15 : HI U15 := by rw [eU15]; exact HI_w hHU14 (show -2 ≤ kind by omega) (show kind ≤ 255 by omega)
      have hFU15 : FR md_co_addFirst__2 S U15 := by rw [eU15]; exact FR.wI hFU14 (mdf_i (r := (886, 887, 0, 100000)) (List.mem_of_getElem? (i := 4) rfl) (inR_i (by omega) (by omega) (by omega) (by omega)))
      have w63 : Xi U15 886 (((Xi S 882 3)).toNat) = kind := by rw [eU15]; exact Xi_same (by unfold rg; omega)
      have e58 : Xi U15 882 3 = Xi S 882 3 := ((FR_e eU15).x 882 3 rfl).trans e48
      have f58 : ∀ i, Xi U15 883 i = Xi S 883 i := fun i => ((FR_e eU15).cx 883 rfl i).1.trans (f48 i)
      have hk58 : KCM S U15 := kcm_w6 eU15 hk48 (by omega) (by omega)
      have g58 : Xi U15 886 (Xi S 882 3).toNat = kind := by omega
      have y58 : ∀ j, Xi U15 885 j = Xi U14 885 j := fun j => ((FR_e eU15).cx 885 rfl j).1
      refine l_aload_n rfl rfl ?_
      refine l_gfr rfl rfl rfl rfl rfl (hHU15.r 882 5 884 rfl) ?_
      refine l_aload_n rfl rfl ?_
      refine l_gfi rfl rfl rfl rfl rfl ?_
      have w64 : (Xi U15 882 3) = (Xi S 882 3) := (show Xi U15 882 3 = Xi U14 882 3 from by rw [eU15]; exact Xi_ne (by omega)).trans ( (show Xi U14 882 3 = Xi U13 882 3 from by rw [eU14]; exact Xi_ne (by omega)).trans ((show Xi U13 882 3 = Xi S 882 3 from by rw [eU13]; rfl)))
      rw [w64]
      refine l_iload_n rfl rfl ?_
      refine l_iconst rfl ?_
      refine l_icmp_ne rfl rfl (by unfold rg; omega) (by unfold rg; omega) (fun w65 => ?_) (fun w66 => ?_)
      · refine l_iload rfl rfl ?_
        refine l_iconst rfl ?_
        refine l_iadd rfl ?_
        refine l_iastore (n := 20) rfl rfl (by omega) (by omega) (by unfold rg; omega) ?_
        obtain ⟨U16, eU16⟩ : ∃ T : sS, T = uI U15 884 (((Xi S 882 3)).toNat) (Int32.ofInt ((0 + 1) + 1)) := ⟨_, rfl⟩
        rw [← eU16]
        have hHU16 : HI U16 := by rw [eU16]; exact HI_w hHU15 (show 0 ≤ ((0 + 1) + 1) by omega) (show ((0 + 1) + 1) ≤ 8 by omega)
        have hFU16 : FR md_co_addFirst__2 S U16 := by rw [eU16]; exact FR.wI hFU15 (mdf_i (r := (884, 885, 0, 100000)) (List.mem_of_getElem? (i := 2) rfl) (inR_i (by omega) (by omega) (by omega) (by omega)))
        have w67 : Xi U16 884 (((Xi S 882 3)).toNat) = ((0 + 1) + 1) := by rw [eU16]; exact Xi_same (by unfold rg; omega)
        have hk81 : KCM S U16 := kcm_f (FR_e eU16) rfl hk58
        have y81 : ∀ j, Xi U16 885 j = Xi U15 885 j := fun j => ((FR_e eU16).cx 885 rfl j).1
        have x81 : ∀ j, Xi U16 886 j = Xi U15 886 j := fun j => ((FR_e eU16).cx 886 rfl j).1
        have f81 : ∀ i, Xi U16 883 i = Xi S 883 i := fun i => ((FR_e eU16).cx 883 rfl i).1.trans (f58 i)
        have e81 : Xi U16 882 3 = Xi S 882 3 := ((FR_e eU16).x 882 3 rfl).trans e58
        have g81 : Xi U16 885 (Xi U16 882 3).toNat = -1 → Xi S 19 act.toNat = -1 := fun q => by rw [e81, y81, y58] at q; exact ha.2.1 (g48 q)
        have m81 : Xi S 19 act.toNat = -2 → Xi U16 886 (Xi U16 882 3).toNat = -2 := fun q => by rw [e81, x81, g58]; exact ha.2.2 q
        refine l_aload_n rfl rfl ?_
        refine l_iload_n rfl rfl ?_
        have w68 : Xi U16 882 3 = Xi S 882 3 := (show Xi U16 882 3 = Xi U15 882 3 from by rw [eU16]; exact Xi_ne (by omega)).trans ( (show Xi U15 882 3 = Xi U14 882 3 from by rw [eU15]; exact Xi_ne (by omega)).trans ( (show Xi U14 882 3 = Xi U13 882 3 from by rw [eU14]; exact Xi_ne (by omega)).trans ((show Xi U13 882 3 = Xi S 882 3 from by rw [eU13]; rfl))))
        refine l_callV rfl rfl rfl (t_co_addAs__2 hHU16 act ⟨by omega, by omega⟩ (by first | assumption | omega) _) ?_
        rintro _ T17 ⟨hHT17, w74, rfl, w70, w71, w72⟩
        have hFT17 : FR md_co_addFirst__2 S T17 := FR.tr hFU16 w74 rfl
        show Rl _ _ _ _ _ [] _ _
        have c84 : CMD T17 := CMD_add hH hC hk81 e81 f81 (fun j => (hFT17.cx 5 rfl j).1) (fun j => (hFT17.cx 19 rfl j).1) (fun j => ((by assumption : FR md_co_addAs__2 U16 T17).cx 885 rfl j).1) (fun j => ((by assumption : FR md_co_addAs__2 U16 T17).cx 886 rfl j).1) (by assumption) (by assumption) (by assumption) ha.1 g81 m81
        refine l_return rfl rfl ?_
        have w75 : 0 ≤ Xi T17 882 3 ∧ Xi T17 882 3 ≤ 20 := hHT17.c _ _
        exact ⟨hHT17, hFT17, rfl, (by omega), (c84)⟩
      · refine l_iload rfl rfl ?_
        refine l_goto rfl rfl ?_
        refine l_iastore (n := 20) rfl rfl (by omega) (by omega) (by unfold rg; omega) ?_
        obtain ⟨U18, eU18⟩ : ∃ T : sS, T = uI U15 884 (((Xi S 882 3)).toNat) (Int32.ofInt (0 + 1)) := ⟨_, rfl⟩
        rw [← eU18]
        have hHU18 : HI U18 := by rw [eU18]; exact HI_w hHU15 (show 0 ≤ (0 + 1) by omega) (show (0 + 1) ≤ 8 by omega)
        have hFU18 : FR md_co_addFirst__2 S U18 := by rw [eU18]; exact FR.wI hFU15 (mdf_i (r := (884, 885, 0, 100000)) (List.mem_of_getElem? (i := 2) rfl) (inR_i (by omega) (by omega) (by omega) (by omega)))
        have w76 : Xi U18 884 (((Xi S 882 3)).toNat) = (0 + 1) := by rw [eU18]; exact Xi_same (by unfold rg; omega)
        have hk81 : KCM S U18 := kcm_f (FR_e eU18) rfl hk58
        have y81 : ∀ j, Xi U18 885 j = Xi U15 885 j := fun j => ((FR_e eU18).cx 885 rfl j).1
        have x81 : ∀ j, Xi U18 886 j = Xi U15 886 j := fun j => ((FR_e eU18).cx 886 rfl j).1
        have f81 : ∀ i, Xi U18 883 i = Xi S 883 i := fun i => ((FR_e eU18).cx 883 rfl i).1.trans (f58 i)
        have e81 : Xi U18 882 3 = Xi S 882 3 := ((FR_e eU18).x 882 3 rfl).trans e58
        have g81 : Xi U18 885 (Xi U18 882 3).toNat = -1 → Xi S 19 act.toNat = -1 := fun q => by rw [e81, y81, y58] at q; exact ha.2.1 (g48 q)
        have m81 : Xi S 19 act.toNat = -2 → Xi U18 886 (Xi U18 882 3).toNat = -2 := fun q => by rw [e81, x81, g58]; exact ha.2.2 q
        refine l_aload_n rfl rfl ?_
        refine l_iload_n rfl rfl ?_
        have w77 : Xi U18 882 3 = Xi S 882 3 := (show Xi U18 882 3 = Xi U15 882 3 from by rw [eU18]; exact Xi_ne (by omega)).trans ( (show Xi U15 882 3 = Xi U14 882 3 from by rw [eU15]; exact Xi_ne (by omega)).trans ( (show Xi U14 882 3 = Xi U13 882 3 from by rw [eU14]; exact Xi_ne (by omega)).trans ((show Xi U13 882 3 = Xi S 882 3 from by rw [eU13]; rfl))))
        refine l_callV rfl rfl rfl (t_co_addAs__2 hHU18 act ⟨by omega, by omega⟩ (by first | assumption | omega) _) ?_
        rintro _ T19 ⟨hHT19, w83, rfl, w79, w80, w81⟩
        have hFT19 : FR md_co_addFirst__2 S T19 := FR.tr hFU18 w83 rfl
        show Rl _ _ _ _ _ [] _ _
        have c84 : CMD T19 := CMD_add hH hC hk81 e81 f81 (fun j => (hFT19.cx 5 rfl j).1) (fun j => (hFT19.cx 19 rfl j).1) (fun j => ((by assumption : FR md_co_addAs__2 U18 T19).cx 885 rfl j).1) (fun j => ((by assumption : FR md_co_addAs__2 U18 T19).cx 886 rfl j).1) (by assumption) (by assumption) (by assumption) ha.1 g81 m81
        refine l_return rfl rfl ?_
        have w84 : 0 ≤ Xi T19 882 3 ∧ Xi T19 882 3 ≤ 20 := hHT19.c _ _
        exact ⟨hHT19, hFT19, rfl, (by omega), (c84)⟩
    · refine l_iconst rfl ?_
      refine l_goto rfl rfl ?_
      refine l_iastore (n := 20) rfl rfl (by omega) (by omega) (by unfold rg; omega) ?_
      obtain ⟨U20, eU20⟩ : ∃ T : sS, T = uI U13 885 (((Xi S 882 3)).toNat) (Int32.ofInt (-1)) := ⟨_, rfl⟩
      rw [← eU20]
      have hHU20 : HI U20 := by rw [eU20]; exact HI_w hHU13 (show -1 ≤ (-1) by omega) (show (-1) ≤ 7 by omega)
      have hFU20 : FR md_co_addFirst__2 S U20 := by rw [eU20]; exact FR.wI hFU13 (mdf_i (r := (885, 886, 0, 100000)) (List.mem_of_getElem? (i := 3) rfl) (inR_i (by omega) (by omega) (by omega) (by omega)))
      have w85 : Xi U20 885 (((Xi S 882 3)).toNat) = (-1) := by rw [eU20]; exact Xi_same (by unfold rg; omega)
      have e48 : Xi U20 882 3 = Xi S 882 3 := ((FR_e eU20).x 882 3 rfl).trans (by first | exact e25 | rfl)
      have f48 : ∀ i, Xi U20 883 i = Xi S 883 i := fun i => ((FR_e eU20).cx 883 rfl i).1.trans (by first | exact f25 i | rfl)
      have hk48 : KCM S U20 := kcm_w5 eU20 (by first | exact hk25 | exact KCM.rf) (by omega) (by omega)
      have g48 : Xi U20 885 (Xi S 882 3).toNat = -1 → kind = -1 := fun q => by omega
      refine l_aload_n rfl rfl ?_
      refine l_gfr rfl rfl rfl rfl rfl (hHU20.r 882 7 886 rfl) ?_
      refine l_aload_n rfl rfl ?_
      refine l_gfi rfl rfl rfl rfl rfl ?_
      have w86 : (Xi U20 882 3) = (Xi S 882 3) := (show Xi U20 882 3 = Xi U13 882 3 from by rw [eU20]; exact Xi_ne (by omega)).trans ((show Xi U13 882 3 = Xi S 882 3 from by rw [eU13]; rfl))
      rw [w86]
      refine l_iload_n rfl rfl ?_
      refine l_iastore (n := 20) rfl rfl (by omega) (by omega) (by unfold rg; omega) ?_
      obtain ⟨U21, eU21⟩ : ∃ T : sS, T = uI U20 886 (((Xi S 882 3)).toNat) (Int32.ofInt kind) := ⟨_, rfl⟩
      rw [← eU21]
      have hHU21 : HI U21 := by rw [eU21]; exact HI_w hHU20 (show -2 ≤ kind by omega) (show kind ≤ 255 by omega)
      have hFU21 : FR md_co_addFirst__2 S U21 := by rw [eU21]; exact FR.wI hFU20 (mdf_i (r := (886, 887, 0, 100000)) (List.mem_of_getElem? (i := 4) rfl) (inR_i (by omega) (by omega) (by omega) (by omega)))
      have w87 : Xi U21 886 (((Xi S 882 3)).toNat) = kind := by rw [eU21]; exact Xi_same (by unfold rg; omega)
      have e58 : Xi U21 882 3 = Xi S 882 3 := ((FR_e eU21).x 882 3 rfl).trans e48
      have f58 : ∀ i, Xi U21 883 i = Xi S 883 i := fun i => ((FR_e eU21).cx 883 rfl i).1.trans (f48 i)
      have hk58 : KCM S U21 := kcm_w6 eU21 hk48 (by omega) (by omega)
      have g58 : Xi U21 886 (Xi S 882 3).toNat = kind := by omega
      have y58 : ∀ j, Xi U21 885 j = Xi U20 885 j := fun j => ((FR_e eU21).cx 885 rfl j).1
      refine l_aload_n rfl rfl ?_
      refine l_gfr rfl rfl rfl rfl rfl (hHU21.r 882 5 884 rfl) ?_
      refine l_aload_n rfl rfl ?_
      refine l_gfi rfl rfl rfl rfl rfl ?_
      have w88 : (Xi U21 882 3) = (Xi S 882 3) := (show Xi U21 882 3 = Xi U20 882 3 from by rw [eU21]; exact Xi_ne (by omega)).trans ( (show Xi U20 882 3 = Xi U13 882 3 from by rw [eU20]; exact Xi_ne (by omega)).trans ((show Xi U13 882 3 = Xi S 882 3 from by rw [eU13]; rfl)))
      rw [w88]
      refine l_iload_n rfl rfl ?_
      refine l_iconst rfl ?_
      refine l_icmp_ne rfl rfl (by unfold rg; omega) (by unfold rg; omega) (fun w89 => ?_) (fun w90 => ?_)
      · refine l_iload rfl rfl ?_
        refine l_iconst rfl ?_
        refine l_iadd rfl ?_
        refine l_iastore (n := 20) rfl rfl (by omega) (by omega) (by unfold rg; omega) ?_
        obtain ⟨U22, eU22⟩ : ∃ T : sS, T = uI U21 884 (((Xi S 882 3)).toNat) (Int32.ofInt ((0 + 1) + 1)) := ⟨_, rfl⟩
        rw [← eU22]
        have hHU22 : HI U22 := by rw [eU22]; exact HI_w hHU21 (show 0 ≤ ((0 + 1) + 1) by omega) (show ((0 + 1) + 1) ≤ 8 by omega)
        have hFU22 : FR md_co_addFirst__2 S U22 := by rw [eU22]; exact FR.wI hFU21 (mdf_i (r := (884, 885, 0, 100000)) (List.mem_of_getElem? (i := 2) rfl) (inR_i (by omega) (by omega) (by omega) (by omega)))
        have w91 : Xi U22 884 (((Xi S 882 3)).toNat) = ((0 + 1) + 1) := by rw [eU22]; exact Xi_same (by unfold rg; omega)
        have hk81 : KCM S U22 := kcm_f (FR_e eU22) rfl hk58
        have y81 : ∀ j, Xi U22 885 j = Xi U21 885 j := fun j => ((FR_e eU22).cx 885 rfl j).1
        have x81 : ∀ j, Xi U22 886 j = Xi U21 886 j := fun j => ((FR_e eU22).cx 886 rfl j).1
        have f81 : ∀ i, Xi U22 883 i = Xi S 883 i := fun i => ((FR_e eU22).cx 883 rfl i).1.trans (f58 i)
        have e81 : Xi U22 882 3 = Xi S 882 3 := ((FR_e eU22).x 882 3 rfl).trans e58
        have g81 : Xi U22 885 (Xi U22 882 3).toNat = -1 → Xi S 19 act.toNat = -1 := fun q => by rw [e81, y81, y58] at q; exact ha.2.1 (g48 q)
        have m81 : Xi S 19 act.toNat = -2 → Xi U22 886 (Xi U22 882 3).toNat = -2 := fun q => by rw [e81, x81, g58]; exact ha.2.2 q
        refine l_aload_n rfl rfl ?_
        refine l_iload_n rfl rfl ?_
        have w92 : Xi U22 882 3 = Xi S 882 3 := (show Xi U22 882 3 = Xi U21 882 3 from by rw [eU22]; exact Xi_ne (by omega)).trans ( (show Xi U21 882 3 = Xi U20 882 3 from by rw [eU21]; exact Xi_ne (by omega)).trans ( (show Xi U20 882 3 = Xi U13 882 3 from by rw [eU20]; exact Xi_ne (by omega)).trans ((show Xi U13 882 3 = Xi S 882 3 from by rw [eU13]; rfl))))
        refine l_callV rfl rfl rfl (t_co_addAs__2 hHU22 act ⟨by omega, by omega⟩ (by first | assumption | omega) _) ?_
        rintro _ T23 ⟨hHT23, w98, rfl, w94, w95, w96⟩
        have hFT23 : FR md_co_addFirst__2 S T23 := FR.tr hFU22 w98 rfl
        show Rl _ _ _ _ _ [] _ _
        have c84 : CMD T23 := CMD_add hH hC hk81 e81 f81 (fun j => (hFT23.cx 5 rfl j).1) (fun j => (hFT23.cx 19 rfl j).1) (fun j => ((by assumption : FR md_co_addAs__2 U22 T23).cx 885 rfl j).1) (fun j => ((by assumption : FR md_co_addAs__2 U22 T23).cx 886 rfl j).1) (by assumption) (by assumption) (by assumption) ha.1 g81 m81
        refine l_return rfl rfl ?_
        have w99 : 0 ≤ Xi T23 882 3 ∧ Xi T23 882 3 ≤ 20 := hHT23.c _ _
        exact ⟨hHT23, hFT23, rfl, (by omega), (c84)⟩
      · refine l_iload rfl rfl ?_
        refine l_goto rfl rfl ?_
        refine l_iastore (n := 20) rfl rfl (by omega) (by omega) (by unfold rg; omega) ?_
        obtain ⟨U24, eU24⟩ : ∃ T : sS, T = uI U21 884 (((Xi S 882 3)).toNat) (Int32.ofInt (0 + 1)) := ⟨_, rfl⟩
        rw [← eU24]
        have hHU24 : HI U24 := by rw [eU24]; exact HI_w hHU21 (show 0 ≤ (0 + 1) by omega) (show (0 + 1) ≤ 8 by omega)
        have hFU24 : FR md_co_addFirst__2 S U24 := by rw [eU24]; exact FR.wI hFU21 (mdf_i (r := (884, 885, 0, 100000)) (List.mem_of_getElem? (i := 2) rfl) (inR_i (by omega) (by omega) (by omega) (by omega)))
        have w100 : Xi U24 884 (((Xi S 882 3)).toNat) = (0 + 1) := by rw [eU24]; exact Xi_same (by unfold rg; omega)
        have hk81 : KCM S U24 := kcm_f (FR_e eU24) rfl hk58
        have y81 : ∀ j, Xi U24 885 j = Xi U21 885 j := fun j => ((FR_e eU24).cx 885 rfl j).1
        have x81 : ∀ j, Xi U24 886 j = Xi U21 886 j := fun j => ((FR_e eU24).cx 886 rfl j).1
        have f81 : ∀ i, Xi U24 883 i = Xi S 883 i := fun i => ((FR_e eU24).cx 883 rfl i).1.trans (f58 i)
        have e81 : Xi U24 882 3 = Xi S 882 3 := ((FR_e eU24).x 882 3 rfl).trans e58
        have g81 : Xi U24 885 (Xi U24 882 3).toNat = -1 → Xi S 19 act.toNat = -1 := fun q => by rw [e81, y81, y58] at q; exact ha.2.1 (g48 q)
        have m81 : Xi S 19 act.toNat = -2 → Xi U24 886 (Xi U24 882 3).toNat = -2 := fun q => by rw [e81, x81, g58]; exact ha.2.2 q
        refine l_aload_n rfl rfl ?_
        refine l_iload_n rfl rfl ?_
        have w101 : Xi U24 882 3 = Xi S 882 3 := (show Xi U24 882 3 = Xi U21 882 3 from by rw [eU24]; exact Xi_ne (by omega)).trans ( (show Xi U21 882 3 = Xi U20 882 3 from by rw [eU21]; exact Xi_ne (by omega)).trans ( (show Xi U20 882 3 = Xi U13 882 3 from by rw [eU20]; exact Xi_ne (by omega)).trans ((show Xi U13 882 3 = Xi S 882 3 from by rw [eU13]; rfl))))
        refine l_callV rfl rfl rfl (t_co_addAs__2 hHU24 act ⟨by omega, by omega⟩ (by first | assumption | omega) _) ?_
        rintro _ T25 ⟨hHT25, w107, rfl, w103, w104, w105⟩
        have hFT25 : FR md_co_addFirst__2 S T25 := FR.tr hFU24 w107 rfl
        show Rl _ _ _ _ _ [] _ _
        have c84 : CMD T25 := CMD_add hH hC hk81 e81 f81 (fun j => (hFT25.cx 5 rfl j).1) (fun j => (hFT25.cx 19 rfl j).1) (fun j => ((by assumption : FR md_co_addAs__2 U24 T25).cx 885 rfl j).1) (fun j => ((by assumption : FR md_co_addAs__2 U24 T25).cx 886 rfl j).1) (by assumption) (by assumption) (by assumption) ha.1 g81 m81
        refine l_return rfl rfl ?_
        have w108 : 0 ≤ Xi T25 882 3 ∧ Xi T25 882 3 ≤ 20 := hHT25.c _ _
        exact ⟨hHT25, hFT25, rfl, (by omega), (c84)⟩
def md_co_startAgain__2 : List rec := [(882, 883, 3, 4), (883, 884, 0, 100000), (884, 885, 0, 100000), (885, 886, 0, 100000), (886, 887, 0, 100000), (887, 888, 0, 100000)]
abbrev Q_co_startAgain__2 (S : sS) : pst := fun r S1 => HI S1 ∧ FR md_co_startAgain__2 S S1 ∧ (r = none ∧ (Xi S1 882 3 = 7) ∧ (CMD S1))
set_option maxRecDepth 100000 in
theorem t_co_startAgain__2 {S : sS} (hH : HI S) (c5 : 5 ≤ Xi S 5 8) (a5 : Xi S 19 0 = -1 ∧ Xi S 19 1 = 0 ∧ Xi S 19 2 = 0 ∧ Xi S 19 3 = 0 ∧ Xi S 19 4 = -2) (d : Nat) : Mt lay0 (d + 6) m_co_startAgain [.ref 882] S (Q_co_startAgain__2 S) := by
  refine Mt_R rfl rfl ?_
  have hF : FR md_co_startAgain__2 S S := FR.rf
  have w1 : -2 ≤ Xi S 19 0 ∧ Xi S 19 0 ≤ 15 := hH.c _ _
  have w2 : -2 ≤ Xi S 19 1 ∧ Xi S 19 1 ≤ 15 := hH.c _ _
  have w3 : -2 ≤ Xi S 19 2 ∧ Xi S 19 2 ≤ 15 := hH.c _ _
  have w4 : -2 ≤ Xi S 19 3 ∧ Xi S 19 3 ≤ 15 := hH.c _ _
  have w5 : -2 ≤ Xi S 19 4 ∧ Xi S 19 4 ≤ 15 := hH.c _ _
  have w6 : 0 ≤ Xi S 5 8 ∧ Xi S 5 8 ≤ 12 := hH.c _ _
  refine l_aload_n rfl rfl ?_
  refine l_iconst rfl ?_
  refine l_pfi rfl rfl rfl rfl ?_
  obtain ⟨U1, eU1⟩ : ∃ T : sS, T = uI S 882 3 (Int32.ofInt 0) := ⟨_, rfl⟩
  rw [← eU1]
  have hHU1 : HI U1 := by rw [eU1]; exact HI_w hH (show 0 ≤ 0 by omega) (show 0 ≤ 20 by omega)
  have hFU1 : FR md_co_startAgain__2 S U1 := by rw [eU1]; exact FR.wI hF (mdf_i (r := (882, 883, 3, 4)) (List.mem_of_getElem? (i := 0) rfl) (inR_i (by omega) (by omega) (by omega) (by omega)))
  have w7 : Xi U1 882 3 = 0 := by rw [eU1]; exact Xi_same (by unfold rg; omega)
  have x2 : Xi U1 882 3 = 0 := by rw [eU1]; exact Xi_same (by unfold rg; omega)
  have cm2 : CMD U1 := fun i hi => by omega
  have y2 : Xi U1 5 8 = Xi S 5 8 := ((FR_e eU1).cx 5 rfl 8).1
  have t2 : ∀ j, Xi U1 19 j = Xi S 19 j := fun j => ((FR_e eU1).cx 19 rfl j).1
  have u0 : Xi U1 19 0 = -1 := (t2 0).trans a5.1
  have u1 : Xi U1 19 1 = 0 := (t2 1).trans a5.2.1
  have u2 : Xi U1 19 2 = 0 := (t2 2).trans a5.2.2.1
  have u3 : Xi U1 19 3 = 0 := (t2 3).trans a5.2.2.2.1
  have u4 : Xi U1 19 4 = -2 := (t2 4).trans a5.2.2.2.2
  refine l_aload_n rfl rfl ?_
  refine l_ldcR (i := 28) rfl rfl ?_
  refine l_iconst rfl ?_
  refine l_iconst rfl ?_
  have w8 : Xi U1 5 8 = Xi S 5 8 := (show Xi U1 5 8 = Xi S 5 8 from by rw [eU1]; exact Xi_ne (by omega))
  have w10 : 0 ≤ Xi U1 882 3 ∧ Xi U1 882 3 ≤ 20 := hHU1.c _ _
  refine l_callV rfl rfl rfl (t_co_addFirst__2 hHU1 28 _ (-1) 0 rfl ⟨by omega, by omega⟩ ⟨by omega, by omega⟩ (by first | assumption | omega) (by assumption) (⟨by omega, fun q => by first | omega | exact u0, fun q => by first | rfl | omega | exact absurd (u0.symm.trans q) (by decide) | exact absurd (u1.symm.trans q) (by decide) | exact absurd (u2.symm.trans q) (by decide) | exact absurd (u3.symm.trans q) (by decide)⟩) _) ?_
  rintro _ T2 ⟨hHT2, w14, rfl, w11, w12⟩
  have hFT2 : FR md_co_startAgain__2 S T2 := FR.tr hFU1 w14 rfl
  show Rl _ _ _ _ _ [] _ _
  have cm10 : CMD T2 := by assumption
  have y10 : Xi T2 5 8 = Xi S 5 8 := ((by assumption : FR md_co_addFirst__2 U1 T2).cx 5 rfl 8).1.trans y2
  have t10 : ∀ j, Xi T2 19 j = Xi S 19 j := fun j => ((by assumption : FR md_co_addFirst__2 U1 T2).cx 19 rfl j).1.trans (t2 j)
  have u0 : Xi T2 19 0 = -1 := (t10 0).trans a5.1
  have u1 : Xi T2 19 1 = 0 := (t10 1).trans a5.2.1
  have u2 : Xi T2 19 2 = 0 := (t10 2).trans a5.2.2.1
  have u3 : Xi T2 19 3 = 0 := (t10 3).trans a5.2.2.2.1
  have u4 : Xi T2 19 4 = -2 := (t10 4).trans a5.2.2.2.2
  refine l_aload_n rfl rfl ?_
  refine l_ldcR (i := 29) rfl rfl ?_
  refine l_iconst rfl ?_
  refine l_iconst rfl ?_
  have w15 : Xi T2 5 8 = Xi S 5 8 := (show Xi T2 5 8 = Xi U1 5 8 from w14.x _ _ rfl).trans ((show Xi U1 5 8 = Xi S 5 8 from by rw [eU1]; exact Xi_ne (by omega)))
  have w17 : 0 ≤ Xi T2 882 3 ∧ Xi T2 882 3 ≤ 20 := hHT2.c _ _
  refine l_callV rfl rfl rfl (t_co_addFirst__2 hHT2 29 _ 0 1 rfl ⟨by omega, by omega⟩ ⟨by omega, by omega⟩ (by first | assumption | omega) (by assumption) (⟨by omega, fun q => by first | omega | exact u0, fun q => by first | rfl | omega | exact absurd (u0.symm.trans q) (by decide) | exact absurd (u1.symm.trans q) (by decide) | exact absurd (u2.symm.trans q) (by decide) | exact absurd (u3.symm.trans q) (by decide)⟩) _) ?_
  rintro _ T3 ⟨hHT3, w21, rfl, w18, w19⟩
  have hFT3 : FR md_co_startAgain__2 S T3 := FR.tr hFT2 w21 rfl
  show Rl _ _ _ _ _ [] _ _
  have cm18 : CMD T3 := by assumption
  have y18 : Xi T3 5 8 = Xi S 5 8 := ((by assumption : FR md_co_addFirst__2 T2 T3).cx 5 rfl 8).1.trans y10
  have t18 : ∀ j, Xi T3 19 j = Xi S 19 j := fun j => ((by assumption : FR md_co_addFirst__2 T2 T3).cx 19 rfl j).1.trans (t10 j)
  have u0 : Xi T3 19 0 = -1 := (t18 0).trans a5.1
  have u1 : Xi T3 19 1 = 0 := (t18 1).trans a5.2.1
  have u2 : Xi T3 19 2 = 0 := (t18 2).trans a5.2.2.1
  have u3 : Xi T3 19 3 = 0 := (t18 3).trans a5.2.2.2.1
  have u4 : Xi T3 19 4 = -2 := (t18 4).trans a5.2.2.2.2
  refine l_aload_n rfl rfl ?_
  refine l_ldcR (i := 30) rfl rfl ?_
  refine l_iconst rfl ?_
  refine l_iconst rfl ?_
  have w22 : Xi T3 5 8 = Xi S 5 8 := (show Xi T3 5 8 = Xi T2 5 8 from w21.x _ _ rfl).trans ( (show Xi T2 5 8 = Xi U1 5 8 from w14.x _ _ rfl).trans ((show Xi U1 5 8 = Xi S 5 8 from by rw [eU1]; exact Xi_ne (by omega))))
  have w24 : 0 ≤ Xi T3 882 3 ∧ Xi T3 882 3 ≤ 20 := hHT3.c _ _
  refine l_callV rfl rfl rfl (t_co_addFirst__2 hHT3 30 _ 0 1 rfl ⟨by omega, by omega⟩ ⟨by omega, by omega⟩ (by first | assumption | omega) (by assumption) (⟨by omega, fun q => by first | omega | exact u0, fun q => by first | rfl | omega | exact absurd (u0.symm.trans q) (by decide) | exact absurd (u1.symm.trans q) (by decide) | exact absurd (u2.symm.trans q) (by decide) | exact absurd (u3.symm.trans q) (by decide)⟩) _) ?_
  rintro _ T4 ⟨hHT4, w28, rfl, w25, w26⟩
  have hFT4 : FR md_co_startAgain__2 S T4 := FR.tr hFT3 w28 rfl
  show Rl _ _ _ _ _ [] _ _
  have cm26 : CMD T4 := by assumption
  have y26 : Xi T4 5 8 = Xi S 5 8 := ((by assumption : FR md_co_addFirst__2 T3 T4).cx 5 rfl 8).1.trans y18
  have t26 : ∀ j, Xi T4 19 j = Xi S 19 j := fun j => ((by assumption : FR md_co_addFirst__2 T3 T4).cx 19 rfl j).1.trans (t18 j)
  have u0 : Xi T4 19 0 = -1 := (t26 0).trans a5.1
  have u1 : Xi T4 19 1 = 0 := (t26 1).trans a5.2.1
  have u2 : Xi T4 19 2 = 0 := (t26 2).trans a5.2.2.1
  have u3 : Xi T4 19 3 = 0 := (t26 3).trans a5.2.2.2.1
  have u4 : Xi T4 19 4 = -2 := (t26 4).trans a5.2.2.2.2
  refine l_aload_n rfl rfl ?_
  refine l_ldcR (i := 31) rfl rfl ?_
  refine l_iconst rfl ?_
  refine l_iconst rfl ?_
  have w29 : Xi T4 5 8 = Xi S 5 8 := (show Xi T4 5 8 = Xi T3 5 8 from w28.x _ _ rfl).trans ( (show Xi T3 5 8 = Xi T2 5 8 from w21.x _ _ rfl).trans ( (show Xi T2 5 8 = Xi U1 5 8 from w14.x _ _ rfl).trans ((show Xi U1 5 8 = Xi S 5 8 from by rw [eU1]; exact Xi_ne (by omega)))))
  have w31 : 0 ≤ Xi T4 882 3 ∧ Xi T4 882 3 ≤ 20 := hHT4.c _ _
  refine l_callV rfl rfl rfl (t_co_addFirst__2 hHT4 31 _ 0 2 rfl ⟨by omega, by omega⟩ ⟨by omega, by omega⟩ (by first | assumption | omega) (by assumption) (⟨by omega, fun q => by first | omega | exact u0, fun q => by first | rfl | omega | exact absurd (u0.symm.trans q) (by decide) | exact absurd (u1.symm.trans q) (by decide) | exact absurd (u2.symm.trans q) (by decide) | exact absurd (u3.symm.trans q) (by decide)⟩) _) ?_
  rintro _ T5 ⟨hHT5, w35, rfl, w32, w33⟩
  have hFT5 : FR md_co_startAgain__2 S T5 := FR.tr hFT4 w35 rfl
  show Rl _ _ _ _ _ [] _ _
  have cm34 : CMD T5 := by assumption
  have y34 : Xi T5 5 8 = Xi S 5 8 := ((by assumption : FR md_co_addFirst__2 T4 T5).cx 5 rfl 8).1.trans y26
  have t34 : ∀ j, Xi T5 19 j = Xi S 19 j := fun j => ((by assumption : FR md_co_addFirst__2 T4 T5).cx 19 rfl j).1.trans (t26 j)
  have u0 : Xi T5 19 0 = -1 := (t34 0).trans a5.1
  have u1 : Xi T5 19 1 = 0 := (t34 1).trans a5.2.1
  have u2 : Xi T5 19 2 = 0 := (t34 2).trans a5.2.2.1
  have u3 : Xi T5 19 3 = 0 := (t34 3).trans a5.2.2.2.1
  have u4 : Xi T5 19 4 = -2 := (t34 4).trans a5.2.2.2.2
  refine l_aload_n rfl rfl ?_
  refine l_ldcR (i := 32) rfl rfl ?_
  refine l_iconst rfl ?_
  refine l_iconst rfl ?_
  have w36 : Xi T5 5 8 = Xi S 5 8 := (show Xi T5 5 8 = Xi T4 5 8 from w35.x _ _ rfl).trans ( (show Xi T4 5 8 = Xi T3 5 8 from w28.x _ _ rfl).trans ( (show Xi T3 5 8 = Xi T2 5 8 from w21.x _ _ rfl).trans ( (show Xi T2 5 8 = Xi U1 5 8 from w14.x _ _ rfl).trans ((show Xi U1 5 8 = Xi S 5 8 from by rw [eU1]; exact Xi_ne (by omega))))))
  have w38 : 0 ≤ Xi T5 882 3 ∧ Xi T5 882 3 ≤ 20 := hHT5.c _ _
  refine l_callV rfl rfl rfl (t_co_addFirst__2 hHT5 32 _ 0 3 rfl ⟨by omega, by omega⟩ ⟨by omega, by omega⟩ (by first | assumption | omega) (by assumption) (⟨by omega, fun q => by first | omega | exact u0, fun q => by first | rfl | omega | exact absurd (u0.symm.trans q) (by decide) | exact absurd (u1.symm.trans q) (by decide) | exact absurd (u2.symm.trans q) (by decide) | exact absurd (u3.symm.trans q) (by decide)⟩) _) ?_
  rintro _ T6 ⟨hHT6, w42, rfl, w39, w40⟩
  have hFT6 : FR md_co_startAgain__2 S T6 := FR.tr hFT5 w42 rfl
  show Rl _ _ _ _ _ [] _ _
  have cm42 : CMD T6 := by assumption
  have y42 : Xi T6 5 8 = Xi S 5 8 := ((by assumption : FR md_co_addFirst__2 T5 T6).cx 5 rfl 8).1.trans y34
  have t42 : ∀ j, Xi T6 19 j = Xi S 19 j := fun j => ((by assumption : FR md_co_addFirst__2 T5 T6).cx 19 rfl j).1.trans (t34 j)
  have u0 : Xi T6 19 0 = -1 := (t42 0).trans a5.1
  have u1 : Xi T6 19 1 = 0 := (t42 1).trans a5.2.1
  have u2 : Xi T6 19 2 = 0 := (t42 2).trans a5.2.2.1
  have u3 : Xi T6 19 3 = 0 := (t42 3).trans a5.2.2.2.1
  have u4 : Xi T6 19 4 = -2 := (t42 4).trans a5.2.2.2.2
  refine l_aload_n rfl rfl ?_
  refine l_ldcR (i := 33) rfl rfl ?_
  refine l_bipush rfl rfl ?_
  refine l_iconst rfl ?_
  have w43 : Xi T6 5 8 = Xi S 5 8 := (show Xi T6 5 8 = Xi T5 5 8 from w42.x _ _ rfl).trans ( (show Xi T5 5 8 = Xi T4 5 8 from w35.x _ _ rfl).trans ( (show Xi T4 5 8 = Xi T3 5 8 from w28.x _ _ rfl).trans ( (show Xi T3 5 8 = Xi T2 5 8 from w21.x _ _ rfl).trans ( (show Xi T2 5 8 = Xi U1 5 8 from w14.x _ _ rfl).trans ((show Xi U1 5 8 = Xi S 5 8 from by rw [eU1]; exact Xi_ne (by omega)))))))
  have w45 : 0 ≤ Xi T6 882 3 ∧ Xi T6 882 3 ≤ 20 := hHT6.c _ _
  refine l_callV rfl rfl rfl (t_co_addFirst__2 hHT6 33 _ (-2) 4 rfl ⟨by omega, by omega⟩ ⟨by omega, by omega⟩ (by first | assumption | omega) (by assumption) (⟨by omega, fun q => by first | omega | exact u0, fun q => by first | rfl | omega | exact absurd (u0.symm.trans q) (by decide) | exact absurd (u1.symm.trans q) (by decide) | exact absurd (u2.symm.trans q) (by decide) | exact absurd (u3.symm.trans q) (by decide)⟩) _) ?_
  rintro _ T7 ⟨hHT7, w49, rfl, w46, w47⟩
  have hFT7 : FR md_co_startAgain__2 S T7 := FR.tr hFT6 w49 rfl
  show Rl _ _ _ _ _ [] _ _
  have cm51 : CMD T7 := by assumption
  have y51 : Xi T7 5 8 = Xi S 5 8 := ((by assumption : FR md_co_addFirst__2 T6 T7).cx 5 rfl 8).1.trans y42
  have t51 : ∀ j, Xi T7 19 j = Xi S 19 j := fun j => ((by assumption : FR md_co_addFirst__2 T6 T7).cx 19 rfl j).1.trans (t42 j)
  have u0 : Xi T7 19 0 = -1 := (t51 0).trans a5.1
  have u1 : Xi T7 19 1 = 0 := (t51 1).trans a5.2.1
  have u2 : Xi T7 19 2 = 0 := (t51 2).trans a5.2.2.1
  have u3 : Xi T7 19 3 = 0 := (t51 3).trans a5.2.2.2.1
  have u4 : Xi T7 19 4 = -2 := (t51 4).trans a5.2.2.2.2
  refine l_aload_n rfl rfl ?_
  refine l_ldcR (i := 34) rfl rfl ?_
  refine l_bipush rfl rfl ?_
  refine l_iconst rfl ?_
  have w50 : Xi T7 5 8 = Xi S 5 8 := (show Xi T7 5 8 = Xi T6 5 8 from w49.x _ _ rfl).trans ( (show Xi T6 5 8 = Xi T5 5 8 from w42.x _ _ rfl).trans ( (show Xi T5 5 8 = Xi T4 5 8 from w35.x _ _ rfl).trans ( (show Xi T4 5 8 = Xi T3 5 8 from w28.x _ _ rfl).trans ( (show Xi T3 5 8 = Xi T2 5 8 from w21.x _ _ rfl).trans ( (show Xi T2 5 8 = Xi U1 5 8 from w14.x _ _ rfl).trans ((show Xi U1 5 8 = Xi S 5 8 from by rw [eU1]; exact Xi_ne (by omega))))))))
  have w52 : 0 ≤ Xi T7 882 3 ∧ Xi T7 882 3 ≤ 20 := hHT7.c _ _
  refine l_callV rfl rfl rfl (t_co_addFirst__2 hHT7 34 _ (-2) 4 rfl ⟨by omega, by omega⟩ ⟨by omega, by omega⟩ (by first | assumption | omega) (by assumption) (⟨by omega, fun q => by first | omega | exact u0, fun q => by first | rfl | omega | exact absurd (u0.symm.trans q) (by decide) | exact absurd (u1.symm.trans q) (by decide) | exact absurd (u2.symm.trans q) (by decide) | exact absurd (u3.symm.trans q) (by decide)⟩) _) ?_
  rintro _ T8 ⟨hHT8, w56, rfl, w53, w54⟩
  have hFT8 : FR md_co_startAgain__2 S T8 := FR.tr hFT7 w56 rfl
  show Rl _ _ _ _ _ [] _ _
  have cm60 : CMD T8 := by assumption
  have y60 : Xi T8 5 8 = Xi S 5 8 := ((by assumption : FR md_co_addFirst__2 T7 T8).cx 5 rfl 8).1.trans y51
  have t60 : ∀ j, Xi T8 19 j = Xi S 19 j := fun j => ((by assumption : FR md_co_addFirst__2 T7 T8).cx 19 rfl j).1.trans (t51 j)
  have u0 : Xi T8 19 0 = -1 := (t60 0).trans a5.1
  have u1 : Xi T8 19 1 = 0 := (t60 1).trans a5.2.1
  have u2 : Xi T8 19 2 = 0 := (t60 2).trans a5.2.2.1
  have u3 : Xi T8 19 3 = 0 := (t60 3).trans a5.2.2.2.1
  have u4 : Xi T8 19 4 = -2 := (t60 4).trans a5.2.2.2.2
  refine l_return rfl rfl ?_
  have w57 : 0 ≤ Xi T8 882 3 ∧ Xi T8 882 3 ≤ 20 := hHT8.c _ _
  exact ⟨hHT8, hFT8, rfl, (by omega), (by assumption)⟩
/-! SAFETY of methods: printed by wip/safe (vc.py, decl.py) -/
/-! SAFETY: as at first: all holds -/
theorem WI_first {S : sS} (hL : LEX S) (hk : KN0 S 40 0) (hC : CMD S) (h8 : Xi S 5 8 = 5) (ha : Xi S 19 0 = -1 ∧ Xi S 19 1 = 0 ∧ Xi S 19 2 = 0 ∧ Xi S 19 3 = 0 ∧ Xi S 19 4 = -2) (h3 : Xi S 5 3 = 2) (h4 : Xi S 5 4 = 0) (hc : Xi S 11 0 = 1 ∧ Xi S 11 1 = 0) (hr : Xi S 246 2 = 0) (hq : Xi S 246 5 = 0) : WI S := by
  refine ⟨hL, TX_kn hk, fun a h1 h2 => ?_, fun i hi => by omega, hC, ⟨by omega, ha⟩, by unfold CC; omega, fun t => ?_⟩
  · rcases (by omega : a = 0 ∨ a = 1) with rfl | rfl
    · omega
    · omega
  · unfold vals
    rw [h4]
    show (0 : Int) ≤ 8
    decide
def md_bo_startAgain__2 : List rec := [(246, 247, 2, 3), (246, 247, 5, 6), (246, 247, 8, 9)]
abbrev Q_bo_startAgain__2 (S : sS) : pst := fun r S1 => HI S1 ∧ FR md_bo_startAgain__2 S S1 ∧ (r = none ∧ (Xi S1 246 2 = 0 ∧ Xi S1 246 5 = 0))
set_option maxRecDepth 100000 in
theorem t_bo_startAgain__2 {S : sS} (hH : HI S) (d : Nat) : Mt lay0 (d + 1) m_bo_startAgain [.ref 246] S (Q_bo_startAgain__2 S) := by
  refine Mt_R rfl rfl ?_
  have hF : FR md_bo_startAgain__2 S S := FR.rf
  refine l_aload_n rfl rfl ?_
  refine l_iconst rfl ?_
  refine l_pfi rfl rfl rfl rfl ?_
  obtain ⟨U1, eU1⟩ : ∃ T : sS, T = uI S 246 2 (Int32.ofInt 0) := ⟨_, rfl⟩
  rw [← eU1]
  have hHU1 : HI U1 := by rw [eU1]; exact HI_w hH (show 0 ≤ 0 by omega) (show 0 ≤ 24 by omega)
  have hFU1 : FR md_bo_startAgain__2 S U1 := by rw [eU1]; exact FR.wI hF (mdf_i (r := (246, 247, 2, 3)) (List.mem_of_getElem? (i := 0) rfl) (inR_i (by omega) (by omega) (by omega) (by omega)))
  have w1 : Xi U1 246 2 = 0 := by rw [eU1]; exact Xi_same (by unfold rg; omega)
  refine l_aload_n rfl rfl ?_
  refine l_iconst rfl ?_
  refine l_pfi rfl rfl rfl rfl ?_
  obtain ⟨U2, eU2⟩ : ∃ T : sS, T = uI U1 246 5 (Int32.ofInt 0) := ⟨_, rfl⟩
  rw [← eU2]
  have hHU2 : HI U2 := by rw [eU2]; exact HI_w hHU1 (show 0 ≤ 0 by omega) (show 0 ≤ 200000 by omega)
  have hFU2 : FR md_bo_startAgain__2 S U2 := by rw [eU2]; exact FR.wI hFU1 (mdf_i (r := (246, 247, 5, 6)) (List.mem_of_getElem? (i := 1) rfl) (inR_i (by omega) (by omega) (by omega) (by omega)))
  have w2 : Xi U2 246 5 = 0 := by rw [eU2]; exact Xi_same (by unfold rg; omega)
  refine l_aload_n rfl rfl ?_
  refine l_iconst rfl ?_
  refine l_pfi rfl rfl rfl rfl ?_
  obtain ⟨U3, eU3⟩ : ∃ T : sS, T = uI U2 246 8 (Int32.ofInt 0) := ⟨_, rfl⟩
  rw [← eU3]
  have hHU3 : HI U3 := by rw [eU3]; exact HI_w hHU2 (show 0 ≤ 0 by omega) (show 0 ≤ 1666 by omega)
  have hFU3 : FR md_bo_startAgain__2 S U3 := by rw [eU3]; exact FR.wI hFU2 (mdf_i (r := (246, 247, 8, 9)) (List.mem_of_getElem? (i := 2) rfl) (inR_i (by omega) (by omega) (by omega) (by omega)))
  have w3 : Xi U3 246 8 = 0 := by rw [eU3]; exact Xi_same (by unfold rg; omega)
  refine l_return rfl rfl ?_
  have w4 : Xi U3 246 2 = Xi U1 246 2 := (show Xi U3 246 2 = Xi U2 246 2 from by rw [eU3]; exact Xi_ne (by omega)).trans ((show Xi U2 246 2 = Xi U1 246 2 from by rw [eU2]; exact Xi_ne (by omega)))
  have w5 : 0 ≤ Xi U1 246 2 ∧ Xi U1 246 2 ≤ 24 := hHU1.c _ _
  have w6 : Xi U3 246 5 = Xi U2 246 5 := (show Xi U3 246 5 = Xi U2 246 5 from by rw [eU3]; exact Xi_ne (by omega))
  have w7 : 0 ≤ Xi U2 246 5 ∧ Xi U2 246 5 ≤ 200000 := hHU2.c _ _
  exact ⟨hHU3, hFU3, rfl, (⟨by first | omega | (rw [eU3, Xi_ne (by omega), eU2, Xi_ne (by omega), eU1]; exact Xi_same (by unfold rg; omega)), by first | omega | (rw [eU3, Xi_ne (by omega), eU2]; exact Xi_same (by unfold rg; omega))⟩)⟩
def md_rs_startAgain : List rec := [(1, 2, 3, 4), (2, 3, 0, 100000), (3, 4, 0, 100000), (4, 5, 0, 100000), (5, 6, 0, 100000), (6, 7, 0, 100000), (7, 8, 0, 100000), (9, 10, 0, 100000), (10, 11, 0, 100000), (11, 12, 0, 100000), (19, 20, 0, 100000), (20, 21, 12, 13), (21, 22, 0, 100000), (22, 23, 0, 100000), (23, 24, 0, 100000), (25, 65, 0, 100000), (66, 106, 0, 100000), (189, 195, 0, 100000), (196, 220, 0, 100000), (246, 247, 2, 3), (246, 247, 5, 6), (246, 247, 8, 9), (882, 883, 3, 4), (883, 884, 0, 100000), (884, 885, 0, 100000), (885, 886, 0, 100000), (886, 887, 0, 100000), (887, 888, 0, 100000), (891, 892, 10, 11)]
abbrev Q_rs_startAgain (S : sS) : pst := fun r S1 => HI S1 ∧ FR md_rs_startAgain S S1 ∧ (r = none ∧ (WI S1) ∧ (Xi S1 246 2 = 0))
set_option maxRecDepth 100000 in
theorem t_rs_startAgain {S : sS} (hH : HI S) (d : Nat) : Mt lay0 (d + 9) m_rs_startAgain [.ref 0] S (Q_rs_startAgain S) := by
  refine Mt_R rfl rfl ?_
  have hF : FR md_rs_startAgain S S := FR.rf
  refine l_aload_n rfl rfl ?_
  refine l_gfr rfl rfl rfl rfl rfl (hH.r 0 0 1 rfl) ?_
  refine l_callV rfl rfl rfl (t_vo_startAgain hH _) ?_
  rintro _ T1 ⟨hHT1, w6, rfl, w1, w2, w3, w4⟩
  have hFT1 : FR md_rs_startAgain S T1 := FR.tr hF w6 rfl
  show Rl _ _ _ _ _ [] _ _
  have c4 : Xi T1 5 0 = 5 ∧ Xi T1 5 1 = 2 ∧ Xi T1 5 2 = 0 ∧ Xi T1 5 3 = 2 ∧ Xi T1 5 4 = 0 ∧ Xi T1 5 5 = 1 ∧ Xi T1 5 6 = 0 ∧ Xi T1 5 7 = 0 ∧ Xi T1 5 8 = 5 := by assumption
  have a4 : Xi T1 19 0 = -1 ∧ Xi T1 19 1 = 0 ∧ Xi T1 19 2 = 0 ∧ Xi T1 19 3 = 0 ∧ Xi T1 19 4 = -2 := by assumption
  have k4 : Xi T1 11 0 = 1 ∧ Xi T1 11 1 = 0 := by assumption
  have l4 : LEX T1 := by assumption
  have m4 : Xi T1 5 2 = 0 := c4.2.2.1
  have n4_3 : Xi T1 5 3 = 2 := c4.2.2.2.1
  have n4_4 : Xi T1 5 4 = 0 := c4.2.2.2.2.1
  have n4_8 : Xi T1 5 8 = 5 := c4.2.2.2.2.2.2.2.2
  refine l_aload_n rfl rfl ?_
  refine l_gfr rfl rfl rfl rfl rfl (hHT1.r 0 1 20 rfl) ?_
  have w7 : 0 ≤ Xi T1 5 2 ∧ Xi T1 5 2 ≤ 24 := hHT1.c _ _
  refine l_callV rfl rfl rfl (t_wo_startAgain hHT1 (by assumption) (by assumption) _) ?_
  rintro _ T2 ⟨hHT2, w13, rfl, w8, w9, w10, w11⟩
  have hFT2 : FR md_rs_startAgain S T2 := FR.tr hFT1 w13 rfl
  show Rl _ _ _ _ _ [] _ _
  have f11 : FR md_wo_startAgain T1 T2 := by assumption
  have q11 : ∀ j, Xi T2 19 j = Xi T1 19 j := fun j => (f11.cx 19 rfl j).1
  have a11 : Xi T2 19 0 = -1 ∧ Xi T2 19 1 = 0 ∧ Xi T2 19 2 = 0 ∧ Xi T2 19 3 = 0 ∧ Xi T2 19 4 = -2 := by rw [q11, q11, q11, q11, q11]; exact a4
  have p11 : ∀ j, Xi T2 11 j = Xi T1 11 j := fun j => (f11.cx 11 rfl j).1
  have k11 : Xi T2 11 0 = 1 ∧ Xi T2 11 1 = 0 := by rw [p11, p11]; exact k4
  have o11 : ∀ j, j ≠ 2 → Xi T2 5 j = Xi T1 5 j := by assumption
  have n11_3 : Xi T2 5 3 = 2 := (o11 3 (by decide)).trans n4_3
  have n11_4 : Xi T2 5 4 = 0 := (o11 4 (by decide)).trans n4_4
  have n11_8 : Xi T2 5 8 = 5 := (o11 8 (by decide)).trans n4_8
  have l11 : LEX T2 := by assumption
  have z11 : KN0 T2 40 0 := by assumption
  refine l_aload_n rfl rfl ?_
  refine l_gfr rfl rfl rfl rfl rfl (hHT2.r 0 2 246 rfl) ?_
  refine l_callV rfl rfl rfl (t_bo_startAgain__2 hHT2 _) ?_
  rintro _ T3 ⟨hHT3, w16, rfl, w14⟩
  have hFT3 : FR md_rs_startAgain S T3 := FR.tr hFT2 w16 rfl
  show Rl _ _ _ _ _ [] _ _
  have f18 : FR md_bo_startAgain__2 T2 T3 := by assumption
  have q18 : ∀ j, Xi T3 19 j = Xi T2 19 j := fun j => (f18.cx 19 rfl j).1
  have a18 : Xi T3 19 0 = -1 ∧ Xi T3 19 1 = 0 ∧ Xi T3 19 2 = 0 ∧ Xi T3 19 3 = 0 ∧ Xi T3 19 4 = -2 := by rw [q18, q18, q18, q18, q18]; exact a11
  have p18 : ∀ j, Xi T3 11 j = Xi T2 11 j := fun j => (f18.cx 11 rfl j).1
  have k18 : Xi T3 11 0 = 1 ∧ Xi T3 11 1 = 0 := by rw [p18, p18]; exact k11
  have n18_3 : Xi T3 5 3 = 2 := (f18.cx 5 rfl 3).1.trans n11_3
  have n18_4 : Xi T3 5 4 = 0 := (f18.cx 5 rfl 4).1.trans n11_4
  have n18_8 : Xi T3 5 8 = 5 := (f18.cx 5 rfl 8).1.trans n11_8
  have l18 : LEX T3 := LEX_FR f18 rfl rfl l11
  have z18 : KN0 T3 40 0 := kn_f f18 rfl z11
  have r18 : Xi T3 246 2 = 0 ∧ Xi T3 246 5 = 0 := by assumption
  refine l_aload_n rfl rfl ?_
  refine l_gfr rfl rfl rfl rfl rfl (hHT3.r 0 3 882 rfl) ?_
  have w17 : Xi T3 19 0 = Xi T1 19 0 := (show Xi T3 19 0 = Xi T2 19 0 from w16.x _ _ rfl).trans ((show Xi T2 19 0 = Xi T1 19 0 from w13.x _ _ rfl))
  have w18 : -2 ≤ Xi T1 19 0 ∧ Xi T1 19 0 ≤ 15 := hHT1.c _ _
  have w19 : Xi T3 19 1 = Xi T1 19 1 := (show Xi T3 19 1 = Xi T2 19 1 from w16.x _ _ rfl).trans ((show Xi T2 19 1 = Xi T1 19 1 from w13.x _ _ rfl))
  have w20 : -2 ≤ Xi T1 19 1 ∧ Xi T1 19 1 ≤ 15 := hHT1.c _ _
  have w21 : Xi T3 19 2 = Xi T1 19 2 := (show Xi T3 19 2 = Xi T2 19 2 from w16.x _ _ rfl).trans ((show Xi T2 19 2 = Xi T1 19 2 from w13.x _ _ rfl))
  have w22 : -2 ≤ Xi T1 19 2 ∧ Xi T1 19 2 ≤ 15 := hHT1.c _ _
  have w23 : Xi T3 19 3 = Xi T1 19 3 := (show Xi T3 19 3 = Xi T2 19 3 from w16.x _ _ rfl).trans ((show Xi T2 19 3 = Xi T1 19 3 from w13.x _ _ rfl))
  have w24 : -2 ≤ Xi T1 19 3 ∧ Xi T1 19 3 ≤ 15 := hHT1.c _ _
  have w25 : Xi T3 19 4 = Xi T1 19 4 := (show Xi T3 19 4 = Xi T2 19 4 from w16.x _ _ rfl).trans ((show Xi T2 19 4 = Xi T1 19 4 from w13.x _ _ rfl))
  have w26 : -2 ≤ Xi T1 19 4 ∧ Xi T1 19 4 ≤ 15 := hHT1.c _ _
  have w27 : Xi T3 5 8 = Xi T2 5 8 := (show Xi T3 5 8 = Xi T2 5 8 from w16.x _ _ rfl)
  have w28 : 0 ≤ Xi T2 5 8 ∧ Xi T2 5 8 ≤ 12 := hHT2.c _ _
  refine l_callV rfl rfl rfl (t_co_startAgain__2 hHT3 (by omega) (by assumption) _) ?_
  rintro _ T4 ⟨hHT4, w32, rfl, w29, w30⟩
  have hFT4 : FR md_rs_startAgain S T4 := FR.tr hFT3 w32 rfl
  show Rl _ _ _ _ _ [] _ _
  have f25 : FR md_co_startAgain__2 T3 T4 := by assumption
  have q25 : ∀ j, Xi T4 19 j = Xi T3 19 j := fun j => (f25.cx 19 rfl j).1
  have a25 : Xi T4 19 0 = -1 ∧ Xi T4 19 1 = 0 ∧ Xi T4 19 2 = 0 ∧ Xi T4 19 3 = 0 ∧ Xi T4 19 4 = -2 := by rw [q25, q25, q25, q25, q25]; exact a18
  have p25 : ∀ j, Xi T4 11 j = Xi T3 11 j := fun j => (f25.cx 11 rfl j).1
  have k25 : Xi T4 11 0 = 1 ∧ Xi T4 11 1 = 0 := by rw [p25, p25]; exact k18
  have n25_3 : Xi T4 5 3 = 2 := (f25.cx 5 rfl 3).1.trans n18_3
  have n25_4 : Xi T4 5 4 = 0 := (f25.cx 5 rfl 4).1.trans n18_4
  have n25_8 : Xi T4 5 8 = 5 := (f25.cx 5 rfl 8).1.trans n18_8
  have l25 : LEX T4 := LEX_FR f25 rfl rfl l18
  have z25 : KN0 T4 40 0 := kn_f f25 rfl z18
  have r25 : Xi T4 246 2 = 0 ∧ Xi T4 246 5 = 0 := ⟨(f25.x 246 2 rfl).trans r18.1, (f25.x 246 5 rfl).trans r18.2⟩
  have d25 : CMD T4 := by assumption
  refine l_aload_n rfl rfl ?_
  refine l_gfr rfl rfl rfl rfl rfl (hHT4.r 0 6 891 rfl) ?_
  refine l_callV rfl rfl rfl (t_re_startAgain hHT4 _) ?_
  rintro _ T5 ⟨hHT5, w34, rfl⟩
  have hFT5 : FR md_rs_startAgain S T5 := FR.tr hFT4 w34 rfl
  show Rl _ _ _ _ _ [] _ _
  have f32 : FR md_re_startAgain T4 T5 := by assumption
  have q32 : ∀ j, Xi T5 19 j = Xi T4 19 j := fun j => (f32.cx 19 rfl j).1
  have a32 : Xi T5 19 0 = -1 ∧ Xi T5 19 1 = 0 ∧ Xi T5 19 2 = 0 ∧ Xi T5 19 3 = 0 ∧ Xi T5 19 4 = -2 := by rw [q32, q32, q32, q32, q32]; exact a25
  have p32 : ∀ j, Xi T5 11 j = Xi T4 11 j := fun j => (f32.cx 11 rfl j).1
  have k32 : Xi T5 11 0 = 1 ∧ Xi T5 11 1 = 0 := by rw [p32, p32]; exact k25
  have n32_3 : Xi T5 5 3 = 2 := (f32.cx 5 rfl 3).1.trans n25_3
  have n32_4 : Xi T5 5 4 = 0 := (f32.cx 5 rfl 4).1.trans n25_4
  have n32_8 : Xi T5 5 8 = 5 := (f32.cx 5 rfl 8).1.trans n25_8
  have l32 : LEX T5 := LEX_FR f32 rfl rfl l25
  have z32 : KN0 T5 40 0 := kn_f f32 rfl z25
  have r32 : Xi T5 246 2 = 0 ∧ Xi T5 246 5 = 0 := ⟨(f32.x 246 2 rfl).trans r25.1, (f32.x 246 5 rfl).trans r25.2⟩
  have d32 : CMD T5 := CMD_FR f32 rfl d25
  have wi32 : WI T5 := WI_first l32 z32 d32 n32_8 a32 n32_3 n32_4 k32 r32.1 r32.2
  refine l_return rfl rfl ?_
  have w35 : Xi T5 246 2 = Xi T3 246 2 := (show Xi T5 246 2 = Xi T4 246 2 from w34.x _ _ rfl).trans ((show Xi T4 246 2 = Xi T3 246 2 from w32.x _ _ rfl))
  have w36 : 0 ≤ Xi T3 246 2 ∧ Xi T3 246 2 ≤ 24 := hHT3.c _ _
  exact ⟨hHT5, hFT5, rfl, (wi32), (r32.1)⟩
/-! SAFETY of methods: printed by wip/safe (vc.py, decl.py) -/
/-! SAFETY: rules: every other clause stays -/
def KCL (S T : sS) (c : Nat) : Prop := ∀ k j : Nat, k < 600 → k ≠ c → Xi T (276 + k) j = Xi S (276 + k) j
theorem KCL.rf {S : sS} {c : Nat} : KCL S S c := fun _ _ _ _ => rfl
theorem kcl_w {S T U : sS} {c j : Nat} {v : Int32} (e : U = uI T (276 + c) j v) (h : KCL S T c) : KCL S U c := fun k i hk hn => by
  rw [e, Xi_ne (by omega)]; exact h k i hk hn
theorem kcl_o {S T U : sS} {c x j : Nat} {v : Int32} (e : U = uI T x j v) (hx : x < 276 ∨ 876 ≤ x) (h : KCL S T c) : KCL S U c := fun k i hk hn => by
  rw [e, Xi_ne (by omega)]; exact h k i hk hn
theorem kcl_tr {S T U : sS} {c : Nat} (h : KCL S T c) (g : KCL T U c) : KCL S U c := fun k i hk hn => (g k i hk hn).trans (h k i hk hn)
theorem kcl_f {l : List rec} {S T U : sS} {c : Nat} (f : FR l T U) (e : kdis l [(276, 876)] = true) (h : KCL S T c) : KCL S U c := fun k i hk hn => by
  have q := (f.smk e).x (276 + k) (by unfold inK; simp only [List.any_cons, List.any_nil, Bool.or_false, Bool.and_eq_true]; exact ⟨Nat.ble_eq_true_of_le (by omega), by unfold Nat.blt; exact Nat.ble_eq_true_of_le (by omega)⟩) i
  rw [q]; exact h k i hk hn
def md_cl_start__2 : List rec := [(276, 876, 0, 1), (276, 876, 1, 2), (276, 876, 2, 3), (276, 876, 3, 4), (276, 876, 4, 5), (276, 876, 5, 6), (276, 876, 6, 7)]
abbrev Q_cl_start__2 (S : sS) (c : Nat) (form : Int) : pst := fun r S1 => HI S1 ∧ FR md_cl_start__2 S S1 ∧ (r = none ∧ (KCL S S1 c) ∧ (Xi S1 (276 + c) 0 = form ∧ Xi S1 (276 + c) 1 = 0 ∧ Xi S1 (276 + c) 2 = -1 ∧ Xi S1 (276 + c) 3 = -1 ∧ Xi S1 (276 + c) 4 = 0 ∧ Xi S1 (276 + c) 5 = 0 ∧ Xi S1 (276 + c) 6 = -1))
set_option maxRecDepth 100000 in
theorem t_cl_start__2 {S : sS} (hH : HI S) (c : Nat) (form : Int) (hc : c < 600) (hform : 0 ≤ form ∧ form ≤ 11) (d : Nat) : Mt lay0 (d + 1) m_cl_start [.ref (276 + c), iv form] S (Q_cl_start__2 S c form) := by
  refine Mt_R rfl rfl ?_
  have hF : FR md_cl_start__2 S S := FR.rf
  refine l_aload_n rfl rfl ?_
  refine l_iload_n rfl rfl ?_
  refine l_pfi rfl rfl (layClW (by omega) rfl) rfl ?_
  obtain ⟨U1, eU1⟩ : ∃ T : sS, T = uI S (276 + c) 0 (Int32.ofInt form) := ⟨_, rfl⟩
  rw [← eU1]
  have hHU1 : HI U1 := by rw [eU1]; exact HI_w hH (by rw [lh_cl0 (by omega)]; omega) (by rw [lh_cl0 (by omega)]; omega)
  have hFU1 : FR md_cl_start__2 S U1 := by rw [eU1]; exact FR.wI hF (mdf_i (r := (276, 876, 0, 1)) (List.mem_of_getElem? (i := 0) rfl) (inR_i (by omega) (by omega) (by omega) (by omega)))
  have w1 : Xi U1 (276 + c) 0 = form := by rw [eU1]; exact Xi_same (by unfold rg; omega)
  have kc0 : KCL S U1 c := kcl_w eU1 KCL.rf
  have x0_0 : Xi U1 (276 + c) 0 = form := by rw [eU1]; exact Xi_same (by unfold rg; omega)
  refine l_aload_n rfl rfl ?_
  refine l_iconst rfl ?_
  refine l_pfz rfl rfl (layClW (by omega) rfl) rfl (by omega) ?_
  obtain ⟨U2, eU2⟩ : ∃ T : sS, T = uI U1 (276 + c) 1 (Int32.ofInt 0) := ⟨_, rfl⟩
  rw [← eU2]
  have hHU2 : HI U2 := by rw [eU2]; exact HI_w hHU1 (by rw [lh_cl1 (by omega)]; omega) (by rw [lh_cl1 (by omega)]; omega)
  have hFU2 : FR md_cl_start__2 S U2 := by rw [eU2]; exact FR.wI hFU1 (mdf_i (r := (276, 876, 1, 2)) (List.mem_of_getElem? (i := 1) rfl) (inR_i (by omega) (by omega) (by omega) (by omega)))
  have w2 : Xi U2 (276 + c) 1 = 0 := by rw [eU2]; exact Xi_same (by unfold rg; omega)
  have kc1 : KCL S U2 c := kcl_w eU2 kc0
  have x1_0 : Xi U2 (276 + c) 0 = form := by rw [eU2, Xi_ne (by omega)]; exact x0_0
  have x1_1 : Xi U2 (276 + c) 1 = 0 := by rw [eU2]; exact Xi_same (by unfold rg; omega)
  refine l_aload_n rfl rfl ?_
  refine l_iconst rfl ?_
  refine l_pfi rfl rfl (layClW (by omega) rfl) rfl ?_
  obtain ⟨U3, eU3⟩ : ∃ T : sS, T = uI U2 (276 + c) 2 (Int32.ofInt (-1)) := ⟨_, rfl⟩
  rw [← eU3]
  have hHU3 : HI U3 := by rw [eU3]; exact HI_w hHU2 (by rw [lh_cl2 (by omega)]; omega) (by rw [lh_cl2 (by omega)]; omega)
  have hFU3 : FR md_cl_start__2 S U3 := by rw [eU3]; exact FR.wI hFU2 (mdf_i (r := (276, 876, 2, 3)) (List.mem_of_getElem? (i := 2) rfl) (inR_i (by omega) (by omega) (by omega) (by omega)))
  have w3 : Xi U3 (276 + c) 2 = (-1) := by rw [eU3]; exact Xi_same (by unfold rg; omega)
  have kc2 : KCL S U3 c := kcl_w eU3 kc1
  have x2_0 : Xi U3 (276 + c) 0 = form := by rw [eU3, Xi_ne (by omega)]; exact x1_0
  have x2_1 : Xi U3 (276 + c) 1 = 0 := by rw [eU3, Xi_ne (by omega)]; exact x1_1
  have x2_2 : Xi U3 (276 + c) 2 = -1 := by rw [eU3]; exact Xi_same (by unfold rg; omega)
  refine l_aload_n rfl rfl ?_
  refine l_iconst rfl ?_
  refine l_pfi rfl rfl (layClW (by omega) rfl) rfl ?_
  obtain ⟨U4, eU4⟩ : ∃ T : sS, T = uI U3 (276 + c) 3 (Int32.ofInt (-1)) := ⟨_, rfl⟩
  rw [← eU4]
  have hHU4 : HI U4 := by rw [eU4]; exact HI_w hHU3 (by rw [lh_cl3 (by omega)]; omega) (by rw [lh_cl3 (by omega)]; omega)
  have hFU4 : FR md_cl_start__2 S U4 := by rw [eU4]; exact FR.wI hFU3 (mdf_i (r := (276, 876, 3, 4)) (List.mem_of_getElem? (i := 3) rfl) (inR_i (by omega) (by omega) (by omega) (by omega)))
  have w4 : Xi U4 (276 + c) 3 = (-1) := by rw [eU4]; exact Xi_same (by unfold rg; omega)
  have kc3 : KCL S U4 c := kcl_w eU4 kc2
  have x3_0 : Xi U4 (276 + c) 0 = form := by rw [eU4, Xi_ne (by omega)]; exact x2_0
  have x3_1 : Xi U4 (276 + c) 1 = 0 := by rw [eU4, Xi_ne (by omega)]; exact x2_1
  have x3_2 : Xi U4 (276 + c) 2 = -1 := by rw [eU4, Xi_ne (by omega)]; exact x2_2
  have x3_3 : Xi U4 (276 + c) 3 = -1 := by rw [eU4]; exact Xi_same (by unfold rg; omega)
  refine l_aload_n rfl rfl ?_
  refine l_iconst rfl ?_
  refine l_pfi rfl rfl (layClW (by omega) rfl) rfl ?_
  obtain ⟨U5, eU5⟩ : ∃ T : sS, T = uI U4 (276 + c) 4 (Int32.ofInt 0) := ⟨_, rfl⟩
  rw [← eU5]
  have hHU5 : HI U5 := by rw [eU5]; exact HI_any hHU4 (lh_cl4 (by omega))
  have hFU5 : FR md_cl_start__2 S U5 := by rw [eU5]; exact FR.wI hFU4 (mdf_i (r := (276, 876, 4, 5)) (List.mem_of_getElem? (i := 4) rfl) (inR_i (by omega) (by omega) (by omega) (by omega)))
  have w5 : Xi U5 (276 + c) 4 = 0 := by rw [eU5]; exact Xi_same (by unfold rg; omega)
  have kc4 : KCL S U5 c := kcl_w eU5 kc3
  have x4_0 : Xi U5 (276 + c) 0 = form := by rw [eU5, Xi_ne (by omega)]; exact x3_0
  have x4_1 : Xi U5 (276 + c) 1 = 0 := by rw [eU5, Xi_ne (by omega)]; exact x3_1
  have x4_2 : Xi U5 (276 + c) 2 = -1 := by rw [eU5, Xi_ne (by omega)]; exact x3_2
  have x4_3 : Xi U5 (276 + c) 3 = -1 := by rw [eU5, Xi_ne (by omega)]; exact x3_3
  have x4_4 : Xi U5 (276 + c) 4 = 0 := by rw [eU5]; exact Xi_same (by unfold rg; omega)
  refine l_aload_n rfl rfl ?_
  refine l_iconst rfl ?_
  refine l_pfi rfl rfl (layClW (by omega) rfl) rfl ?_
  obtain ⟨U6, eU6⟩ : ∃ T : sS, T = uI U5 (276 + c) 5 (Int32.ofInt 0) := ⟨_, rfl⟩
  rw [← eU6]
  have hHU6 : HI U6 := by rw [eU6]; exact HI_any hHU5 (lh_cl5 (by omega))
  have hFU6 : FR md_cl_start__2 S U6 := by rw [eU6]; exact FR.wI hFU5 (mdf_i (r := (276, 876, 5, 6)) (List.mem_of_getElem? (i := 5) rfl) (inR_i (by omega) (by omega) (by omega) (by omega)))
  have w6 : Xi U6 (276 + c) 5 = 0 := by rw [eU6]; exact Xi_same (by unfold rg; omega)
  have kc5 : KCL S U6 c := kcl_w eU6 kc4
  have x5_0 : Xi U6 (276 + c) 0 = form := by rw [eU6, Xi_ne (by omega)]; exact x4_0
  have x5_1 : Xi U6 (276 + c) 1 = 0 := by rw [eU6, Xi_ne (by omega)]; exact x4_1
  have x5_2 : Xi U6 (276 + c) 2 = -1 := by rw [eU6, Xi_ne (by omega)]; exact x4_2
  have x5_3 : Xi U6 (276 + c) 3 = -1 := by rw [eU6, Xi_ne (by omega)]; exact x4_3
  have x5_4 : Xi U6 (276 + c) 4 = 0 := by rw [eU6, Xi_ne (by omega)]; exact x4_4
  have x5_5 : Xi U6 (276 + c) 5 = 0 := by rw [eU6]; exact Xi_same (by unfold rg; omega)
  refine l_aload_n rfl rfl ?_
  refine l_iconst rfl ?_
  refine l_pfi rfl rfl (layClW (by omega) rfl) rfl ?_
  obtain ⟨U7, eU7⟩ : ∃ T : sS, T = uI U6 (276 + c) 6 (Int32.ofInt (-1)) := ⟨_, rfl⟩
  rw [← eU7]
  have hHU7 : HI U7 := by rw [eU7]; exact HI_w hHU6 (by rw [lh_cl6 (by omega)]; omega) (by rw [lh_cl6 (by omega)]; omega)
  have hFU7 : FR md_cl_start__2 S U7 := by rw [eU7]; exact FR.wI hFU6 (mdf_i (r := (276, 876, 6, 7)) (List.mem_of_getElem? (i := 6) rfl) (inR_i (by omega) (by omega) (by omega) (by omega)))
  have w7 : Xi U7 (276 + c) 6 = (-1) := by rw [eU7]; exact Xi_same (by unfold rg; omega)
  have kc6 : KCL S U7 c := kcl_w eU7 kc5
  have x6_0 : Xi U7 (276 + c) 0 = form := by rw [eU7, Xi_ne (by omega)]; exact x5_0
  have x6_1 : Xi U7 (276 + c) 1 = 0 := by rw [eU7, Xi_ne (by omega)]; exact x5_1
  have x6_2 : Xi U7 (276 + c) 2 = -1 := by rw [eU7, Xi_ne (by omega)]; exact x5_2
  have x6_3 : Xi U7 (276 + c) 3 = -1 := by rw [eU7, Xi_ne (by omega)]; exact x5_3
  have x6_4 : Xi U7 (276 + c) 4 = 0 := by rw [eU7, Xi_ne (by omega)]; exact x5_4
  have x6_5 : Xi U7 (276 + c) 5 = 0 := by rw [eU7, Xi_ne (by omega)]; exact x5_5
  have x6_6 : Xi U7 (276 + c) 6 = -1 := by rw [eU7]; exact Xi_same (by unfold rg; omega)
  refine l_return rfl rfl ?_
  exact ⟨hHU7, hFU7, rfl, (kc6), (⟨x6_0, x6_1, x6_2, x6_3, x6_4, x6_5, x6_6⟩)⟩
def md_bo_nextClause__2 : List rec := [(246, 247, 5, 6), (276, 876, 0, 1), (276, 876, 1, 2), (276, 876, 2, 3), (276, 876, 3, 4), (276, 876, 4, 5), (276, 876, 5, 6), (276, 876, 6, 7)]
abbrev Q_bo_nextClause__2 (S : sS) (form : Int) : pst := fun r S1 => HI S1 ∧ FR md_bo_nextClause__2 S S1 ∧ (∃ z : Nat, r = some (.ref (276 + z)) ∧ z < 600 ∧ (Xi S1 246 5 = Xi S 246 5 + 1) ∧ ((z : Int) = Xi S 246 5) ∧ (KCL S S1 z) ∧ (Xi S1 (276 + z) 0 = form ∧ Xi S1 (276 + z) 1 = 0 ∧ Xi S1 (276 + z) 2 = -1 ∧ Xi S1 (276 + z) 3 = -1 ∧ Xi S1 (276 + z) 4 = 0 ∧ Xi S1 (276 + z) 5 = 0 ∧ Xi S1 (276 + z) 6 = -1))
set_option maxRecDepth 100000 in
theorem t_bo_nextClause__2 {S : sS} (hH : HI S) (form : Int) (hform : 0 ≤ form ∧ form ≤ 11) (hcc : Xi S 246 5 < 600) (d : Nat) : Mt lay0 (d + 2) m_bo_nextClause [.ref 246, iv form] S (Q_bo_nextClause__2 S form) := by
  refine Mt_R rfl rfl ?_
  have hF : FR md_bo_nextClause__2 S S := FR.rf
  have w1 : 0 ≤ Xi S 246 5 ∧ Xi S 246 5 ≤ 200000 := hH.c _ _
  refine l_aload_n rfl rfl ?_
  refine l_gfr rfl rfl rfl rfl rfl (hH.r 246 4 273 rfl) ?_
  refine l_aload_n rfl rfl ?_
  refine l_gfi rfl rfl rfl rfl rfl ?_
  refine l_sipush rfl rfl ?_
  refine l_icmp_ge rfl rfl (by unfold rg; omega) (by unfold rg; omega) (fun w2 => ?_) (fun w3 => ?_)
  · refine l_sipush rfl rfl ?_
    refine l_aaload (n := 600) (a := 276 + (599 : Int).toNat) rfl rfl (by decide) (by omega) (by omega) (by unfold rg; omega) (RW_273 hH (by omega)) ?_
    refine l_astore_n rfl rfl rfl ?_
    refine l_aload_n rfl rfl ?_
    refine l_dup rfl rfl ?_
    refine l_gfi rfl rfl rfl rfl rfl ?_
    refine l_iconst rfl ?_
    refine l_iadd rfl ?_
    refine l_pfi rfl rfl rfl rfl ?_
    obtain ⟨U1, eU1⟩ : ∃ T : sS, T = uI S 246 5 (Int32.ofInt ((Xi S 246 5) + 1)) := ⟨_, rfl⟩
    rw [← eU1]
    have hHU1 : HI U1 := by rw [eU1]; exact HI_w hH (show 0 ≤ ((Xi S 246 5) + 1) by omega) (show ((Xi S 246 5) + 1) ≤ 200000 by omega)
    have hFU1 : FR md_bo_nextClause__2 S U1 := by rw [eU1]; exact FR.wI hF (mdf_i (r := (246, 247, 5, 6)) (List.mem_of_getElem? (i := 0) rfl) (inR_i (by omega) (by omega) (by omega) (by omega)))
    have w4 : Xi U1 246 5 = ((Xi S 246 5) + 1) := by rw [eU1]; exact Xi_same (by unfold rg; omega)
    have e33 := eU1
    refine l_aload_n rfl rfl ?_
    refine l_iload_n rfl rfl ?_
    have w5 : 0 ≤ Xi U1 246 5 ∧ Xi U1 246 5 ≤ 200000 := hHU1.c _ _
    refine l_callV rfl rfl (cOk_cl (by omega) rfl) (t_cl_start__2 hHU1 ((599 : Int).toNat) form (by omega) ⟨by omega, by omega⟩ _) ?_
    rintro _ T2 ⟨hHT2, w9, rfl, w6, w7⟩
    have hFT2 : FR md_bo_nextClause__2 S T2 := FR.tr hFU1 w9 rfl
    show Rl _ _ _ _ _ [] _ _
    refine l_aload_n rfl rfl ?_
    refine l_areturn rfl rfl ?_
    have w10 : Xi T2 246 5 = Xi U1 246 5 := (show Xi T2 246 5 = Xi U1 246 5 from w9.x _ _ rfl)
    exact ⟨hHT2, hFT2, _, rfl, (by omega), (by first | assumption | omega), (by omega), (kcl_tr (kcl_o e33 (by omega) KCL.rf) (by assumption)), (by assumption)⟩
  · refine l_aload_n rfl rfl ?_
    refine l_gfi rfl rfl rfl rfl rfl ?_
    refine l_goto rfl rfl ?_
    refine l_aaload (n := 600) (a := 276 + ((Xi S 246 5)).toNat) rfl rfl (by decide) (by omega) (by omega) (by unfold rg; omega) (RW_273 hH (by omega)) ?_
    refine l_astore_n rfl rfl rfl ?_
    refine l_aload_n rfl rfl ?_
    refine l_dup rfl rfl ?_
    refine l_gfi rfl rfl rfl rfl rfl ?_
    refine l_iconst rfl ?_
    refine l_iadd rfl ?_
    refine l_pfi rfl rfl rfl rfl ?_
    obtain ⟨U3, eU3⟩ : ∃ T : sS, T = uI S 246 5 (Int32.ofInt ((Xi S 246 5) + 1)) := ⟨_, rfl⟩
    rw [← eU3]
    have hHU3 : HI U3 := by rw [eU3]; exact HI_w hH (show 0 ≤ ((Xi S 246 5) + 1) by omega) (show ((Xi S 246 5) + 1) ≤ 200000 by omega)
    have hFU3 : FR md_bo_nextClause__2 S U3 := by rw [eU3]; exact FR.wI hF (mdf_i (r := (246, 247, 5, 6)) (List.mem_of_getElem? (i := 0) rfl) (inR_i (by omega) (by omega) (by omega) (by omega)))
    have w12 : Xi U3 246 5 = ((Xi S 246 5) + 1) := by rw [eU3]; exact Xi_same (by unfold rg; omega)
    have e33 := eU3
    refine l_aload_n rfl rfl ?_
    refine l_iload_n rfl rfl ?_
    have w13 : 0 ≤ Xi U3 246 5 ∧ Xi U3 246 5 ≤ 200000 := hHU3.c _ _
    refine l_callV rfl rfl (cOk_cl (by omega) rfl) (t_cl_start__2 hHU3 (((Xi S 246 5)).toNat) form (by omega) ⟨by omega, by omega⟩ _) ?_
    rintro _ T4 ⟨hHT4, w17, rfl, w14, w15⟩
    have hFT4 : FR md_bo_nextClause__2 S T4 := FR.tr hFU3 w17 rfl
    show Rl _ _ _ _ _ [] _ _
    refine l_aload_n rfl rfl ?_
    refine l_areturn rfl rfl ?_
    have w18 : Xi T4 246 5 = Xi U3 246 5 := (show Xi T4 246 5 = Xi U3 246 5 from w17.x _ _ rfl)
    exact ⟨hHT4, hFT4, _, rfl, (by omega), (by first | assumption | omega), (by omega), (kcl_tr (kcl_o e33 (by omega) KCL.rf) (by assumption)), (by assumption)⟩
/-! SAFETY of methods: printed by wip/safe (vc.py, decl.py) -/
theorem cl_keep {l : List rec} {S T : sS} {c : Nat} (f : FR l S T) (e : kdis l [(276, 876)] = true) (hc : c < 600) : ∀ j, Xi T (276 + c) j = Xi S (276 + c) j := fun j => (f.smk e).x (276 + c) (by unfold inK; simp only [List.any_cons, List.any_nil, Bool.or_false, Bool.and_eq_true]; exact ⟨Nat.ble_eq_true_of_le (by omega), by unfold Nat.blt; exact Nat.ble_eq_true_of_le (by omega)⟩) j
def md_rr_placeTest : List rec := [(276, 876, 0, 1), (276, 876, 4, 5), (276, 876, 6, 7), (876, 877, 8, 9), (876, 877, 9, 10), (895, 896, 5, 6), (895, 896, 6, 7), (895, 896, 7, 8)]
abbrev Q_rr_placeTest (S : sS) (from_ : Int) (to : Int) (cl : Nat) : pst := fun r S1 => HI S1 ∧ FR md_rr_placeTest S S1 ∧ (∃ z : Int, r = some (iv z) ∧ (0 ≤ z ∧ z ≤ 1) ∧ (KCL S S1 cl) ∧ (Xi S1 (276 + cl) 0 = 5) ∧ (∀ j, j < 4 → j ≠ 0 → Xi S1 (276 + cl) j = Xi S (276 + cl) j) ∧ (z = 0 → Xi S1 876 8 ≠ 0))
set_option maxRecDepth 100000 in
theorem t_rr_placeTest {S : sS} (hH : HI S) (from_ : Int) (to : Int) (cl : Nat) (hfrom_ : 0 ≤ from_ ∧ from_ ≤ 5130) (hto : -1 ≤ to ∧ to ≤ 5130) (hcl : cl < 600) (hL : LEX S) (d : Nat) : Mt lay0 (d + 3) m_rr_placeTest [.ref 899, iv from_, iv to, .ref (276 + cl)] S (Q_rr_placeTest S from_ to cl) := by
  refine Mt_R rfl rfl ?_
  have hF : FR md_rr_placeTest S S := FR.rf
  refine l_aload_n rfl rfl ?_
  refine l_gfr rfl rfl rfl rfl rfl (hH.r 899 0 876 rfl) ?_
  refine l_iload_n rfl rfl ?_
  have w1 : 0 ≤ Xi S 876 7 ∧ Xi S 876 7 ≤ 5125 := hH.c _ _
  refine l_callV rfl rfl rfl (t_to_typeAt hH from_ ⟨by omega, by omega⟩ _) ?_
  rintro _ _ ⟨rfl, z5, rfl, w5, w2, w3, w4⟩
  clear w3 w4
  show Rl _ _ _ _ _ [iv z5] _ _
  refine l_istore rfl rfl rfl ?_
  refine l_aload_n rfl rfl ?_
  refine l_iconst rfl ?_
  refine l_pfi rfl rfl (layClW (by omega) rfl) rfl ?_
  obtain ⟨U1, eU1⟩ : ∃ T : sS, T = uI S (276 + cl) 0 (Int32.ofInt 5) := ⟨_, rfl⟩
  rw [← eU1]
  have hHU1 : HI U1 := by rw [eU1]; exact HI_w hH (by rw [lh_cl0 (by omega)]; omega) (by rw [lh_cl0 (by omega)]; omega)
  have hFU1 : FR md_rr_placeTest S U1 := by rw [eU1]; exact FR.wI hF (mdf_i (r := (276, 876, 0, 1)) (List.mem_of_getElem? (i := 0) rfl) (inR_i (by omega) (by omega) (by omega) (by omega)))
  have w6 : Xi U1 (276 + cl) 0 = 5 := by rw [eU1]; exact Xi_same (by unfold rg; omega)
  have kc12 : KCL S U1 cl := kcl_w eU1 KCL.rf
  have f12 : Xi U1 (276 + cl) 0 = 5 := by rw [eU1]; exact Xi_same (by unfold rg; omega)
  have y12 : ∀ j, j < 4 → j ≠ 0 → Xi U1 (276 + cl) j = Xi S (276 + cl) j := fun j h1 h2 => by rw [eU1, Xi_ne (by omega)]
  refine l_aload_n rfl rfl ?_
  refine l_iload rfl rfl ?_
  refine l_callS rfl rfl (by decide) rfl (t_rr_wayOf hHU1 z5 ⟨by omega, by omega⟩ _) ?_
  rintro _ _ ⟨rfl, z7, rfl, w7⟩
  show Rl _ _ _ _ _ [iv z7, .ref (276 + cl)] _ _
  refine l_pfi rfl rfl (layClW (by omega) rfl) rfl ?_
  obtain ⟨U2, eU2⟩ : ∃ T : sS, T = uI U1 (276 + cl) 4 (Int32.ofInt z7) := ⟨_, rfl⟩
  rw [← eU2]
  have hHU2 : HI U2 := by rw [eU2]; exact HI_any hHU1 (lh_cl4 (by omega))
  have hFU2 : FR md_rr_placeTest S U2 := by rw [eU2]; exact FR.wI hFU1 (mdf_i (r := (276, 876, 4, 5)) (List.mem_of_getElem? (i := 1) rfl) (inR_i (by omega) (by omega) (by omega) (by omega)))
  have w8 : Xi U2 (276 + cl) 4 = z7 := by rw [eU2]; exact Xi_same (by unfold rg; omega)
  have kc21 : KCL S U2 cl := kcl_w eU2 kc12
  have f21 : Xi U2 (276 + cl) 0 = 5 := by rw [eU2, Xi_ne (by omega)]; exact f12
  have y21 : ∀ j, j < 4 → j ≠ 0 → Xi U2 (276 + cl) j = Xi S (276 + cl) j := fun j h1 h2 => by rw [eU2, Xi_ne (by omega)]; exact y12 j h1 h2
  refine l_aload_n rfl rfl ?_
  refine l_gfr rfl rfl rfl rfl rfl (hHU2.r 899 2 895 rfl) ?_
  refine l_iload rfl rfl ?_
  refine l_bipush rfl rfl ?_
  refine l_icmp_eq rfl rfl (by unfold rg; omega) (by unfold rg; omega) (fun w9 => ?_) (fun w10 => ?_)
  · refine l_iload_n rfl rfl ?_
    refine l_iconst rfl ?_
    refine l_iadd rfl ?_
    refine l_goto rfl rfl ?_
    refine l_iload_n rfl rfl ?_
    have w11 : Xi U2 895 4 = Xi S 895 4 := (show Xi U2 895 4 = Xi U1 895 4 from by rw [eU2]; exact Xi_ne (by omega)).trans ((show Xi U1 895 4 = Xi S 895 4 from by rw [eU1]; exact Xi_ne (by omega)))
    have w12 : -1 ≤ Xi S 895 4 ∧ Xi S 895 4 ≤ 15 := hH.c _ _
    refine l_callV rfl rfl rfl (t_me_readThing hHU2 (from_ + 1) to ⟨by omega, by omega⟩ ⟨by omega, by omega⟩ (by first | assumption | exact (LEX_FR hFU2 rfl rfl (by assumption : LEX S))) _) ?_
    rintro _ T3 ⟨hHT3, w18, z17, rfl, w17, w13, w14, w15, w16⟩
    have hFT3 : FR md_rr_placeTest S T3 := FR.tr hFU2 w18 rfl
    show Rl _ _ _ _ _ [iv z17] _ _
    have hf52 : FR md_me_readThing U2 T3 := by assumption
    have hs52 : ∀ j, Xi T3 (276 + cl) j = Xi U2 (276 + cl) j := cl_keep hf52 rfl (by omega)
    have kc52 : KCL S T3 cl := kcl_f hf52 rfl kc21
    have f52 : Xi T3 (276 + cl) 0 = 5 := (hs52 0).trans f21
    have y52 : ∀ j, j < 4 → j ≠ 0 → Xi T3 (276 + cl) j = Xi S (276 + cl) j := fun j h1 h2 => (hs52 j).trans (y21 j h1 h2)
    refine l_pop rfl rfl ?_
    refine l_aload_n rfl rfl ?_
    refine l_aload_n rfl rfl ?_
    refine l_gfr rfl rfl rfl rfl rfl (hHT3.r 899 2 895 rfl) ?_
    refine l_gfi rfl rfl rfl rfl rfl ?_
    have w19 : -2 ≤ (Xi T3 895 5) ∧ (Xi T3 895 5) ≤ 23 := hHT3.c _ _
    refine l_pfi rfl rfl (layClW (by omega) rfl) rfl ?_
    obtain ⟨U4, eU4⟩ : ∃ T : sS, T = uI T3 (276 + cl) 6 (Int32.ofInt (Xi T3 895 5)) := ⟨_, rfl⟩
    rw [← eU4]
    have hHU4 : HI U4 := by rw [eU4]; exact HI_w hHT3 (by rw [lh_cl6 (by omega)]; omega) (by rw [lh_cl6 (by omega)]; omega)
    have hFU4 : FR md_rr_placeTest S U4 := by rw [eU4]; exact FR.wI hFT3 (mdf_i (r := (276, 876, 6, 7)) (List.mem_of_getElem? (i := 2) rfl) (inR_i (by omega) (by omega) (by omega) (by omega)))
    have w20 : Xi U4 (276 + cl) 6 = (Xi T3 895 5) := by rw [eU4]; exact Xi_same (by unfold rg; omega)
    have kc64 : KCL S U4 cl := kcl_w eU4 kc52
    have f64 : Xi U4 (276 + cl) 0 = 5 := by rw [eU4, Xi_ne (by omega)]; exact f52
    have y64 : ∀ j, j < 4 → j ≠ 0 → Xi U4 (276 + cl) j = Xi S (276 + cl) j := fun j h1 h2 => by rw [eU4, Xi_ne (by omega)]; exact y52 j h1 h2
    refine l_aload_n rfl rfl ?_
    refine l_gfr rfl rfl rfl rfl rfl (hHU4.r 899 2 895 rfl) ?_
    refine l_gfi rfl rfl rfl rfl rfl ?_
    have w21 : (Xi U4 895 5) = (Xi T3 895 5) := (show Xi U4 895 5 = Xi T3 895 5 from by rw [eU4]; exact Xi_ne (by omega))
    rw [w21]
    refine l_iconst rfl ?_
    refine l_icmp_ne rfl rfl (by unfold rg; omega) (by unfold rg; omega) (fun w22 => ?_) (fun w23 => ?_)
    · refine l_iconst rfl ?_
      refine l_goto rfl rfl ?_
      refine l_ireturn rfl rfl ?_
      have w24 : Xi U4 876 8 = Xi S 876 8 := (show Xi U4 876 8 = Xi T3 876 8 from by rw [eU4]; exact Xi_ne (by omega)).trans ( (show Xi T3 876 8 = Xi U2 876 8 from w18.x _ _ rfl).trans ( (show Xi U2 876 8 = Xi U1 876 8 from by rw [eU2]; exact Xi_ne (by omega)).trans ((show Xi U1 876 8 = Xi S 876 8 from by rw [eU1]; exact Xi_ne (by omega)))))
      have w25 : 0 ≤ Xi S 876 8 ∧ Xi S 876 8 ≤ 9 := hH.c _ _
      exact ⟨hHU4, hFU4, _, rfl, ⟨by omega, by omega⟩, (by first | exact kc90 | exact kc64), (by first | exact f90 | exact f64), (by first | exact y90 | exact y64), (fun q => by first | omega | (exfalso; omega))⟩
    · refine l_aload_n rfl rfl ?_
      refine l_gfr rfl rfl rfl rfl rfl (hHU4.r 899 0 876 rfl) ?_
      refine l_iconst rfl ?_
      refine l_aload_n rfl rfl ?_
      refine l_gfr rfl rfl rfl rfl rfl (hHU4.r 899 2 895 rfl) ?_
      refine l_gfi rfl rfl rfl rfl rfl ?_
      have w26 : -2147483648 ≤ (Xi U4 895 7) ∧ (Xi U4 895 7) ≤ 2147483647 := Xi_rgI
      refine l_callV rfl rfl rfl (t_to_wrong hHU4 4 (Xi U4 895 7) ⟨by omega, by omega⟩ ⟨by omega, by omega⟩ _) ?_
      rintro _ T5 ⟨hHT5, w30, z29, rfl, w29, w27, w28⟩
      have hFT5 : FR md_rr_placeTest S T5 := FR.tr hFU4 w30 rfl
      show Rl _ _ _ _ _ [iv z29] _ _
      have hf90 : FR md_to_wrong U4 T5 := by assumption
      have hs90 : ∀ j, Xi T5 (276 + cl) j = Xi U4 (276 + cl) j := cl_keep hf90 rfl (by omega)
      have kc90 : KCL S T5 cl := kcl_f hf90 rfl kc64
      have f90 : Xi T5 (276 + cl) 0 = 5 := (hs90 0).trans f64
      have y90 : ∀ j, j < 4 → j ≠ 0 → Xi T5 (276 + cl) j = Xi S (276 + cl) j := fun j h1 h2 => (hs90 j).trans (y64 j h1 h2)
      refine l_if_eq rfl rfl (by unfold rg; omega) (fun w31 => ?_) (fun w32 => ?_)
      · refine l_iconst rfl ?_
        refine l_ireturn rfl rfl ?_
        have w33 : 0 ≤ Xi T5 876 8 ∧ Xi T5 876 8 ≤ 9 := hHT5.c _ _
        exact ⟨hHT5, hFT5, _, rfl, ⟨by omega, by omega⟩, (by first | exact kc90 | exact kc64), (by first | exact f90 | exact f64), (by first | exact y90 | exact y64), (fun q => by first | omega | (exfalso; omega))⟩
      · refine l_iconst rfl ?_
        refine l_goto rfl rfl ?_
        refine l_ireturn rfl rfl ?_
        have w34 : 0 ≤ Xi T5 876 8 ∧ Xi T5 876 8 ≤ 9 := hHT5.c _ _
        exact ⟨hHT5, hFT5, _, rfl, ⟨by omega, by omega⟩, (by first | exact kc90 | exact kc64), (by first | exact f90 | exact f64), (by first | exact y90 | exact y64), (fun q => by first | omega | (exfalso; omega))⟩
  · refine l_iload rfl rfl ?_
    refine l_bipush rfl rfl ?_
    refine l_icmp_ne rfl rfl (by unfold rg; omega) (by unfold rg; omega) (fun w35 => ?_) (fun w36 => ?_)
    · refine l_iload_n rfl rfl ?_
      refine l_iconst rfl ?_
      refine l_iadd rfl ?_
      refine l_iload_n rfl rfl ?_
      have w37 : Xi U2 895 4 = Xi S 895 4 := (show Xi U2 895 4 = Xi U1 895 4 from by rw [eU2]; exact Xi_ne (by omega)).trans ((show Xi U1 895 4 = Xi S 895 4 from by rw [eU1]; exact Xi_ne (by omega)))
      have w38 : -1 ≤ Xi S 895 4 ∧ Xi S 895 4 ≤ 15 := hH.c _ _
      refine l_callV rfl rfl rfl (t_me_readThing hHU2 (from_ + 2) to ⟨by omega, by omega⟩ ⟨by omega, by omega⟩ (by first | assumption | exact (LEX_FR hFU2 rfl rfl (by assumption : LEX S))) _) ?_
      rintro _ T6 ⟨hHT6, w44, z43, rfl, w43, w39, w40, w41, w42⟩
      have hFT6 : FR md_rr_placeTest S T6 := FR.tr hFU2 w44 rfl
      show Rl _ _ _ _ _ [iv z43] _ _
      have hf52 : FR md_me_readThing U2 T6 := by assumption
      have hs52 : ∀ j, Xi T6 (276 + cl) j = Xi U2 (276 + cl) j := cl_keep hf52 rfl (by omega)
      have kc52 : KCL S T6 cl := kcl_f hf52 rfl kc21
      have f52 : Xi T6 (276 + cl) 0 = 5 := (hs52 0).trans f21
      have y52 : ∀ j, j < 4 → j ≠ 0 → Xi T6 (276 + cl) j = Xi S (276 + cl) j := fun j h1 h2 => (hs52 j).trans (y21 j h1 h2)
      refine l_pop rfl rfl ?_
      refine l_aload_n rfl rfl ?_
      refine l_aload_n rfl rfl ?_
      refine l_gfr rfl rfl rfl rfl rfl (hHT6.r 899 2 895 rfl) ?_
      refine l_gfi rfl rfl rfl rfl rfl ?_
      have w45 : -2 ≤ (Xi T6 895 5) ∧ (Xi T6 895 5) ≤ 23 := hHT6.c _ _
      refine l_pfi rfl rfl (layClW (by omega) rfl) rfl ?_
      obtain ⟨U7, eU7⟩ : ∃ T : sS, T = uI T6 (276 + cl) 6 (Int32.ofInt (Xi T6 895 5)) := ⟨_, rfl⟩
      rw [← eU7]
      have hHU7 : HI U7 := by rw [eU7]; exact HI_w hHT6 (by rw [lh_cl6 (by omega)]; omega) (by rw [lh_cl6 (by omega)]; omega)
      have hFU7 : FR md_rr_placeTest S U7 := by rw [eU7]; exact FR.wI hFT6 (mdf_i (r := (276, 876, 6, 7)) (List.mem_of_getElem? (i := 2) rfl) (inR_i (by omega) (by omega) (by omega) (by omega)))
      have w46 : Xi U7 (276 + cl) 6 = (Xi T6 895 5) := by rw [eU7]; exact Xi_same (by unfold rg; omega)
      have kc64 : KCL S U7 cl := kcl_w eU7 kc52
      have f64 : Xi U7 (276 + cl) 0 = 5 := by rw [eU7, Xi_ne (by omega)]; exact f52
      have y64 : ∀ j, j < 4 → j ≠ 0 → Xi U7 (276 + cl) j = Xi S (276 + cl) j := fun j h1 h2 => by rw [eU7, Xi_ne (by omega)]; exact y52 j h1 h2
      refine l_aload_n rfl rfl ?_
      refine l_gfr rfl rfl rfl rfl rfl (hHU7.r 899 2 895 rfl) ?_
      refine l_gfi rfl rfl rfl rfl rfl ?_
      have w47 : (Xi U7 895 5) = (Xi T6 895 5) := (show Xi U7 895 5 = Xi T6 895 5 from by rw [eU7]; exact Xi_ne (by omega))
      rw [w47]
      refine l_iconst rfl ?_
      refine l_icmp_ne rfl rfl (by unfold rg; omega) (by unfold rg; omega) (fun w48 => ?_) (fun w49 => ?_)
      · refine l_iconst rfl ?_
        refine l_goto rfl rfl ?_
        refine l_ireturn rfl rfl ?_
        have w50 : Xi U7 876 8 = Xi S 876 8 := (show Xi U7 876 8 = Xi T6 876 8 from by rw [eU7]; exact Xi_ne (by omega)).trans ( (show Xi T6 876 8 = Xi U2 876 8 from w44.x _ _ rfl).trans ( (show Xi U2 876 8 = Xi U1 876 8 from by rw [eU2]; exact Xi_ne (by omega)).trans ((show Xi U1 876 8 = Xi S 876 8 from by rw [eU1]; exact Xi_ne (by omega)))))
        have w51 : 0 ≤ Xi S 876 8 ∧ Xi S 876 8 ≤ 9 := hH.c _ _
        exact ⟨hHU7, hFU7, _, rfl, ⟨by omega, by omega⟩, (by first | exact kc90 | exact kc64), (by first | exact f90 | exact f64), (by first | exact y90 | exact y64), (fun q => by first | omega | (exfalso; omega))⟩
      · refine l_aload_n rfl rfl ?_
        refine l_gfr rfl rfl rfl rfl rfl (hHU7.r 899 0 876 rfl) ?_
        refine l_iconst rfl ?_
        refine l_aload_n rfl rfl ?_
        refine l_gfr rfl rfl rfl rfl rfl (hHU7.r 899 2 895 rfl) ?_
        refine l_gfi rfl rfl rfl rfl rfl ?_
        have w52 : -2147483648 ≤ (Xi U7 895 7) ∧ (Xi U7 895 7) ≤ 2147483647 := Xi_rgI
        refine l_callV rfl rfl rfl (t_to_wrong hHU7 4 (Xi U7 895 7) ⟨by omega, by omega⟩ ⟨by omega, by omega⟩ _) ?_
        rintro _ T8 ⟨hHT8, w56, z55, rfl, w55, w53, w54⟩
        have hFT8 : FR md_rr_placeTest S T8 := FR.tr hFU7 w56 rfl
        show Rl _ _ _ _ _ [iv z55] _ _
        have hf90 : FR md_to_wrong U7 T8 := by assumption
        have hs90 : ∀ j, Xi T8 (276 + cl) j = Xi U7 (276 + cl) j := cl_keep hf90 rfl (by omega)
        have kc90 : KCL S T8 cl := kcl_f hf90 rfl kc64
        have f90 : Xi T8 (276 + cl) 0 = 5 := (hs90 0).trans f64
        have y90 : ∀ j, j < 4 → j ≠ 0 → Xi T8 (276 + cl) j = Xi S (276 + cl) j := fun j h1 h2 => (hs90 j).trans (y64 j h1 h2)
        refine l_if_eq rfl rfl (by unfold rg; omega) (fun w57 => ?_) (fun w58 => ?_)
        · refine l_iconst rfl ?_
          refine l_ireturn rfl rfl ?_
          have w59 : 0 ≤ Xi T8 876 8 ∧ Xi T8 876 8 ≤ 9 := hHT8.c _ _
          exact ⟨hHT8, hFT8, _, rfl, ⟨by omega, by omega⟩, (by first | exact kc90 | exact kc64), (by first | exact f90 | exact f64), (by first | exact y90 | exact y64), (fun q => by first | omega | (exfalso; omega))⟩
        · refine l_iconst rfl ?_
          refine l_goto rfl rfl ?_
          refine l_ireturn rfl rfl ?_
          have w60 : 0 ≤ Xi T8 876 8 ∧ Xi T8 876 8 ≤ 9 := hHT8.c _ _
          exact ⟨hHT8, hFT8, _, rfl, ⟨by omega, by omega⟩, (by first | exact kc90 | exact kc64), (by first | exact f90 | exact f64), (by first | exact y90 | exact y64), (fun q => by first | omega | (exfalso; omega))⟩
    · refine l_iload_n rfl rfl ?_
      refine l_iconst rfl ?_
      refine l_iadd rfl ?_
      refine l_goto rfl rfl ?_
      refine l_iload_n rfl rfl ?_
      have w61 : Xi U2 895 4 = Xi S 895 4 := (show Xi U2 895 4 = Xi U1 895 4 from by rw [eU2]; exact Xi_ne (by omega)).trans ((show Xi U1 895 4 = Xi S 895 4 from by rw [eU1]; exact Xi_ne (by omega)))
      have w62 : -1 ≤ Xi S 895 4 ∧ Xi S 895 4 ≤ 15 := hH.c _ _
      refine l_callV rfl rfl rfl (t_me_readThing hHU2 (from_ + 1) to ⟨by omega, by omega⟩ ⟨by omega, by omega⟩ (by first | assumption | exact (LEX_FR hFU2 rfl rfl (by assumption : LEX S))) _) ?_
      rintro _ T9 ⟨hHT9, w68, z67, rfl, w67, w63, w64, w65, w66⟩
      have hFT9 : FR md_rr_placeTest S T9 := FR.tr hFU2 w68 rfl
      show Rl _ _ _ _ _ [iv z67] _ _
      have hf52 : FR md_me_readThing U2 T9 := by assumption
      have hs52 : ∀ j, Xi T9 (276 + cl) j = Xi U2 (276 + cl) j := cl_keep hf52 rfl (by omega)
      have kc52 : KCL S T9 cl := kcl_f hf52 rfl kc21
      have f52 : Xi T9 (276 + cl) 0 = 5 := (hs52 0).trans f21
      have y52 : ∀ j, j < 4 → j ≠ 0 → Xi T9 (276 + cl) j = Xi S (276 + cl) j := fun j h1 h2 => (hs52 j).trans (y21 j h1 h2)
      refine l_pop rfl rfl ?_
      refine l_aload_n rfl rfl ?_
      refine l_aload_n rfl rfl ?_
      refine l_gfr rfl rfl rfl rfl rfl (hHT9.r 899 2 895 rfl) ?_
      refine l_gfi rfl rfl rfl rfl rfl ?_
      have w69 : -2 ≤ (Xi T9 895 5) ∧ (Xi T9 895 5) ≤ 23 := hHT9.c _ _
      refine l_pfi rfl rfl (layClW (by omega) rfl) rfl ?_
      obtain ⟨U10, eU10⟩ : ∃ T : sS, T = uI T9 (276 + cl) 6 (Int32.ofInt (Xi T9 895 5)) := ⟨_, rfl⟩
      rw [← eU10]
      have hHU10 : HI U10 := by rw [eU10]; exact HI_w hHT9 (by rw [lh_cl6 (by omega)]; omega) (by rw [lh_cl6 (by omega)]; omega)
      have hFU10 : FR md_rr_placeTest S U10 := by rw [eU10]; exact FR.wI hFT9 (mdf_i (r := (276, 876, 6, 7)) (List.mem_of_getElem? (i := 2) rfl) (inR_i (by omega) (by omega) (by omega) (by omega)))
      have w70 : Xi U10 (276 + cl) 6 = (Xi T9 895 5) := by rw [eU10]; exact Xi_same (by unfold rg; omega)
      have kc64 : KCL S U10 cl := kcl_w eU10 kc52
      have f64 : Xi U10 (276 + cl) 0 = 5 := by rw [eU10, Xi_ne (by omega)]; exact f52
      have y64 : ∀ j, j < 4 → j ≠ 0 → Xi U10 (276 + cl) j = Xi S (276 + cl) j := fun j h1 h2 => by rw [eU10, Xi_ne (by omega)]; exact y52 j h1 h2
      refine l_aload_n rfl rfl ?_
      refine l_gfr rfl rfl rfl rfl rfl (hHU10.r 899 2 895 rfl) ?_
      refine l_gfi rfl rfl rfl rfl rfl ?_
      have w71 : (Xi U10 895 5) = (Xi T9 895 5) := (show Xi U10 895 5 = Xi T9 895 5 from by rw [eU10]; exact Xi_ne (by omega))
      rw [w71]
      refine l_iconst rfl ?_
      refine l_icmp_ne rfl rfl (by unfold rg; omega) (by unfold rg; omega) (fun w72 => ?_) (fun w73 => ?_)
      · refine l_iconst rfl ?_
        refine l_goto rfl rfl ?_
        refine l_ireturn rfl rfl ?_
        have w74 : Xi U10 876 8 = Xi S 876 8 := (show Xi U10 876 8 = Xi T9 876 8 from by rw [eU10]; exact Xi_ne (by omega)).trans ( (show Xi T9 876 8 = Xi U2 876 8 from w68.x _ _ rfl).trans ( (show Xi U2 876 8 = Xi U1 876 8 from by rw [eU2]; exact Xi_ne (by omega)).trans ((show Xi U1 876 8 = Xi S 876 8 from by rw [eU1]; exact Xi_ne (by omega)))))
        have w75 : 0 ≤ Xi S 876 8 ∧ Xi S 876 8 ≤ 9 := hH.c _ _
        exact ⟨hHU10, hFU10, _, rfl, ⟨by omega, by omega⟩, (by first | exact kc90 | exact kc64), (by first | exact f90 | exact f64), (by first | exact y90 | exact y64), (fun q => by first | omega | (exfalso; omega))⟩
      · refine l_aload_n rfl rfl ?_
        refine l_gfr rfl rfl rfl rfl rfl (hHU10.r 899 0 876 rfl) ?_
        refine l_iconst rfl ?_
        refine l_aload_n rfl rfl ?_
        refine l_gfr rfl rfl rfl rfl rfl (hHU10.r 899 2 895 rfl) ?_
        refine l_gfi rfl rfl rfl rfl rfl ?_
        have w76 : -2147483648 ≤ (Xi U10 895 7) ∧ (Xi U10 895 7) ≤ 2147483647 := Xi_rgI
        refine l_callV rfl rfl rfl (t_to_wrong hHU10 4 (Xi U10 895 7) ⟨by omega, by omega⟩ ⟨by omega, by omega⟩ _) ?_
        rintro _ T11 ⟨hHT11, w80, z79, rfl, w79, w77, w78⟩
        have hFT11 : FR md_rr_placeTest S T11 := FR.tr hFU10 w80 rfl
        show Rl _ _ _ _ _ [iv z79] _ _
        have hf90 : FR md_to_wrong U10 T11 := by assumption
        have hs90 : ∀ j, Xi T11 (276 + cl) j = Xi U10 (276 + cl) j := cl_keep hf90 rfl (by omega)
        have kc90 : KCL S T11 cl := kcl_f hf90 rfl kc64
        have f90 : Xi T11 (276 + cl) 0 = 5 := (hs90 0).trans f64
        have y90 : ∀ j, j < 4 → j ≠ 0 → Xi T11 (276 + cl) j = Xi S (276 + cl) j := fun j h1 h2 => (hs90 j).trans (y64 j h1 h2)
        refine l_if_eq rfl rfl (by unfold rg; omega) (fun w81 => ?_) (fun w82 => ?_)
        · refine l_iconst rfl ?_
          refine l_ireturn rfl rfl ?_
          have w83 : 0 ≤ Xi T11 876 8 ∧ Xi T11 876 8 ≤ 9 := hHT11.c _ _
          exact ⟨hHT11, hFT11, _, rfl, ⟨by omega, by omega⟩, (by first | exact kc90 | exact kc64), (by first | exact f90 | exact f64), (by first | exact y90 | exact y64), (fun q => by first | omega | (exfalso; omega))⟩
        · refine l_iconst rfl ?_
          refine l_goto rfl rfl ?_
          refine l_ireturn rfl rfl ?_
          have w84 : 0 ≤ Xi T11 876 8 ∧ Xi T11 876 8 ≤ 9 := hHT11.c _ _
          exact ⟨hHT11, hFT11, _, rfl, ⟨by omega, by omega⟩, (by first | exact kc90 | exact kc64), (by first | exact f90 | exact f64), (by first | exact y90 | exact y64), (fun q => by first | omega | (exfalso; omega))⟩
/-! SAFETY of methods: printed by wip/safe (vc.py, decl.py) -/
theorem who_of {b : Prop} {x : Int} (h1 : x ≠ -1) (h2 : -2 ≤ x) (h : x = -2 → b) : WHO b x := by
  by_cases e : x = -2
  · exact Or.inr ⟨e, h e⟩
  · exact Or.inl (by omega)
def md_rr_propertyOfThing : List rec := [(276, 876, 2, 3), (276, 876, 3, 4), (876, 877, 8, 9), (876, 877, 9, 10), (895, 896, 5, 6), (895, 896, 6, 7), (895, 896, 7, 8)]
abbrev Q_rr_propertyOfThing (S : sS) (from_ : Int) (off : Int) (num : Int) (cl : Nat) : pst := fun r S1 => HI S1 ∧ FR md_rr_propertyOfThing S S1 ∧ (∃ z : Int, r = some (iv z) ∧ (0 ≤ z ∧ z ≤ 1) ∧ (KCL S S1 cl) ∧ (∀ j, j ≠ 2 → j ≠ 3 → Xi S1 (276 + cl) j = Xi S (276 + cl) j) ∧ (z = 1 → WHO (0 ≤ Xi S 895 4) (Xi S1 (276 + cl) 2) ∧ 0 ≤ Xi S1 (276 + cl) 3 ∧ Xi S1 (276 + cl) 3 ≤ 11) ∧ (z = 0 → Xi S1 876 8 ≠ 0))
set_option maxRecDepth 100000 in
theorem t_rr_propertyOfThing {S : sS} (hH : HI S) (from_ : Int) (off : Int) (num : Int) (cl : Nat) (hfrom_ : 0 ≤ from_ ∧ from_ ≤ 5130) (hoff : 0 ≤ off ∧ off ≤ 5130) (hnum : 0 ≤ num ∧ num ≤ 1) (hcl : cl < 600) (hL : LEX S) (d : Nat) : Mt lay0 (d + 3) m_rr_propertyOfThing [.ref 899, iv from_, iv off, iv num, .ref (276 + cl)] S (Q_rr_propertyOfThing S from_ off num cl) := by
  refine Mt_R rfl rfl ?_
  have hF : FR md_rr_propertyOfThing S S := FR.rf
  have w1 : -1 ≤ Xi S 895 4 ∧ Xi S 895 4 ≤ 15 := hH.c _ _
  refine l_aload_n rfl rfl ?_
  refine l_gfr rfl rfl rfl rfl rfl (hH.r 899 2 895 rfl) ?_
  refine l_iload_n rfl rfl ?_
  refine l_iconst rfl ?_
  refine l_iadd rfl ?_
  refine l_aload_n rfl rfl ?_
  refine l_gfr rfl rfl rfl rfl rfl (hH.r 899 0 876 rfl) ?_
  have w2 : 0 ≤ Xi S 876 7 ∧ Xi S 876 7 ≤ 5125 := hH.c _ _
  refine l_callV rfl rfl rfl (t_to_lastRow hH _) ?_
  rintro _ _ ⟨rfl, z4, rfl, w4, w3⟩
  show Rl _ _ _ _ _ [iv z4, iv (off + 1), .ref 895] _ _
  refine l_callV rfl rfl rfl (t_me_readThing hH (off + 1) z4 ⟨by omega, by omega⟩ ⟨by omega, by omega⟩ (by first | exact l27 | exact hL) _) ?_
  rintro _ T1 ⟨hHT1, w11, z10, rfl, w10, w6, w7, w8, w9⟩
  have hFT1 : FR md_rr_propertyOfThing S T1 := FR.tr hF w11 rfl
  show Rl _ _ _ _ _ [iv z10] _ _
  have hf14 : FR md_me_readThing S T1 := by assumption
  have hs14 : ∀ j, Xi T1 (276 + cl) j = Xi S (276 + cl) j := cl_keep hf14 rfl (by omega)
  have kc14 : KCL S T1 cl := kcl_f hf14 rfl KCL.rf
  have y14 : ∀ j, j ≠ 2 → j ≠ 3 → Xi T1 (276 + cl) j = Xi S (276 + cl) j := fun j h1 h2 => hs14 j
  have l14 : LEX T1 := LEX_FR hf14 rfl rfl hL
  have s14 : Xi T1 895 5 = -2 → 0 ≤ Xi S 895 4 := by assumption
  have g14 : -2 ≤ Xi T1 895 5 := (hHT1.c 895 5).1
  refine l_pop rfl rfl ?_
  refine l_aload rfl rfl ?_
  refine l_aload_n rfl rfl ?_
  refine l_gfr rfl rfl rfl rfl rfl (hHT1.r 899 2 895 rfl) ?_
  refine l_gfi rfl rfl rfl rfl rfl ?_
  have w12 : -2 ≤ (Xi T1 895 5) ∧ (Xi T1 895 5) ≤ 23 := hHT1.c _ _
  refine l_pfi rfl rfl (layClW (by omega) rfl) rfl ?_
  obtain ⟨U2, eU2⟩ : ∃ T : sS, T = uI T1 (276 + cl) 2 (Int32.ofInt (Xi T1 895 5)) := ⟨_, rfl⟩
  rw [← eU2]
  have hHU2 : HI U2 := by rw [eU2]; exact HI_w hHT1 (by rw [lh_cl2 (by omega)]; omega) (by rw [lh_cl2 (by omega)]; omega)
  have hFU2 : FR md_rr_propertyOfThing S U2 := by rw [eU2]; exact FR.wI hFT1 (mdf_i (r := (276, 876, 2, 3)) (List.mem_of_getElem? (i := 0) rfl) (inR_i (by omega) (by omega) (by omega) (by omega)))
  have w13 : Xi U2 (276 + cl) 2 = (Xi T1 895 5) := by rw [eU2]; exact Xi_same (by unfold rg; omega)
  have kc27 : KCL S U2 cl := kcl_w eU2 kc14
  have y27 : ∀ j, j ≠ 2 → j ≠ 3 → Xi U2 (276 + cl) j = Xi S (276 + cl) j := fun j h1 h2 => by rw [eU2, Xi_ne (by omega)]; exact y14 j h1 h2
  have p27 : Xi U2 (276 + cl) 2 = Xi T1 895 5 := by omega
  have e27 : Xi U2 895 5 = Xi T1 895 5 := by rw [eU2, Xi_ne (by omega)]
  have l27 : LEX U2 := LEX_fr (by rw [eU2, Xi_ne (by omega)]) (fun j => by rw [eU2, Xi_ne (by omega)]) (fun j => by rw [eU2, Xi_ne (by omega)]) (fun j => by rw [eU2, Xi_ne (by omega)]) l14
  refine l_aload rfl rfl ?_
  refine l_aload_n rfl rfl ?_
  refine l_gfr rfl rfl rfl rfl rfl (hHU2.r 899 2 895 rfl) ?_
  refine l_iload_n rfl rfl ?_
  refine l_iload_n rfl rfl ?_
  refine l_aload_n rfl rfl ?_
  refine l_gfr rfl rfl rfl rfl rfl (hHU2.r 899 2 895 rfl) ?_
  refine l_gfi rfl rfl rfl rfl rfl ?_
  have w14 : -1 ≤ (Xi U2 895 6) ∧ (Xi U2 895 6) ≤ 15 := hHU2.c _ _
  refine l_iload_n rfl rfl ?_
  refine l_callV rfl rfl rfl (t_me_readProperty hHU2 from_ off (Xi U2 895 6) num ⟨by omega, by omega⟩ ⟨by omega, by omega⟩ ⟨by omega, by omega⟩ ⟨by omega, by omega⟩ (by first | exact l27 | exact hL) _) ?_
  rintro _ T3 ⟨hHT3, w18, z17, rfl, w17, w15, w16⟩
  have hFT3 : FR md_rr_propertyOfThing S T3 := FR.tr hFU2 w18 rfl
  show Rl _ _ _ _ _ [iv z17, .ref (276 + cl)] _ _
  have hf46 : FR md_me_readProperty U2 T3 := by assumption
  have hs46 : ∀ j, Xi T3 (276 + cl) j = Xi U2 (276 + cl) j := cl_keep hf46 rfl (by omega)
  have kc46 : KCL S T3 cl := kcl_f hf46 rfl kc27
  have y46 : ∀ j, j ≠ 2 → j ≠ 3 → Xi T3 (276 + cl) j = Xi S (276 + cl) j := fun j h1 h2 => (hs46 j).trans (y27 j h1 h2)
  have p46 : Xi T3 (276 + cl) 2 = Xi U2 (276 + cl) 2 := hs46 2
  have e46 : Xi T3 895 5 = Xi U2 895 5 := hf46.x 895 5 rfl
  refine l_pfi rfl rfl (layClW (by omega) rfl) rfl ?_
  obtain ⟨U4, eU4⟩ : ∃ T : sS, T = uI T3 (276 + cl) 3 (Int32.ofInt z17) := ⟨_, rfl⟩
  rw [← eU4]
  have hHU4 : HI U4 := by rw [eU4]; exact HI_w hHT3 (by rw [lh_cl3 (by omega)]; omega) (by rw [lh_cl3 (by omega)]; omega)
  have hFU4 : FR md_rr_propertyOfThing S U4 := by rw [eU4]; exact FR.wI hFT3 (mdf_i (r := (276, 876, 3, 4)) (List.mem_of_getElem? (i := 1) rfl) (inR_i (by omega) (by omega) (by omega) (by omega)))
  have w19 : Xi U4 (276 + cl) 3 = z17 := by rw [eU4]; exact Xi_same (by unfold rg; omega)
  have kc49 : KCL S U4 cl := kcl_w eU4 kc46
  have y49 : ∀ j, j ≠ 2 → j ≠ 3 → Xi U4 (276 + cl) j = Xi S (276 + cl) j := fun j h1 h2 => by rw [eU4, Xi_ne (by omega)]; exact y46 j h1 h2
  have p49 : Xi U4 (276 + cl) 2 = Xi T3 (276 + cl) 2 := by rw [eU4, Xi_ne (by omega)]
  have e49 : Xi U4 895 5 = Xi T3 895 5 := by rw [eU4, Xi_ne (by omega)]
  have x49 : Xi U4 876 8 = Xi T3 876 8 := by rw [eU4, Xi_ne (by omega)]
  refine l_aload rfl rfl ?_
  refine l_gfi rfl rfl rfl (layCl (by omega)) rfl ?_
  refine l_iconst rfl ?_
  refine l_icmp_eq rfl rfl (by unfold rg; omega) (by unfold rg; omega) (fun w20 => ?_) (fun w21 => ?_)
  · refine l_iconst rfl ?_
    refine l_ireturn rfl rfl ?_
    have w22 : Xi U4 876 8 = Xi T3 876 8 := (show Xi U4 876 8 = Xi T3 876 8 from by rw [eU4]; exact Xi_ne (by omega))
    have w23 : 0 ≤ Xi T3 876 8 ∧ Xi T3 876 8 ≤ 9 := hHT3.c _ _
    exact ⟨hHU4, hFU4, _, rfl, ⟨by omega, by omega⟩, (by first | exact kc84 | exact kc49), (by first | exact y84 | exact y49), (fun q => by first | (exfalso; omega) | exact ⟨by rw [p49, p46, p27]; exact who_of (by omega) g14 s14, by omega, by omega⟩), (fun q => by first | omega | (exfalso; omega))⟩
  · refine l_aload_n rfl rfl ?_
    refine l_gfr rfl rfl rfl rfl rfl (hHU4.r 899 2 895 rfl) ?_
    refine l_gfi rfl rfl rfl rfl rfl ?_
    have w24 : (Xi U4 895 5) = (Xi T1 895 5) := (show Xi U4 895 5 = Xi T3 895 5 from by rw [eU4]; exact Xi_ne (by omega)).trans ( (show Xi T3 895 5 = Xi U2 895 5 from w18.x _ _ rfl).trans ((show Xi U2 895 5 = Xi T1 895 5 from by rw [eU2]; exact Xi_ne (by omega))))
    rw [w24]
    refine l_iconst rfl ?_
    refine l_icmp_ne rfl rfl (by unfold rg; omega) (by unfold rg; omega) (fun w25 => ?_) (fun w26 => ?_)
    · refine l_iconst rfl ?_
      refine l_goto rfl rfl ?_
      refine l_ireturn rfl rfl ?_
      have w27 : Xi U4 876 8 = Xi T3 876 8 := (show Xi U4 876 8 = Xi T3 876 8 from by rw [eU4]; exact Xi_ne (by omega))
      have w28 : 0 ≤ Xi T3 876 8 ∧ Xi T3 876 8 ≤ 9 := hHT3.c _ _
      exact ⟨hHU4, hFU4, _, rfl, ⟨by omega, by omega⟩, (by first | exact kc84 | exact kc49), (by first | exact y84 | exact y49), (fun q => by first | (exfalso; omega) | exact ⟨by rw [p49, p46, p27]; exact who_of (by omega) g14 s14, by omega, by omega⟩), (fun q => by first | omega | (exfalso; omega))⟩
    · refine l_aload_n rfl rfl ?_
      refine l_gfr rfl rfl rfl rfl rfl (hHU4.r 899 0 876 rfl) ?_
      refine l_iconst rfl ?_
      refine l_aload_n rfl rfl ?_
      refine l_gfr rfl rfl rfl rfl rfl (hHU4.r 899 2 895 rfl) ?_
      refine l_gfi rfl rfl rfl rfl rfl ?_
      have w29 : -2147483648 ≤ (Xi U4 895 7) ∧ (Xi U4 895 7) ≤ 2147483647 := Xi_rgI
      refine l_callV rfl rfl rfl (t_to_wrong hHU4 4 (Xi U4 895 7) ⟨by omega, by omega⟩ ⟨by omega, by omega⟩ _) ?_
      rintro _ T5 ⟨hHT5, w33, z32, rfl, w32, w30, w31⟩
      have hFT5 : FR md_rr_propertyOfThing S T5 := FR.tr hFU4 w33 rfl
      show Rl _ _ _ _ _ [iv z32] _ _
      have hf84 : FR md_to_wrong U4 T5 := by assumption
      have hs84 : ∀ j, Xi T5 (276 + cl) j = Xi U4 (276 + cl) j := cl_keep hf84 rfl (by omega)
      have kc84 : KCL S T5 cl := kcl_f hf84 rfl kc49
      have y84 : ∀ j, j ≠ 2 → j ≠ 3 → Xi T5 (276 + cl) j = Xi S (276 + cl) j := fun j h1 h2 => (hs84 j).trans (y49 j h1 h2)
      refine l_if_eq rfl rfl (by unfold rg; omega) (fun w34 => ?_) (fun w35 => ?_)
      · refine l_iconst rfl ?_
        refine l_ireturn rfl rfl ?_
        have w36 : 0 ≤ Xi T5 876 8 ∧ Xi T5 876 8 ≤ 9 := hHT5.c _ _
        exact ⟨hHT5, hFT5, _, rfl, ⟨by omega, by omega⟩, (by first | exact kc84 | exact kc49), (by first | exact y84 | exact y49), (fun q => by first | (exfalso; omega) | exact ⟨by rw [p49, p46, p27]; exact who_of (by omega) g14 s14, by omega, by omega⟩), (fun q => by first | omega | (exfalso; omega))⟩
      · refine l_iconst rfl ?_
        refine l_goto rfl rfl ?_
        refine l_ireturn rfl rfl ?_
        have w37 : 0 ≤ Xi T5 876 8 ∧ Xi T5 876 8 ≤ 9 := hHT5.c _ _
        exact ⟨hHT5, hFT5, _, rfl, ⟨by omega, by omega⟩, (by first | exact kc84 | exact kc49), (by first | exact y84 | exact y49), (fun q => by first | (exfalso; omega) | exact ⟨by rw [p49, p46, p27]; exact who_of (by omega) g14 s14, by omega, by omega⟩), (fun q => by first | omega | (exfalso; omega))⟩


