/-! SAFETY of methods: printed by wip/safe (vc.py, decl.py) -/
def md_co_addFirst__2 : List rec := [(882, 883, 3, 4), (883, 884, 0, 100000), (884, 885, 0, 100000), (885, 886, 0, 100000), (886, 887, 0, 100000), (887, 888, 0, 100000)]
abbrev Q_co_addFirst__2 (S : sS) (i : Nat) (xi : String × Nat × String × List Int32) (kind : Int) (act : Int) : pst := fun r S1 => HI S1 ∧ FR md_co_addFirst__2 S S1 ∧ (r = none ∧ (Xi S1 882 3 = Xi S 882 3 + 1) ∧ (CMD S1))
set_option maxRecDepth 100000 in
theorem t_co_addFirst__2 {S : sS} (hH : HI S) (i : Nat) (xi : String × Nat × String × List Int32) (kind : Int) (act : Int) (hi : strT[i]? = some xi) (hkind : -2 ≤ kind ∧ kind ≤ 15) (hact : 0 ≤ act ∧ act ≤ 11) (hc : Xi S 882 3 < 20) (hC : CMD S) (ha : act < Xi S 5 8 ∧ (kind = -1 → Xi S 19 act.toNat = -1) ∧ (Xi S 19 act.toNat = -2 → kind = -2)) (d : Nat) : Mt lay0 (d + 5) m_co_addFirst [.ref 882, .ref (SB + i), iv kind, iv act] S (Q_co_addFirst__2 S i xi kind act) := by
  refine Mt_R rfl rfl ?_
  have hF : FR md_co_addFirst__2 S S := FR.rf
  have hsli := str_sm hi
  have w1 : 0 ≤ Xi S 5 8 ∧ Xi S 5 8 ≤ 12 := hH.c _ _
  have w2 : 0 ≤ Xi S 882 3 ∧ Xi S 882 3 ≤ 20 := hH.c _ _
  have h20 : 0 ≤ Xi S 882 3 ∧ Xi S 882 3 ≤ 20 := hH.c _ _
  refine l_iconst rfl ?_
  refine l_istore rfl rfl rfl ?_
  refine l_aload_n rfl rfl ?_
  refine l_callT rfl rfl (cOkT0 (str_is hi) rfl) (t_js_length hi _) ?_
  rintro _ _ ⟨rfl, rfl⟩
  show Rl _ _ _ _ _ [iv (xi.2.2.2.length : Int)] _ _
  refine l_if_le rfl rfl (by unfold rg; omega) (fun w4 => ?_) (fun w5 => ?_)
  · refine l_aload_n rfl rfl ?_
    refine l_gfr rfl rfl rfl rfl rfl (hH.r 882 6 885 rfl) ?_
    refine l_aload_n rfl rfl ?_
    refine l_gfi rfl rfl rfl rfl rfl ?_
    refine l_iload_n rfl rfl ?_
    refine l_iconst rfl ?_
    refine l_icmp_ne rfl rfl (by unfold rg; omega) (by unfold rg; omega) (fun w6 => ?_) (fun w7 => ?_)
    · refine l_iload rfl rfl ?_
      refine l_iastore (n := 20) rfl rfl (by omega) (by omega) (by unfold rg; omega) ?_
      obtain ⟨U1, eU1⟩ : ∃ T : sS, T = uI S 885 (((Xi S 882 3)).toNat) (Int32.ofInt 0) := ⟨_, rfl⟩
      rw [← eU1]
      have hHU1 : HI U1 := by rw [eU1]; exact HI_w hH (show -1 ≤ 0 by omega) (show 0 ≤ 7 by omega)
      have hFU1 : FR md_co_addFirst__2 S U1 := by rw [eU1]; exact FR.wI hF (mdf_i (r := (885, 886, 0, 100000)) (List.mem_of_getElem? (i := 3) rfl) (inR_i (by omega) (by omega) (by omega) (by omega)))
      have w8 : Xi U1 885 (((Xi S 882 3)).toNat) = 0 := by rw [eU1]; exact Xi_same (by unfold rg; omega)
      have e48 : Xi U1 882 3 = Xi S 882 3 := ((FR_e eU1).x 882 3 rfl).trans (by first | exact e25 | rfl)
      have f48 : ∀ i, Xi U1 883 i = Xi S 883 i := fun i => ((FR_e eU1).cx 883 rfl i).1.trans (by first | exact f25 i | rfl)
      have hk48 : KCM S U1 := kcm_w5 eU1 (by first | exact hk25 | exact KCM.rf) (by omega) (by omega)
      have g48 : Xi U1 885 (Xi S 882 3).toNat = -1 → kind = -1 := fun q => by omega
      refine l_aload_n rfl rfl ?_
      refine l_gfr rfl rfl rfl rfl rfl (hHU1.r 882 7 886 rfl) ?_
      refine l_aload_n rfl rfl ?_
      refine l_gfi rfl rfl rfl rfl rfl ?_
      have w9 : (Xi U1 882 3) = (Xi S 882 3) := (show Xi U1 882 3 = Xi S 882 3 from by rw [eU1]; exact Xi_ne (by omega))
      rw [w9]
      refine l_iload_n rfl rfl ?_
      refine l_iastore (n := 20) rfl rfl (by omega) (by omega) (by unfold rg; omega) ?_
      obtain ⟨U2, eU2⟩ : ∃ T : sS, T = uI U1 886 (((Xi S 882 3)).toNat) (Int32.ofInt kind) := ⟨_, rfl⟩
      rw [← eU2]
      have hHU2 : HI U2 := by rw [eU2]; exact HI_w hHU1 (show -2 ≤ kind by omega) (show kind ≤ 255 by omega)
      have hFU2 : FR md_co_addFirst__2 S U2 := by rw [eU2]; exact FR.wI hFU1 (mdf_i (r := (886, 887, 0, 100000)) (List.mem_of_getElem? (i := 4) rfl) (inR_i (by omega) (by omega) (by omega) (by omega)))
      have w10 : Xi U2 886 (((Xi S 882 3)).toNat) = kind := by rw [eU2]; exact Xi_same (by unfold rg; omega)
      have e58 : Xi U2 882 3 = Xi S 882 3 := ((FR_e eU2).x 882 3 rfl).trans e48
      have f58 : ∀ i, Xi U2 883 i = Xi S 883 i := fun i => ((FR_e eU2).cx 883 rfl i).1.trans (f48 i)
      have hk58 : KCM S U2 := kcm_w6 eU2 hk48 (by omega) (by omega)
      have g58 : Xi U2 886 (Xi S 882 3).toNat = kind := by omega
      have y58 : ∀ j, Xi U2 885 j = Xi U1 885 j := fun j => ((FR_e eU2).cx 885 rfl j).1
      refine l_aload_n rfl rfl ?_
      refine l_gfr rfl rfl rfl rfl rfl (hHU2.r 882 5 884 rfl) ?_
      refine l_aload_n rfl rfl ?_
      refine l_gfi rfl rfl rfl rfl rfl ?_
      have w11 : (Xi U2 882 3) = (Xi S 882 3) := (show Xi U2 882 3 = Xi U1 882 3 from by rw [eU2]; exact Xi_ne (by omega)).trans ((show Xi U1 882 3 = Xi S 882 3 from by rw [eU1]; exact Xi_ne (by omega)))
      rw [w11]
      refine l_iload_n rfl rfl ?_
      refine l_iconst rfl ?_
      refine l_icmp_ne rfl rfl (by unfold rg; omega) (by unfold rg; omega) (fun w12 => ?_) (fun w13 => ?_)
      · refine l_iload rfl rfl ?_
        refine l_iconst rfl ?_
        refine l_iadd rfl ?_
        refine l_iastore (n := 20) rfl rfl (by omega) (by omega) (by unfold rg; omega) ?_
        obtain ⟨U3, eU3⟩ : ∃ T : sS, T = uI U2 884 (((Xi S 882 3)).toNat) (Int32.ofInt (0 + 1)) := ⟨_, rfl⟩
        rw [← eU3]
        have hHU3 : HI U3 := by rw [eU3]; exact HI_w hHU2 (show 0 ≤ (0 + 1) by omega) (show (0 + 1) ≤ 8 by omega)
        have hFU3 : FR md_co_addFirst__2 S U3 := by rw [eU3]; exact FR.wI hFU2 (mdf_i (r := (884, 885, 0, 100000)) (List.mem_of_getElem? (i := 2) rfl) (inR_i (by omega) (by omega) (by omega) (by omega)))
        have w14 : Xi U3 884 (((Xi S 882 3)).toNat) = (0 + 1) := by rw [eU3]; exact Xi_same (by unfold rg; omega)
        have hk81 : KCM S U3 := kcm_f (FR_e eU3) rfl hk58
        have y81 : ∀ j, Xi U3 885 j = Xi U2 885 j := fun j => ((FR_e eU3).cx 885 rfl j).1
        have x81 : ∀ j, Xi U3 886 j = Xi U2 886 j := fun j => ((FR_e eU3).cx 886 rfl j).1
        have f81 : ∀ i, Xi U3 883 i = Xi S 883 i := fun i => ((FR_e eU3).cx 883 rfl i).1.trans (f58 i)
        have e81 : Xi U3 882 3 = Xi S 882 3 := ((FR_e eU3).x 882 3 rfl).trans e58
        have g81 : Xi U3 885 (Xi U3 882 3).toNat = -1 → Xi S 19 act.toNat = -1 := fun q => by rw [e81, y81, y58] at q; exact ha.2.1 (g48 q)
        have m81 : Xi S 19 act.toNat = -2 → Xi U3 886 (Xi U3 882 3).toNat = -2 := fun q => by rw [e81, x81, g58]; exact ha.2.2 q
        refine l_aload_n rfl rfl ?_
        refine l_iload_n rfl rfl ?_
        have w15 : Xi U3 882 3 = Xi S 882 3 := (show Xi U3 882 3 = Xi U2 882 3 from by rw [eU3]; exact Xi_ne (by omega)).trans ( (show Xi U2 882 3 = Xi U1 882 3 from by rw [eU2]; exact Xi_ne (by omega)).trans ((show Xi U1 882 3 = Xi S 882 3 from by rw [eU1]; exact Xi_ne (by omega))))
        have w16 : 0 ≤ Xi S 882 3 ∧ Xi S 882 3 ≤ 20 := hH.c _ _
        refine l_callV rfl rfl rfl (t_co_addAs__2 hHU3 act ⟨by omega, by omega⟩ (by first | assumption | omega) _) ?_
        rintro _ T4 ⟨hHT4, w21, rfl, w17, w18, w19⟩
        have hFT4 : FR md_co_addFirst__2 S T4 := FR.tr hFU3 w21 rfl
        show Rl _ _ _ _ _ [] _ _
        have c84 : CMD T4 := CMD_add hH hC hk81 e81 f81 (fun j => (hFT4.cx 5 rfl j).1) (fun j => (hFT4.cx 19 rfl j).1) (fun j => ((by assumption : FR md_co_addAs__2 U3 T4).cx 885 rfl j).1) (fun j => ((by assumption : FR md_co_addAs__2 U3 T4).cx 886 rfl j).1) (by assumption) (by assumption) (by assumption) ha.1 g81 m81
        refine l_return rfl rfl ?_
        have w22 : 0 ≤ Xi T4 882 3 ∧ Xi T4 882 3 ≤ 20 := hHT4.c _ _
        exact ⟨hHT4, hFT4, rfl, (by omega), (c84)⟩
      · refine l_iload rfl rfl ?_
        refine l_goto rfl rfl ?_
        refine l_iastore (n := 20) rfl rfl (by omega) (by omega) (by unfold rg; omega) ?_
        obtain ⟨U5, eU5⟩ : ∃ T : sS, T = uI U2 884 (((Xi S 882 3)).toNat) (Int32.ofInt 0) := ⟨_, rfl⟩
        rw [← eU5]
        have hHU5 : HI U5 := by rw [eU5]; exact HI_w hHU2 (show 0 ≤ 0 by omega) (show 0 ≤ 8 by omega)
        have hFU5 : FR md_co_addFirst__2 S U5 := by rw [eU5]; exact FR.wI hFU2 (mdf_i (r := (884, 885, 0, 100000)) (List.mem_of_getElem? (i := 2) rfl) (inR_i (by omega) (by omega) (by omega) (by omega)))
        have w23 : Xi U5 884 (((Xi S 882 3)).toNat) = 0 := by rw [eU5]; exact Xi_same (by unfold rg; omega)
        have hk81 : KCM S U5 := kcm_f (FR_e eU5) rfl hk58
        have y81 : ∀ j, Xi U5 885 j = Xi U2 885 j := fun j => ((FR_e eU5).cx 885 rfl j).1
        have x81 : ∀ j, Xi U5 886 j = Xi U2 886 j := fun j => ((FR_e eU5).cx 886 rfl j).1
        have f81 : ∀ i, Xi U5 883 i = Xi S 883 i := fun i => ((FR_e eU5).cx 883 rfl i).1.trans (f58 i)
        have e81 : Xi U5 882 3 = Xi S 882 3 := ((FR_e eU5).x 882 3 rfl).trans e58
        have g81 : Xi U5 885 (Xi U5 882 3).toNat = -1 → Xi S 19 act.toNat = -1 := fun q => by rw [e81, y81, y58] at q; exact ha.2.1 (g48 q)
        have m81 : Xi S 19 act.toNat = -2 → Xi U5 886 (Xi U5 882 3).toNat = -2 := fun q => by rw [e81, x81, g58]; exact ha.2.2 q
        refine l_aload_n rfl rfl ?_
        refine l_iload_n rfl rfl ?_
        have w24 : Xi U5 882 3 = Xi S 882 3 := (show Xi U5 882 3 = Xi U2 882 3 from by rw [eU5]; exact Xi_ne (by omega)).trans ( (show Xi U2 882 3 = Xi U1 882 3 from by rw [eU2]; exact Xi_ne (by omega)).trans ((show Xi U1 882 3 = Xi S 882 3 from by rw [eU1]; exact Xi_ne (by omega))))
        have w25 : 0 ≤ Xi S 882 3 ∧ Xi S 882 3 ≤ 20 := hH.c _ _
        refine l_callV rfl rfl rfl (t_co_addAs__2 hHU5 act ⟨by omega, by omega⟩ (by first | assumption | omega) _) ?_
        rintro _ T6 ⟨hHT6, w30, rfl, w26, w27, w28⟩
        have hFT6 : FR md_co_addFirst__2 S T6 := FR.tr hFU5 w30 rfl
        show Rl _ _ _ _ _ [] _ _
        have c84 : CMD T6 := CMD_add hH hC hk81 e81 f81 (fun j => (hFT6.cx 5 rfl j).1) (fun j => (hFT6.cx 19 rfl j).1) (fun j => ((by assumption : FR md_co_addAs__2 U5 T6).cx 885 rfl j).1) (fun j => ((by assumption : FR md_co_addAs__2 U5 T6).cx 886 rfl j).1) (by assumption) (by assumption) (by assumption) ha.1 g81 m81
        refine l_return rfl rfl ?_
        have w31 : 0 ≤ Xi T6 882 3 ∧ Xi T6 882 3 ≤ 20 := hHT6.c _ _
        exact ⟨hHT6, hFT6, rfl, (by omega), (c84)⟩
    · refine l_iconst rfl ?_
      refine l_goto rfl rfl ?_
      refine l_iastore (n := 20) rfl rfl (by omega) (by omega) (by unfold rg; omega) ?_
      obtain ⟨U7, eU7⟩ : ∃ T : sS, T = uI S 885 (((Xi S 882 3)).toNat) (Int32.ofInt (-1)) := ⟨_, rfl⟩
      rw [← eU7]
      have hHU7 : HI U7 := by rw [eU7]; exact HI_w hH (show -1 ≤ (-1) by omega) (show (-1) ≤ 7 by omega)
      have hFU7 : FR md_co_addFirst__2 S U7 := by rw [eU7]; exact FR.wI hF (mdf_i (r := (885, 886, 0, 100000)) (List.mem_of_getElem? (i := 3) rfl) (inR_i (by omega) (by omega) (by omega) (by omega)))
      have w32 : Xi U7 885 (((Xi S 882 3)).toNat) = (-1) := by rw [eU7]; exact Xi_same (by unfold rg; omega)
      have e48 : Xi U7 882 3 = Xi S 882 3 := ((FR_e eU7).x 882 3 rfl).trans (by first | exact e25 | rfl)
      have f48 : ∀ i, Xi U7 883 i = Xi S 883 i := fun i => ((FR_e eU7).cx 883 rfl i).1.trans (by first | exact f25 i | rfl)
      have hk48 : KCM S U7 := kcm_w5 eU7 (by first | exact hk25 | exact KCM.rf) (by omega) (by omega)
      have g48 : Xi U7 885 (Xi S 882 3).toNat = -1 → kind = -1 := fun q => by omega
      refine l_aload_n rfl rfl ?_
      refine l_gfr rfl rfl rfl rfl rfl (hHU7.r 882 7 886 rfl) ?_
      refine l_aload_n rfl rfl ?_
      refine l_gfi rfl rfl rfl rfl rfl ?_
      have w33 : (Xi U7 882 3) = (Xi S 882 3) := (show Xi U7 882 3 = Xi S 882 3 from by rw [eU7]; exact Xi_ne (by omega))
      rw [w33]
      refine l_iload_n rfl rfl ?_
      refine l_iastore (n := 20) rfl rfl (by omega) (by omega) (by unfold rg; omega) ?_
      obtain ⟨U8, eU8⟩ : ∃ T : sS, T = uI U7 886 (((Xi S 882 3)).toNat) (Int32.ofInt kind) := ⟨_, rfl⟩
      rw [← eU8]
      have hHU8 : HI U8 := by rw [eU8]; exact HI_w hHU7 (show -2 ≤ kind by omega) (show kind ≤ 255 by omega)
      have hFU8 : FR md_co_addFirst__2 S U8 := by rw [eU8]; exact FR.wI hFU7 (mdf_i (r := (886, 887, 0, 100000)) (List.mem_of_getElem? (i := 4) rfl) (inR_i (by omega) (by omega) (by omega) (by omega)))
      have w34 : Xi U8 886 (((Xi S 882 3)).toNat) = kind := by rw [eU8]; exact Xi_same (by unfold rg; omega)
      have e58 : Xi U8 882 3 = Xi S 882 3 := ((FR_e eU8).x 882 3 rfl).trans e48
      have f58 : ∀ i, Xi U8 883 i = Xi S 883 i := fun i => ((FR_e eU8).cx 883 rfl i).1.trans (f48 i)
      have hk58 : KCM S U8 := kcm_w6 eU8 hk48 (by omega) (by omega)
      have g58 : Xi U8 886 (Xi S 882 3).toNat = kind := by omega
      have y58 : ∀ j, Xi U8 885 j = Xi U7 885 j := fun j => ((FR_e eU8).cx 885 rfl j).1
      refine l_aload_n rfl rfl ?_
      refine l_gfr rfl rfl rfl rfl rfl (hHU8.r 882 5 884 rfl) ?_
      refine l_aload_n rfl rfl ?_
      refine l_gfi rfl rfl rfl rfl rfl ?_
      have w35 : (Xi U8 882 3) = (Xi S 882 3) := (show Xi U8 882 3 = Xi U7 882 3 from by rw [eU8]; exact Xi_ne (by omega)).trans ((show Xi U7 882 3 = Xi S 882 3 from by rw [eU7]; exact Xi_ne (by omega)))
      rw [w35]
      refine l_iload_n rfl rfl ?_
      refine l_iconst rfl ?_
      refine l_icmp_ne rfl rfl (by unfold rg; omega) (by unfold rg; omega) (fun w36 => ?_) (fun w37 => ?_)
      · refine l_iload rfl rfl ?_
        refine l_iconst rfl ?_
        refine l_iadd rfl ?_
        refine l_iastore (n := 20) rfl rfl (by omega) (by omega) (by unfold rg; omega) ?_
        obtain ⟨U9, eU9⟩ : ∃ T : sS, T = uI U8 884 (((Xi S 882 3)).toNat) (Int32.ofInt (0 + 1)) := ⟨_, rfl⟩
        rw [← eU9]
        have hHU9 : HI U9 := by rw [eU9]; exact HI_w hHU8 (show 0 ≤ (0 + 1) by omega) (show (0 + 1) ≤ 8 by omega)
        have hFU9 : FR md_co_addFirst__2 S U9 := by rw [eU9]; exact FR.wI hFU8 (mdf_i (r := (884, 885, 0, 100000)) (List.mem_of_getElem? (i := 2) rfl) (inR_i (by omega) (by omega) (by omega) (by omega)))
        have w38 : Xi U9 884 (((Xi S 882 3)).toNat) = (0 + 1) := by rw [eU9]; exact Xi_same (by unfold rg; omega)
        have hk81 : KCM S U9 := kcm_f (FR_e eU9) rfl hk58
        have y81 : ∀ j, Xi U9 885 j = Xi U8 885 j := fun j => ((FR_e eU9).cx 885 rfl j).1
        have x81 : ∀ j, Xi U9 886 j = Xi U8 886 j := fun j => ((FR_e eU9).cx 886 rfl j).1
        have f81 : ∀ i, Xi U9 883 i = Xi S 883 i := fun i => ((FR_e eU9).cx 883 rfl i).1.trans (f58 i)
        have e81 : Xi U9 882 3 = Xi S 882 3 := ((FR_e eU9).x 882 3 rfl).trans e58
        have g81 : Xi U9 885 (Xi U9 882 3).toNat = -1 → Xi S 19 act.toNat = -1 := fun q => by rw [e81, y81, y58] at q; exact ha.2.1 (g48 q)
        have m81 : Xi S 19 act.toNat = -2 → Xi U9 886 (Xi U9 882 3).toNat = -2 := fun q => by rw [e81, x81, g58]; exact ha.2.2 q
        refine l_aload_n rfl rfl ?_
        refine l_iload_n rfl rfl ?_
        have w39 : Xi U9 882 3 = Xi S 882 3 := (show Xi U9 882 3 = Xi U8 882 3 from by rw [eU9]; exact Xi_ne (by omega)).trans ( (show Xi U8 882 3 = Xi U7 882 3 from by rw [eU8]; exact Xi_ne (by omega)).trans ((show Xi U7 882 3 = Xi S 882 3 from by rw [eU7]; exact Xi_ne (by omega))))
        have w40 : 0 ≤ Xi S 882 3 ∧ Xi S 882 3 ≤ 20 := hH.c _ _
        refine l_callV rfl rfl rfl (t_co_addAs__2 hHU9 act ⟨by omega, by omega⟩ (by first | assumption | omega) _) ?_
        rintro _ T10 ⟨hHT10, w45, rfl, w41, w42, w43⟩
        have hFT10 : FR md_co_addFirst__2 S T10 := FR.tr hFU9 w45 rfl
        show Rl _ _ _ _ _ [] _ _
        have c84 : CMD T10 := CMD_add hH hC hk81 e81 f81 (fun j => (hFT10.cx 5 rfl j).1) (fun j => (hFT10.cx 19 rfl j).1) (fun j => ((by assumption : FR md_co_addAs__2 U9 T10).cx 885 rfl j).1) (fun j => ((by assumption : FR md_co_addAs__2 U9 T10).cx 886 rfl j).1) (by assumption) (by assumption) (by assumption) ha.1 g81 m81
        refine l_return rfl rfl ?_
        have w46 : 0 ≤ Xi T10 882 3 ∧ Xi T10 882 3 ≤ 20 := hHT10.c _ _
        exact ⟨hHT10, hFT10, rfl, (by omega), (c84)⟩
      · refine l_iload rfl rfl ?_
        refine l_goto rfl rfl ?_
        refine l_iastore (n := 20) rfl rfl (by omega) (by omega) (by unfold rg; omega) ?_
        obtain ⟨U11, eU11⟩ : ∃ T : sS, T = uI U8 884 (((Xi S 882 3)).toNat) (Int32.ofInt 0) := ⟨_, rfl⟩
        rw [← eU11]
        have hHU11 : HI U11 := by rw [eU11]; exact HI_w hHU8 (show 0 ≤ 0 by omega) (show 0 ≤ 8 by omega)
        have hFU11 : FR md_co_addFirst__2 S U11 := by rw [eU11]; exact FR.wI hFU8 (mdf_i (r := (884, 885, 0, 100000)) (List.mem_of_getElem? (i := 2) rfl) (inR_i (by omega) (by omega) (by omega) (by omega)))
        have w47 : Xi U11 884 (((Xi S 882 3)).toNat) = 0 := by rw [eU11]; exact Xi_same (by unfold rg; omega)
        have hk81 : KCM S U11 := kcm_f (FR_e eU11) rfl hk58
        have y81 : ∀ j, Xi U11 885 j = Xi U8 885 j := fun j => ((FR_e eU11).cx 885 rfl j).1
        have x81 : ∀ j, Xi U11 886 j = Xi U8 886 j := fun j => ((FR_e eU11).cx 886 rfl j).1
        have f81 : ∀ i, Xi U11 883 i = Xi S 883 i := fun i => ((FR_e eU11).cx 883 rfl i).1.trans (f58 i)
        have e81 : Xi U11 882 3 = Xi S 882 3 := ((FR_e eU11).x 882 3 rfl).trans e58
        have g81 : Xi U11 885 (Xi U11 882 3).toNat = -1 → Xi S 19 act.toNat = -1 := fun q => by rw [e81, y81, y58] at q; exact ha.2.1 (g48 q)
        have m81 : Xi S 19 act.toNat = -2 → Xi U11 886 (Xi U11 882 3).toNat = -2 := fun q => by rw [e81, x81, g58]; exact ha.2.2 q
        refine l_aload_n rfl rfl ?_
        refine l_iload_n rfl rfl ?_
        have w48 : Xi U11 882 3 = Xi S 882 3 := (show Xi U11 882 3 = Xi U8 882 3 from by rw [eU11]; exact Xi_ne (by omega)).trans ( (show Xi U8 882 3 = Xi U7 882 3 from by rw [eU8]; exact Xi_ne (by omega)).trans ((show Xi U7 882 3 = Xi S 882 3 from by rw [eU7]; exact Xi_ne (by omega))))
        have w49 : 0 ≤ Xi S 882 3 ∧ Xi S 882 3 ≤ 20 := hH.c _ _
        refine l_callV rfl rfl rfl (t_co_addAs__2 hHU11 act ⟨by omega, by omega⟩ (by first | assumption | omega) _) ?_
        rintro _ T12 ⟨hHT12, w54, rfl, w50, w51, w52⟩
        have hFT12 : FR md_co_addFirst__2 S T12 := FR.tr hFU11 w54 rfl
        show Rl _ _ _ _ _ [] _ _
        have c84 : CMD T12 := CMD_add hH hC hk81 e81 f81 (fun j => (hFT12.cx 5 rfl j).1) (fun j => (hFT12.cx 19 rfl j).1) (fun j => ((by assumption : FR md_co_addAs__2 U11 T12).cx 885 rfl j).1) (fun j => ((by assumption : FR md_co_addAs__2 U11 T12).cx 886 rfl j).1) (by assumption) (by assumption) (by assumption) ha.1 g81 m81
        refine l_return rfl rfl ?_
        have w55 : 0 ≤ Xi T12 882 3 ∧ Xi T12 882 3 ≤ 20 := hHT12.c _ _
        exact ⟨hHT12, hFT12, rfl, (by omega), (c84)⟩
  · refine l_aload_n rfl rfl ?_
    refine l_gfr rfl rfl rfl rfl rfl (hH.r 882 8 887 rfl) ?_
    refine l_aload_n rfl rfl ?_
    refine l_gfi rfl rfl rfl rfl rfl ?_
    refine l_bipush rfl rfl ?_
    refine l_imul rfl ?_
    refine l_aload_n rfl rfl ?_
    have w56 : 0 ≤ Xi S 882 3 ∧ Xi S 882 3 ≤ 20 := hH.c _ _
    refine l_callS rfl rfl (by decide) rfl (t_vo_codeOf hH i xi hi _) ?_
    rintro _ _ ⟨rfl, z57, rfl⟩
    show Rl _ _ _ _ _ [jw z57, iv ((Xi S 882 3) * 8), .ref 887] _ _
    refine l_lastore (n := 160) rfl rfl (by omega) (by omega) (by unfold rg; omega) ?_
    obtain ⟨U13, eU13⟩ : ∃ T : sS, T = uJ S 887 ((((Xi S 882 3) * 8)).toNat) (Int64.ofInt z57) := ⟨_, rfl⟩
    rw [← eU13]
    have hHU13 : HI U13 := by rw [eU13]; exact HI_J hH
    have hFU13 : FR md_co_addFirst__2 S U13 := by rw [eU13]; exact FR.wJ hF (mdf_i (r := (887, 888, 0, 100000)) (List.mem_of_getElem? (i := 5) rfl) (inR_i (by omega) (by omega) (by omega) (by omega)))
    have e25 : Xi U13 882 3 = Xi S 882 3 := (FR_J eU13).x 882 3 rfl
    have f25 : ∀ i, Xi U13 883 i = Xi S 883 i := fun i => ((FR_J eU13).cx 883 rfl i).1
    have hk25 : KCM S U13 := kcm_f (FR_J eU13) rfl KCM.rf
    refine l_iinc rfl rfl rfl rfl ?_
    refine l_aload_n rfl rfl ?_
    refine l_gfr rfl rfl rfl rfl rfl (hHU13.r 882 6 885 rfl) ?_
    refine l_aload_n rfl rfl ?_
    refine l_gfi rfl rfl rfl rfl rfl ?_
    have w58 : (Xi U13 882 3) = (Xi S 882 3) := (show Xi U13 882 3 = Xi S 882 3 from by rw [eU13]; rfl)
    rw [w58]
    refine l_iload_n rfl rfl ?_
    refine l_iconst rfl ?_
    refine l_icmp_ne rfl rfl (by unfold rg; omega) (by unfold rg; omega) (fun w59 => ?_) (fun w60 => ?_)
    · refine l_iload rfl rfl ?_
      refine l_iastore (n := 20) rfl rfl (by omega) (by omega) (by unfold rg; omega) ?_
      obtain ⟨U14, eU14⟩ : ∃ T : sS, T = uI U13 885 (((Xi S 882 3)).toNat) (Int32.ofInt (0 + 1)) := ⟨_, rfl⟩
      rw [← eU14]
      have hHU14 : HI U14 := by rw [eU14]; exact HI_w hHU13 (show -1 ≤ (0 + 1) by omega) (show (0 + 1) ≤ 7 by omega)
      have hFU14 : FR md_co_addFirst__2 S U14 := by rw [eU14]; exact FR.wI hFU13 (mdf_i (r := (885, 886, 0, 100000)) (List.mem_of_getElem? (i := 3) rfl) (inR_i (by omega) (by omega) (by omega) (by omega)))
      have w61 : Xi U14 885 (((Xi S 882 3)).toNat) = (0 + 1) := by rw [eU14]; exact Xi_same (by unfold rg; omega)
      have e48 : Xi U14 882 3 = Xi S 882 3 := ((FR_e eU14).x 882 3 rfl).trans (by first | exact e25 | rfl)
      have f48 : ∀ i, Xi U14 883 i = Xi S 883 i := fun i => ((FR_e eU14).cx 883 rfl i).1.trans (by first | exact f25 i | rfl)
      have hk48 : KCM S U14 := kcm_w5 eU14 (by first | exact hk25 | exact KCM.rf) (by omega) (by omega)
      have g48 : Xi U14 885 (Xi S 882 3).toNat = -1 → kind = -1 := fun q => by omega
      refine l_aload_n rfl rfl ?_
      refine l_gfr rfl rfl rfl rfl rfl (hHU14.r 882 7 886 rfl) ?_
      refine l_aload_n rfl rfl ?_
      refine l_gfi rfl rfl rfl rfl rfl ?_
      have w62 : (Xi U14 882 3) = (Xi S 882 3) := (show Xi U14 882 3 = Xi U13 882 3 from by rw [eU14]; exact Xi_ne (by omega)).trans ((show Xi U13 882 3 = Xi S 882 3 from by rw [eU13]; rfl))
      rw [w62]
      refine l_iload_n rfl rfl ?_
      refine l_iastore (n := 20) rfl rfl (by omega) (by omega) (by unfold rg; omega) ?_
      obtain ⟨U15, eU15⟩ : ∃ T : sS, T = uI U14 886 (((Xi S 882 3)).toNat) (Int32.ofInt kind) := ⟨_, rfl⟩
      rw [← eU15]
      have hHU15 : HI U15 := by rw [eU15]; exact HI_w hHU14 (show -2 ≤ kind by omega) (show kind ≤ 255 by omega)
      have hFU15 : FR md_co_addFirst__2 S U15 := by rw [eU15]; exact FR.wI hFU14 (mdf_i (r := (886, 887, 0, 100000)) (List.mem_of_getElem? (i := 4) rfl) (inR_i (by omega) (by omega) (by omega) (by omega)))
      have w63 : Xi U15 886 (((Xi S 882 3)).toNat) = kind := by rw [eU15]; exact Xi_same (by unfold rg; omega)
      have e58 : Xi U15 882 3 = Xi S 882 3 := ((FR_e eU15).x 882 3 rfl).trans e48
      have f58 : ∀ i, Xi U15 883 i = Xi S 883 i := fun i => ((FR_e eU15).cx 883 rfl i).1.trans (f48 i)
      have hk58 : KCM S U15 := kcm_w6 eU15 hk48 (by omega) (by omega)
      have g58 : Xi U15 886 (Xi S 882 3).toNat = kind := by omega
      have y58 : ∀ j, Xi U15 885 j = Xi U14 885 j := fun j => ((FR_e eU15).cx 885 rfl j).1
      refine l_aload_n rfl rfl ?_
      refine l_gfr rfl rfl rfl rfl rfl (hHU15.r 882 5 884 rfl) ?_
      refine l_aload_n rfl rfl ?_
      refine l_gfi rfl rfl rfl rfl rfl ?_
      have w64 : (Xi U15 882 3) = (Xi S 882 3) := (show Xi U15 882 3 = Xi U14 882 3 from by rw [eU15]; exact Xi_ne (by omega)).trans ( (show Xi U14 882 3 = Xi U13 882 3 from by rw [eU14]; exact Xi_ne (by omega)).trans ((show Xi U13 882 3 = Xi S 882 3 from by rw [eU13]; rfl)))
      rw [w64]
      refine l_iload_n rfl rfl ?_
      refine l_iconst rfl ?_
      refine l_icmp_ne rfl rfl (by unfold rg; omega) (by unfold rg; omega) (fun w65 => ?_) (fun w66 => ?_)
      · refine l_iload rfl rfl ?_
        refine l_iconst rfl ?_
        refine l_iadd rfl ?_
        refine l_iastore (n := 20) rfl rfl (by omega) (by omega) (by unfold rg; omega) ?_
        obtain ⟨U16, eU16⟩ : ∃ T : sS, T = uI U15 884 (((Xi S 882 3)).toNat) (Int32.ofInt ((0 + 1) + 1)) := ⟨_, rfl⟩
        rw [← eU16]
        have hHU16 : HI U16 := by rw [eU16]; exact HI_w hHU15 (show 0 ≤ ((0 + 1) + 1) by omega) (show ((0 + 1) + 1) ≤ 8 by omega)
        have hFU16 : FR md_co_addFirst__2 S U16 := by rw [eU16]; exact FR.wI hFU15 (mdf_i (r := (884, 885, 0, 100000)) (List.mem_of_getElem? (i := 2) rfl) (inR_i (by omega) (by omega) (by omega) (by omega)))
        have w67 : Xi U16 884 (((Xi S 882 3)).toNat) = ((0 + 1) + 1) := by rw [eU16]; exact Xi_same (by unfold rg; omega)
        have hk81 : KCM S U16 := kcm_f (FR_e eU16) rfl hk58
        have y81 : ∀ j, Xi U16 885 j = Xi U15 885 j := fun j => ((FR_e eU16).cx 885 rfl j).1
        have x81 : ∀ j, Xi U16 886 j = Xi U15 886 j := fun j => ((FR_e eU16).cx 886 rfl j).1
        have f81 : ∀ i, Xi U16 883 i = Xi S 883 i := fun i => ((FR_e eU16).cx 883 rfl i).1.trans (f58 i)
        have e81 : Xi U16 882 3 = Xi S 882 3 := ((FR_e eU16).x 882 3 rfl).trans e58
        have g81 : Xi U16 885 (Xi U16 882 3).toNat = -1 → Xi S 19 act.toNat = -1 := fun q => by rw [e81, y81, y58] at q; exact ha.2.1 (g48 q)
        have m81 : Xi S 19 act.toNat = -2 → Xi U16 886 (Xi U16 882 3).toNat = -2 := fun q => by rw [e81, x81, g58]; exact ha.2.2 q
        refine l_aload_n rfl rfl ?_
        refine l_iload_n rfl rfl ?_
        have w68 : Xi U16 882 3 = Xi S 882 3 := (show Xi U16 882 3 = Xi U15 882 3 from by rw [eU16]; exact Xi_ne (by omega)).trans ( (show Xi U15 882 3 = Xi U14 882 3 from by rw [eU15]; exact Xi_ne (by omega)).trans ( (show Xi U14 882 3 = Xi U13 882 3 from by rw [eU14]; exact Xi_ne (by omega)).trans ((show Xi U13 882 3 = Xi S 882 3 from by rw [eU13]; rfl))))
        have w69 : 0 ≤ Xi S 882 3 ∧ Xi S 882 3 ≤ 20 := hH.c _ _
        refine l_callV rfl rfl rfl (t_co_addAs__2 hHU16 act ⟨by omega, by omega⟩ (by first | assumption | omega) _) ?_
        rintro _ T17 ⟨hHT17, w74, rfl, w70, w71, w72⟩
        have hFT17 : FR md_co_addFirst__2 S T17 := FR.tr hFU16 w74 rfl
        show Rl _ _ _ _ _ [] _ _
        have c84 : CMD T17 := CMD_add hH hC hk81 e81 f81 (fun j => (hFT17.cx 5 rfl j).1) (fun j => (hFT17.cx 19 rfl j).1) (fun j => ((by assumption : FR md_co_addAs__2 U16 T17).cx 885 rfl j).1) (fun j => ((by assumption : FR md_co_addAs__2 U16 T17).cx 886 rfl j).1) (by assumption) (by assumption) (by assumption) ha.1 g81 m81
        refine l_return rfl rfl ?_
        have w75 : 0 ≤ Xi T17 882 3 ∧ Xi T17 882 3 ≤ 20 := hHT17.c _ _
        exact ⟨hHT17, hFT17, rfl, (by omega), (c84)⟩
      · refine l_iload rfl rfl ?_
        refine l_goto rfl rfl ?_
        refine l_iastore (n := 20) rfl rfl (by omega) (by omega) (by unfold rg; omega) ?_
        obtain ⟨U18, eU18⟩ : ∃ T : sS, T = uI U15 884 (((Xi S 882 3)).toNat) (Int32.ofInt (0 + 1)) := ⟨_, rfl⟩
        rw [← eU18]
        have hHU18 : HI U18 := by rw [eU18]; exact HI_w hHU15 (show 0 ≤ (0 + 1) by omega) (show (0 + 1) ≤ 8 by omega)
        have hFU18 : FR md_co_addFirst__2 S U18 := by rw [eU18]; exact FR.wI hFU15 (mdf_i (r := (884, 885, 0, 100000)) (List.mem_of_getElem? (i := 2) rfl) (inR_i (by omega) (by omega) (by omega) (by omega)))
        have w76 : Xi U18 884 (((Xi S 882 3)).toNat) = (0 + 1) := by rw [eU18]; exact Xi_same (by unfold rg; omega)
        have hk81 : KCM S U18 := kcm_f (FR_e eU18) rfl hk58
        have y81 : ∀ j, Xi U18 885 j = Xi U15 885 j := fun j => ((FR_e eU18).cx 885 rfl j).1
        have x81 : ∀ j, Xi U18 886 j = Xi U15 886 j := fun j => ((FR_e eU18).cx 886 rfl j).1
        have f81 : ∀ i, Xi U18 883 i = Xi S 883 i := fun i => ((FR_e eU18).cx 883 rfl i).1.trans (f58 i)
        have e81 : Xi U18 882 3 = Xi S 882 3 := ((FR_e eU18).x 882 3 rfl).trans e58
        have g81 : Xi U18 885 (Xi U18 882 3).toNat = -1 → Xi S 19 act.toNat = -1 := fun q => by rw [e81, y81, y58] at q; exact ha.2.1 (g48 q)
        have m81 : Xi S 19 act.toNat = -2 → Xi U18 886 (Xi U18 882 3).toNat = -2 := fun q => by rw [e81, x81, g58]; exact ha.2.2 q
        refine l_aload_n rfl rfl ?_
        refine l_iload_n rfl rfl ?_
        have w77 : Xi U18 882 3 = Xi S 882 3 := (show Xi U18 882 3 = Xi U15 882 3 from by rw [eU18]; exact Xi_ne (by omega)).trans ( (show Xi U15 882 3 = Xi U14 882 3 from by rw [eU15]; exact Xi_ne (by omega)).trans ( (show Xi U14 882 3 = Xi U13 882 3 from by rw [eU14]; exact Xi_ne (by omega)).trans ((show Xi U13 882 3 = Xi S 882 3 from by rw [eU13]; rfl))))
        have w78 : 0 ≤ Xi S 882 3 ∧ Xi S 882 3 ≤ 20 := hH.c _ _
        refine l_callV rfl rfl rfl (t_co_addAs__2 hHU18 act ⟨by omega, by omega⟩ (by first | assumption | omega) _) ?_
        rintro _ T19 ⟨hHT19, w83, rfl, w79, w80, w81⟩
        have hFT19 : FR md_co_addFirst__2 S T19 := FR.tr hFU18 w83 rfl
        show Rl _ _ _ _ _ [] _ _
        have c84 : CMD T19 := CMD_add hH hC hk81 e81 f81 (fun j => (hFT19.cx 5 rfl j).1) (fun j => (hFT19.cx 19 rfl j).1) (fun j => ((by assumption : FR md_co_addAs__2 U18 T19).cx 885 rfl j).1) (fun j => ((by assumption : FR md_co_addAs__2 U18 T19).cx 886 rfl j).1) (by assumption) (by assumption) (by assumption) ha.1 g81 m81
        refine l_return rfl rfl ?_
        have w84 : 0 ≤ Xi T19 882 3 ∧ Xi T19 882 3 ≤ 20 := hHT19.c _ _
        exact ⟨hHT19, hFT19, rfl, (by omega), (c84)⟩
    · refine l_iconst rfl ?_
      refine l_goto rfl rfl ?_
      refine l_iastore (n := 20) rfl rfl (by omega) (by omega) (by unfold rg; omega) ?_
      obtain ⟨U20, eU20⟩ : ∃ T : sS, T = uI U13 885 (((Xi S 882 3)).toNat) (Int32.ofInt (-1)) := ⟨_, rfl⟩
      rw [← eU20]
      have hHU20 : HI U20 := by rw [eU20]; exact HI_w hHU13 (show -1 ≤ (-1) by omega) (show (-1) ≤ 7 by omega)
      have hFU20 : FR md_co_addFirst__2 S U20 := by rw [eU20]; exact FR.wI hFU13 (mdf_i (r := (885, 886, 0, 100000)) (List.mem_of_getElem? (i := 3) rfl) (inR_i (by omega) (by omega) (by omega) (by omega)))
      have w85 : Xi U20 885 (((Xi S 882 3)).toNat) = (-1) := by rw [eU20]; exact Xi_same (by unfold rg; omega)
      have e48 : Xi U20 882 3 = Xi S 882 3 := ((FR_e eU20).x 882 3 rfl).trans (by first | exact e25 | rfl)
      have f48 : ∀ i, Xi U20 883 i = Xi S 883 i := fun i => ((FR_e eU20).cx 883 rfl i).1.trans (by first | exact f25 i | rfl)
      have hk48 : KCM S U20 := kcm_w5 eU20 (by first | exact hk25 | exact KCM.rf) (by omega) (by omega)
      have g48 : Xi U20 885 (Xi S 882 3).toNat = -1 → kind = -1 := fun q => by omega
      refine l_aload_n rfl rfl ?_
      refine l_gfr rfl rfl rfl rfl rfl (hHU20.r 882 7 886 rfl) ?_
      refine l_aload_n rfl rfl ?_
      refine l_gfi rfl rfl rfl rfl rfl ?_
      have w86 : (Xi U20 882 3) = (Xi S 882 3) := (show Xi U20 882 3 = Xi U13 882 3 from by rw [eU20]; exact Xi_ne (by omega)).trans ((show Xi U13 882 3 = Xi S 882 3 from by rw [eU13]; rfl))
      rw [w86]
      refine l_iload_n rfl rfl ?_
      refine l_iastore (n := 20) rfl rfl (by omega) (by omega) (by unfold rg; omega) ?_
      obtain ⟨U21, eU21⟩ : ∃ T : sS, T = uI U20 886 (((Xi S 882 3)).toNat) (Int32.ofInt kind) := ⟨_, rfl⟩
      rw [← eU21]
      have hHU21 : HI U21 := by rw [eU21]; exact HI_w hHU20 (show -2 ≤ kind by omega) (show kind ≤ 255 by omega)
      have hFU21 : FR md_co_addFirst__2 S U21 := by rw [eU21]; exact FR.wI hFU20 (mdf_i (r := (886, 887, 0, 100000)) (List.mem_of_getElem? (i := 4) rfl) (inR_i (by omega) (by omega) (by omega) (by omega)))
      have w87 : Xi U21 886 (((Xi S 882 3)).toNat) = kind := by rw [eU21]; exact Xi_same (by unfold rg; omega)
      have e58 : Xi U21 882 3 = Xi S 882 3 := ((FR_e eU21).x 882 3 rfl).trans e48
      have f58 : ∀ i, Xi U21 883 i = Xi S 883 i := fun i => ((FR_e eU21).cx 883 rfl i).1.trans (f48 i)
      have hk58 : KCM S U21 := kcm_w6 eU21 hk48 (by omega) (by omega)
      have g58 : Xi U21 886 (Xi S 882 3).toNat = kind := by omega
      have y58 : ∀ j, Xi U21 885 j = Xi U20 885 j := fun j => ((FR_e eU21).cx 885 rfl j).1
      refine l_aload_n rfl rfl ?_
      refine l_gfr rfl rfl rfl rfl rfl (hHU21.r 882 5 884 rfl) ?_
      refine l_aload_n rfl rfl ?_
      refine l_gfi rfl rfl rfl rfl rfl ?_
      have w88 : (Xi U21 882 3) = (Xi S 882 3) := (show Xi U21 882 3 = Xi U20 882 3 from by rw [eU21]; exact Xi_ne (by omega)).trans ( (show Xi U20 882 3 = Xi U13 882 3 from by rw [eU20]; exact Xi_ne (by omega)).trans ((show Xi U13 882 3 = Xi S 882 3 from by rw [eU13]; rfl)))
      rw [w88]
      refine l_iload_n rfl rfl ?_
      refine l_iconst rfl ?_
      refine l_icmp_ne rfl rfl (by unfold rg; omega) (by unfold rg; omega) (fun w89 => ?_) (fun w90 => ?_)
      · refine l_iload rfl rfl ?_
        refine l_iconst rfl ?_
        refine l_iadd rfl ?_
        refine l_iastore (n := 20) rfl rfl (by omega) (by omega) (by unfold rg; omega) ?_
        obtain ⟨U22, eU22⟩ : ∃ T : sS, T = uI U21 884 (((Xi S 882 3)).toNat) (Int32.ofInt ((0 + 1) + 1)) := ⟨_, rfl⟩
        rw [← eU22]
        have hHU22 : HI U22 := by rw [eU22]; exact HI_w hHU21 (show 0 ≤ ((0 + 1) + 1) by omega) (show ((0 + 1) + 1) ≤ 8 by omega)
        have hFU22 : FR md_co_addFirst__2 S U22 := by rw [eU22]; exact FR.wI hFU21 (mdf_i (r := (884, 885, 0, 100000)) (List.mem_of_getElem? (i := 2) rfl) (inR_i (by omega) (by omega) (by omega) (by omega)))
        have w91 : Xi U22 884 (((Xi S 882 3)).toNat) = ((0 + 1) + 1) := by rw [eU22]; exact Xi_same (by unfold rg; omega)
        have hk81 : KCM S U22 := kcm_f (FR_e eU22) rfl hk58
        have y81 : ∀ j, Xi U22 885 j = Xi U21 885 j := fun j => ((FR_e eU22).cx 885 rfl j).1
        have x81 : ∀ j, Xi U22 886 j = Xi U21 886 j := fun j => ((FR_e eU22).cx 886 rfl j).1
        have f81 : ∀ i, Xi U22 883 i = Xi S 883 i := fun i => ((FR_e eU22).cx 883 rfl i).1.trans (f58 i)
        have e81 : Xi U22 882 3 = Xi S 882 3 := ((FR_e eU22).x 882 3 rfl).trans e58
        have g81 : Xi U22 885 (Xi U22 882 3).toNat = -1 → Xi S 19 act.toNat = -1 := fun q => by rw [e81, y81, y58] at q; exact ha.2.1 (g48 q)
        have m81 : Xi S 19 act.toNat = -2 → Xi U22 886 (Xi U22 882 3).toNat = -2 := fun q => by rw [e81, x81, g58]; exact ha.2.2 q
        refine l_aload_n rfl rfl ?_
        refine l_iload_n rfl rfl ?_
        have w92 : Xi U22 882 3 = Xi S 882 3 := (show Xi U22 882 3 = Xi U21 882 3 from by rw [eU22]; exact Xi_ne (by omega)).trans ( (show Xi U21 882 3 = Xi U20 882 3 from by rw [eU21]; exact Xi_ne (by omega)).trans ( (show Xi U20 882 3 = Xi U13 882 3 from by rw [eU20]; exact Xi_ne (by omega)).trans ((show Xi U13 882 3 = Xi S 882 3 from by rw [eU13]; rfl))))
        have w93 : 0 ≤ Xi S 882 3 ∧ Xi S 882 3 ≤ 20 := hH.c _ _
        refine l_callV rfl rfl rfl (t_co_addAs__2 hHU22 act ⟨by omega, by omega⟩ (by first | assumption | omega) _) ?_
        rintro _ T23 ⟨hHT23, w98, rfl, w94, w95, w96⟩
        have hFT23 : FR md_co_addFirst__2 S T23 := FR.tr hFU22 w98 rfl
        show Rl _ _ _ _ _ [] _ _
        have c84 : CMD T23 := CMD_add hH hC hk81 e81 f81 (fun j => (hFT23.cx 5 rfl j).1) (fun j => (hFT23.cx 19 rfl j).1) (fun j => ((by assumption : FR md_co_addAs__2 U22 T23).cx 885 rfl j).1) (fun j => ((by assumption : FR md_co_addAs__2 U22 T23).cx 886 rfl j).1) (by assumption) (by assumption) (by assumption) ha.1 g81 m81
        refine l_return rfl rfl ?_
        have w99 : 0 ≤ Xi T23 882 3 ∧ Xi T23 882 3 ≤ 20 := hHT23.c _ _
        exact ⟨hHT23, hFT23, rfl, (by omega), (c84)⟩
      · refine l_iload rfl rfl ?_
        refine l_goto rfl rfl ?_
        refine l_iastore (n := 20) rfl rfl (by omega) (by omega) (by unfold rg; omega) ?_
        obtain ⟨U24, eU24⟩ : ∃ T : sS, T = uI U21 884 (((Xi S 882 3)).toNat) (Int32.ofInt (0 + 1)) := ⟨_, rfl⟩
        rw [← eU24]
        have hHU24 : HI U24 := by rw [eU24]; exact HI_w hHU21 (show 0 ≤ (0 + 1) by omega) (show (0 + 1) ≤ 8 by omega)
        have hFU24 : FR md_co_addFirst__2 S U24 := by rw [eU24]; exact FR.wI hFU21 (mdf_i (r := (884, 885, 0, 100000)) (List.mem_of_getElem? (i := 2) rfl) (inR_i (by omega) (by omega) (by omega) (by omega)))
        have w100 : Xi U24 884 (((Xi S 882 3)).toNat) = (0 + 1) := by rw [eU24]; exact Xi_same (by unfold rg; omega)
        have hk81 : KCM S U24 := kcm_f (FR_e eU24) rfl hk58
        have y81 : ∀ j, Xi U24 885 j = Xi U21 885 j := fun j => ((FR_e eU24).cx 885 rfl j).1
        have x81 : ∀ j, Xi U24 886 j = Xi U21 886 j := fun j => ((FR_e eU24).cx 886 rfl j).1
        have f81 : ∀ i, Xi U24 883 i = Xi S 883 i := fun i => ((FR_e eU24).cx 883 rfl i).1.trans (f58 i)
        have e81 : Xi U24 882 3 = Xi S 882 3 := ((FR_e eU24).x 882 3 rfl).trans e58
        have g81 : Xi U24 885 (Xi U24 882 3).toNat = -1 → Xi S 19 act.toNat = -1 := fun q => by rw [e81, y81, y58] at q; exact ha.2.1 (g48 q)
        have m81 : Xi S 19 act.toNat = -2 → Xi U24 886 (Xi U24 882 3).toNat = -2 := fun q => by rw [e81, x81, g58]; exact ha.2.2 q
        refine l_aload_n rfl rfl ?_
        refine l_iload_n rfl rfl ?_
        have w101 : Xi U24 882 3 = Xi S 882 3 := (show Xi U24 882 3 = Xi U21 882 3 from by rw [eU24]; exact Xi_ne (by omega)).trans ( (show Xi U21 882 3 = Xi U20 882 3 from by rw [eU21]; exact Xi_ne (by omega)).trans ( (show Xi U20 882 3 = Xi U13 882 3 from by rw [eU20]; exact Xi_ne (by omega)).trans ((show Xi U13 882 3 = Xi S 882 3 from by rw [eU13]; rfl))))
        have w102 : 0 ≤ Xi S 882 3 ∧ Xi S 882 3 ≤ 20 := hH.c _ _
        refine l_callV rfl rfl rfl (t_co_addAs__2 hHU24 act ⟨by omega, by omega⟩ (by first | assumption | omega) _) ?_
        rintro _ T25 ⟨hHT25, w107, rfl, w103, w104, w105⟩
        have hFT25 : FR md_co_addFirst__2 S T25 := FR.tr hFU24 w107 rfl
        show Rl _ _ _ _ _ [] _ _
        have c84 : CMD T25 := CMD_add hH hC hk81 e81 f81 (fun j => (hFT25.cx 5 rfl j).1) (fun j => (hFT25.cx 19 rfl j).1) (fun j => ((by assumption : FR md_co_addAs__2 U24 T25).cx 885 rfl j).1) (fun j => ((by assumption : FR md_co_addAs__2 U24 T25).cx 886 rfl j).1) (by assumption) (by assumption) (by assumption) ha.1 g81 m81
        refine l_return rfl rfl ?_
        have w108 : 0 ≤ Xi T25 882 3 ∧ Xi T25 882 3 ≤ 20 := hHT25.c _ _
        exact ⟨hHT25, hFT25, rfl, (by omega), (c84)⟩
def md_co_startAgain__2 : List rec := [(882, 883, 3, 4), (883, 884, 0, 100000), (884, 885, 0, 100000), (885, 886, 0, 100000), (886, 887, 0, 100000), (887, 888, 0, 100000)]
abbrev Q_co_startAgain__2 (S : sS) : pst := fun r S1 => HI S1 ∧ FR md_co_startAgain__2 S S1 ∧ (r = none ∧ (Xi S1 882 3 = 7) ∧ (CMD S1))
set_option maxRecDepth 100000 in
theorem t_co_startAgain__2 {S : sS} (hH : HI S) (c5 : 5 ≤ Xi S 5 8) (a5 : Xi S 19 0 = -1 ∧ Xi S 19 1 = 0 ∧ Xi S 19 2 = 0 ∧ Xi S 19 3 = 0 ∧ Xi S 19 4 = -2) (d : Nat) : Mt lay0 (d + 6) m_co_startAgain [.ref 882] S (Q_co_startAgain__2 S) := by
  refine Mt_R rfl rfl ?_
  have hF : FR md_co_startAgain__2 S S := FR.rf
  have w1 : -2 ≤ Xi S 19 0 ∧ Xi S 19 0 ≤ 15 := hH.c _ _
  have w2 : -2 ≤ Xi S 19 1 ∧ Xi S 19 1 ≤ 15 := hH.c _ _
  have w3 : -2 ≤ Xi S 19 2 ∧ Xi S 19 2 ≤ 15 := hH.c _ _
  have w4 : -2 ≤ Xi S 19 3 ∧ Xi S 19 3 ≤ 15 := hH.c _ _
  have w5 : -2 ≤ Xi S 19 4 ∧ Xi S 19 4 ≤ 15 := hH.c _ _
  have w6 : 0 ≤ Xi S 5 8 ∧ Xi S 5 8 ≤ 12 := hH.c _ _
  refine l_aload_n rfl rfl ?_
  refine l_iconst rfl ?_
  refine l_pfi rfl rfl rfl rfl ?_
  obtain ⟨U1, eU1⟩ : ∃ T : sS, T = uI S 882 3 (Int32.ofInt 0) := ⟨_, rfl⟩
  rw [← eU1]
  have hHU1 : HI U1 := by rw [eU1]; exact HI_w hH (show 0 ≤ 0 by omega) (show 0 ≤ 20 by omega)
  have hFU1 : FR md_co_startAgain__2 S U1 := by rw [eU1]; exact FR.wI hF (mdf_i (r := (882, 883, 3, 4)) (List.mem_of_getElem? (i := 0) rfl) (inR_i (by omega) (by omega) (by omega) (by omega)))
  have w7 : Xi U1 882 3 = 0 := by rw [eU1]; exact Xi_same (by unfold rg; omega)
  have x2 : Xi U1 882 3 = 0 := by rw [eU1]; exact Xi_same (by unfold rg; omega)
  have cm2 : CMD U1 := fun i hi => by omega
  have y2 : Xi U1 5 8 = Xi S 5 8 := ((FR_e eU1).cx 5 rfl 8).1
  have t2 : ∀ j, Xi U1 19 j = Xi S 19 j := fun j => ((FR_e eU1).cx 19 rfl j).1
  have u0 : Xi U1 19 0 = -1 := (t2 0).trans a5.1
  have u1 : Xi U1 19 1 = 0 := (t2 1).trans a5.2.1
  have u2 : Xi U1 19 2 = 0 := (t2 2).trans a5.2.2.1
  have u3 : Xi U1 19 3 = 0 := (t2 3).trans a5.2.2.2.1
  have u4 : Xi U1 19 4 = -2 := (t2 4).trans a5.2.2.2.2
  refine l_aload_n rfl rfl ?_
  refine l_ldcR (i := 28) rfl rfl ?_
  refine l_iconst rfl ?_
  refine l_iconst rfl ?_
  have w8 : Xi U1 5 8 = Xi S 5 8 := (show Xi U1 5 8 = Xi S 5 8 from by rw [eU1]; exact Xi_ne (by omega))
  have w9 : 0 ≤ Xi S 5 8 ∧ Xi S 5 8 ≤ 12 := hH.c _ _
  have w10 : 0 ≤ Xi U1 882 3 ∧ Xi U1 882 3 ≤ 20 := hHU1.c _ _
  refine l_callV rfl rfl rfl (t_co_addFirst__2 hHU1 28 _ (-1) 0 rfl ⟨by omega, by omega⟩ ⟨by omega, by omega⟩ (by first | assumption | omega) (by assumption) (⟨by omega, fun q => by first | omega | exact u0, fun q => by first | rfl | omega | exact absurd (u0.symm.trans q) (by decide) | exact absurd (u1.symm.trans q) (by decide) | exact absurd (u2.symm.trans q) (by decide) | exact absurd (u3.symm.trans q) (by decide)⟩) _) ?_
  rintro _ T2 ⟨hHT2, w14, rfl, w11, w12⟩
  have hFT2 : FR md_co_startAgain__2 S T2 := FR.tr hFU1 w14 rfl
  show Rl _ _ _ _ _ [] _ _
  have cm10 : CMD T2 := by assumption
  have y10 : Xi T2 5 8 = Xi S 5 8 := ((by assumption : FR md_co_addFirst__2 U1 T2).cx 5 rfl 8).1.trans y2
  have t10 : ∀ j, Xi T2 19 j = Xi S 19 j := fun j => ((by assumption : FR md_co_addFirst__2 U1 T2).cx 19 rfl j).1.trans (t2 j)
  have u0 : Xi T2 19 0 = -1 := (t10 0).trans a5.1
  have u1 : Xi T2 19 1 = 0 := (t10 1).trans a5.2.1
  have u2 : Xi T2 19 2 = 0 := (t10 2).trans a5.2.2.1
  have u3 : Xi T2 19 3 = 0 := (t10 3).trans a5.2.2.2.1
  have u4 : Xi T2 19 4 = -2 := (t10 4).trans a5.2.2.2.2
  refine l_aload_n rfl rfl ?_
  refine l_ldcR (i := 29) rfl rfl ?_
  refine l_iconst rfl ?_
  refine l_iconst rfl ?_
  have w15 : Xi T2 5 8 = Xi S 5 8 := (show Xi T2 5 8 = Xi U1 5 8 from w14.x _ _ rfl).trans ((show Xi U1 5 8 = Xi S 5 8 from by rw [eU1]; exact Xi_ne (by omega)))
  have w16 : 0 ≤ Xi S 5 8 ∧ Xi S 5 8 ≤ 12 := hH.c _ _
  have w17 : 0 ≤ Xi T2 882 3 ∧ Xi T2 882 3 ≤ 20 := hHT2.c _ _
  refine l_callV rfl rfl rfl (t_co_addFirst__2 hHT2 29 _ 0 1 rfl ⟨by omega, by omega⟩ ⟨by omega, by omega⟩ (by first | assumption | omega) (by assumption) (⟨by omega, fun q => by first | omega | exact u0, fun q => by first | rfl | omega | exact absurd (u0.symm.trans q) (by decide) | exact absurd (u1.symm.trans q) (by decide) | exact absurd (u2.symm.trans q) (by decide) | exact absurd (u3.symm.trans q) (by decide)⟩) _) ?_
  rintro _ T3 ⟨hHT3, w21, rfl, w18, w19⟩
  have hFT3 : FR md_co_startAgain__2 S T3 := FR.tr hFT2 w21 rfl
  show Rl _ _ _ _ _ [] _ _
  have cm18 : CMD T3 := by assumption
  have y18 : Xi T3 5 8 = Xi S 5 8 := ((by assumption : FR md_co_addFirst__2 T2 T3).cx 5 rfl 8).1.trans y10
  have t18 : ∀ j, Xi T3 19 j = Xi S 19 j := fun j => ((by assumption : FR md_co_addFirst__2 T2 T3).cx 19 rfl j).1.trans (t10 j)
  have u0 : Xi T3 19 0 = -1 := (t18 0).trans a5.1
  have u1 : Xi T3 19 1 = 0 := (t18 1).trans a5.2.1
  have u2 : Xi T3 19 2 = 0 := (t18 2).trans a5.2.2.1
  have u3 : Xi T3 19 3 = 0 := (t18 3).trans a5.2.2.2.1
  have u4 : Xi T3 19 4 = -2 := (t18 4).trans a5.2.2.2.2
  refine l_aload_n rfl rfl ?_
  refine l_ldcR (i := 30) rfl rfl ?_
  refine l_iconst rfl ?_
  refine l_iconst rfl ?_
  have w22 : Xi T3 5 8 = Xi S 5 8 := (show Xi T3 5 8 = Xi T2 5 8 from w21.x _ _ rfl).trans ( (show Xi T2 5 8 = Xi U1 5 8 from w14.x _ _ rfl).trans ((show Xi U1 5 8 = Xi S 5 8 from by rw [eU1]; exact Xi_ne (by omega))))
  have w23 : 0 ≤ Xi S 5 8 ∧ Xi S 5 8 ≤ 12 := hH.c _ _
  have w24 : 0 ≤ Xi T3 882 3 ∧ Xi T3 882 3 ≤ 20 := hHT3.c _ _
  refine l_callV rfl rfl rfl (t_co_addFirst__2 hHT3 30 _ 0 1 rfl ⟨by omega, by omega⟩ ⟨by omega, by omega⟩ (by first | assumption | omega) (by assumption) (⟨by omega, fun q => by first | omega | exact u0, fun q => by first | rfl | omega | exact absurd (u0.symm.trans q) (by decide) | exact absurd (u1.symm.trans q) (by decide) | exact absurd (u2.symm.trans q) (by decide) | exact absurd (u3.symm.trans q) (by decide)⟩) _) ?_
  rintro _ T4 ⟨hHT4, w28, rfl, w25, w26⟩
  have hFT4 : FR md_co_startAgain__2 S T4 := FR.tr hFT3 w28 rfl
  show Rl _ _ _ _ _ [] _ _
  have cm26 : CMD T4 := by assumption
  have y26 : Xi T4 5 8 = Xi S 5 8 := ((by assumption : FR md_co_addFirst__2 T3 T4).cx 5 rfl 8).1.trans y18
  have t26 : ∀ j, Xi T4 19 j = Xi S 19 j := fun j => ((by assumption : FR md_co_addFirst__2 T3 T4).cx 19 rfl j).1.trans (t18 j)
  have u0 : Xi T4 19 0 = -1 := (t26 0).trans a5.1
  have u1 : Xi T4 19 1 = 0 := (t26 1).trans a5.2.1
  have u2 : Xi T4 19 2 = 0 := (t26 2).trans a5.2.2.1
  have u3 : Xi T4 19 3 = 0 := (t26 3).trans a5.2.2.2.1
  have u4 : Xi T4 19 4 = -2 := (t26 4).trans a5.2.2.2.2
  refine l_aload_n rfl rfl ?_
  refine l_ldcR (i := 31) rfl rfl ?_
  refine l_iconst rfl ?_
  refine l_iconst rfl ?_
  have w29 : Xi T4 5 8 = Xi S 5 8 := (show Xi T4 5 8 = Xi T3 5 8 from w28.x _ _ rfl).trans ( (show Xi T3 5 8 = Xi T2 5 8 from w21.x _ _ rfl).trans ( (show Xi T2 5 8 = Xi U1 5 8 from w14.x _ _ rfl).trans ((show Xi U1 5 8 = Xi S 5 8 from by rw [eU1]; exact Xi_ne (by omega)))))
  have w30 : 0 ≤ Xi S 5 8 ∧ Xi S 5 8 ≤ 12 := hH.c _ _
  have w31 : 0 ≤ Xi T4 882 3 ∧ Xi T4 882 3 ≤ 20 := hHT4.c _ _
  refine l_callV rfl rfl rfl (t_co_addFirst__2 hHT4 31 _ 0 2 rfl ⟨by omega, by omega⟩ ⟨by omega, by omega⟩ (by first | assumption | omega) (by assumption) (⟨by omega, fun q => by first | omega | exact u0, fun q => by first | rfl | omega | exact absurd (u0.symm.trans q) (by decide) | exact absurd (u1.symm.trans q) (by decide) | exact absurd (u2.symm.trans q) (by decide) | exact absurd (u3.symm.trans q) (by decide)⟩) _) ?_
  rintro _ T5 ⟨hHT5, w35, rfl, w32, w33⟩
  have hFT5 : FR md_co_startAgain__2 S T5 := FR.tr hFT4 w35 rfl
  show Rl _ _ _ _ _ [] _ _
  have cm34 : CMD T5 := by assumption
  have y34 : Xi T5 5 8 = Xi S 5 8 := ((by assumption : FR md_co_addFirst__2 T4 T5).cx 5 rfl 8).1.trans y26
  have t34 : ∀ j, Xi T5 19 j = Xi S 19 j := fun j => ((by assumption : FR md_co_addFirst__2 T4 T5).cx 19 rfl j).1.trans (t26 j)
  have u0 : Xi T5 19 0 = -1 := (t34 0).trans a5.1
  have u1 : Xi T5 19 1 = 0 := (t34 1).trans a5.2.1
  have u2 : Xi T5 19 2 = 0 := (t34 2).trans a5.2.2.1
  have u3 : Xi T5 19 3 = 0 := (t34 3).trans a5.2.2.2.1
  have u4 : Xi T5 19 4 = -2 := (t34 4).trans a5.2.2.2.2
  refine l_aload_n rfl rfl ?_
  refine l_ldcR (i := 32) rfl rfl ?_
  refine l_iconst rfl ?_
  refine l_iconst rfl ?_
  have w36 : Xi T5 5 8 = Xi S 5 8 := (show Xi T5 5 8 = Xi T4 5 8 from w35.x _ _ rfl).trans ( (show Xi T4 5 8 = Xi T3 5 8 from w28.x _ _ rfl).trans ( (show Xi T3 5 8 = Xi T2 5 8 from w21.x _ _ rfl).trans ( (show Xi T2 5 8 = Xi U1 5 8 from w14.x _ _ rfl).trans ((show Xi U1 5 8 = Xi S 5 8 from by rw [eU1]; exact Xi_ne (by omega))))))
  have w37 : 0 ≤ Xi S 5 8 ∧ Xi S 5 8 ≤ 12 := hH.c _ _
  have w38 : 0 ≤ Xi T5 882 3 ∧ Xi T5 882 3 ≤ 20 := hHT5.c _ _
  refine l_callV rfl rfl rfl (t_co_addFirst__2 hHT5 32 _ 0 3 rfl ⟨by omega, by omega⟩ ⟨by omega, by omega⟩ (by first | assumption | omega) (by assumption) (⟨by omega, fun q => by first | omega | exact u0, fun q => by first | rfl | omega | exact absurd (u0.symm.trans q) (by decide) | exact absurd (u1.symm.trans q) (by decide) | exact absurd (u2.symm.trans q) (by decide) | exact absurd (u3.symm.trans q) (by decide)⟩) _) ?_
  rintro _ T6 ⟨hHT6, w42, rfl, w39, w40⟩
  have hFT6 : FR md_co_startAgain__2 S T6 := FR.tr hFT5 w42 rfl
  show Rl _ _ _ _ _ [] _ _
  have cm42 : CMD T6 := by assumption
  have y42 : Xi T6 5 8 = Xi S 5 8 := ((by assumption : FR md_co_addFirst__2 T5 T6).cx 5 rfl 8).1.trans y34
  have t42 : ∀ j, Xi T6 19 j = Xi S 19 j := fun j => ((by assumption : FR md_co_addFirst__2 T5 T6).cx 19 rfl j).1.trans (t34 j)
  have u0 : Xi T6 19 0 = -1 := (t42 0).trans a5.1
  have u1 : Xi T6 19 1 = 0 := (t42 1).trans a5.2.1
  have u2 : Xi T6 19 2 = 0 := (t42 2).trans a5.2.2.1
  have u3 : Xi T6 19 3 = 0 := (t42 3).trans a5.2.2.2.1
  have u4 : Xi T6 19 4 = -2 := (t42 4).trans a5.2.2.2.2
  refine l_aload_n rfl rfl ?_
  refine l_ldcR (i := 33) rfl rfl ?_
  refine l_bipush rfl rfl ?_
  refine l_iconst rfl ?_
  have w43 : Xi T6 5 8 = Xi S 5 8 := (show Xi T6 5 8 = Xi T5 5 8 from w42.x _ _ rfl).trans ( (show Xi T5 5 8 = Xi T4 5 8 from w35.x _ _ rfl).trans ( (show Xi T4 5 8 = Xi T3 5 8 from w28.x _ _ rfl).trans ( (show Xi T3 5 8 = Xi T2 5 8 from w21.x _ _ rfl).trans ( (show Xi T2 5 8 = Xi U1 5 8 from w14.x _ _ rfl).trans ((show Xi U1 5 8 = Xi S 5 8 from by rw [eU1]; exact Xi_ne (by omega)))))))
  have w44 : 0 ≤ Xi S 5 8 ∧ Xi S 5 8 ≤ 12 := hH.c _ _
  have w45 : 0 ≤ Xi T6 882 3 ∧ Xi T6 882 3 ≤ 20 := hHT6.c _ _
  refine l_callV rfl rfl rfl (t_co_addFirst__2 hHT6 33 _ (-2) 4 rfl ⟨by omega, by omega⟩ ⟨by omega, by omega⟩ (by first | assumption | omega) (by assumption) (⟨by omega, fun q => by first | omega | exact u0, fun q => by first | rfl | omega | exact absurd (u0.symm.trans q) (by decide) | exact absurd (u1.symm.trans q) (by decide) | exact absurd (u2.symm.trans q) (by decide) | exact absurd (u3.symm.trans q) (by decide)⟩) _) ?_
  rintro _ T7 ⟨hHT7, w49, rfl, w46, w47⟩
  have hFT7 : FR md_co_startAgain__2 S T7 := FR.tr hFT6 w49 rfl
  show Rl _ _ _ _ _ [] _ _
  have cm51 : CMD T7 := by assumption
  have y51 : Xi T7 5 8 = Xi S 5 8 := ((by assumption : FR md_co_addFirst__2 T6 T7).cx 5 rfl 8).1.trans y42
  have t51 : ∀ j, Xi T7 19 j = Xi S 19 j := fun j => ((by assumption : FR md_co_addFirst__2 T6 T7).cx 19 rfl j).1.trans (t42 j)
  have u0 : Xi T7 19 0 = -1 := (t51 0).trans a5.1
  have u1 : Xi T7 19 1 = 0 := (t51 1).trans a5.2.1
  have u2 : Xi T7 19 2 = 0 := (t51 2).trans a5.2.2.1
  have u3 : Xi T7 19 3 = 0 := (t51 3).trans a5.2.2.2.1
  have u4 : Xi T7 19 4 = -2 := (t51 4).trans a5.2.2.2.2
  refine l_aload_n rfl rfl ?_
  refine l_ldcR (i := 34) rfl rfl ?_
  refine l_bipush rfl rfl ?_
  refine l_iconst rfl ?_
  have w50 : Xi T7 5 8 = Xi S 5 8 := (show Xi T7 5 8 = Xi T6 5 8 from w49.x _ _ rfl).trans ( (show Xi T6 5 8 = Xi T5 5 8 from w42.x _ _ rfl).trans ( (show Xi T5 5 8 = Xi T4 5 8 from w35.x _ _ rfl).trans ( (show Xi T4 5 8 = Xi T3 5 8 from w28.x _ _ rfl).trans ( (show Xi T3 5 8 = Xi T2 5 8 from w21.x _ _ rfl).trans ( (show Xi T2 5 8 = Xi U1 5 8 from w14.x _ _ rfl).trans ((show Xi U1 5 8 = Xi S 5 8 from by rw [eU1]; exact Xi_ne (by omega))))))))
  have w51 : 0 ≤ Xi S 5 8 ∧ Xi S 5 8 ≤ 12 := hH.c _ _
  have w52 : 0 ≤ Xi T7 882 3 ∧ Xi T7 882 3 ≤ 20 := hHT7.c _ _
  refine l_callV rfl rfl rfl (t_co_addFirst__2 hHT7 34 _ (-2) 4 rfl ⟨by omega, by omega⟩ ⟨by omega, by omega⟩ (by first | assumption | omega) (by assumption) (⟨by omega, fun q => by first | omega | exact u0, fun q => by first | rfl | omega | exact absurd (u0.symm.trans q) (by decide) | exact absurd (u1.symm.trans q) (by decide) | exact absurd (u2.symm.trans q) (by decide) | exact absurd (u3.symm.trans q) (by decide)⟩) _) ?_
  rintro _ T8 ⟨hHT8, w56, rfl, w53, w54⟩
  have hFT8 : FR md_co_startAgain__2 S T8 := FR.tr hFT7 w56 rfl
  show Rl _ _ _ _ _ [] _ _
  have cm60 : CMD T8 := by assumption
  have y60 : Xi T8 5 8 = Xi S 5 8 := ((by assumption : FR md_co_addFirst__2 T7 T8).cx 5 rfl 8).1.trans y51
  have t60 : ∀ j, Xi T8 19 j = Xi S 19 j := fun j => ((by assumption : FR md_co_addFirst__2 T7 T8).cx 19 rfl j).1.trans (t51 j)
  have u0 : Xi T8 19 0 = -1 := (t60 0).trans a5.1
  have u1 : Xi T8 19 1 = 0 := (t60 1).trans a5.2.1
  have u2 : Xi T8 19 2 = 0 := (t60 2).trans a5.2.2.1
  have u3 : Xi T8 19 3 = 0 := (t60 3).trans a5.2.2.2.1
  have u4 : Xi T8 19 4 = -2 := (t60 4).trans a5.2.2.2.2
  refine l_return rfl rfl ?_
  have w57 : 0 ≤ Xi T8 882 3 ∧ Xi T8 882 3 ≤ 20 := hHT8.c _ _
  exact ⟨hHT8, hFT8, rfl, (by omega), (by assumption)⟩

