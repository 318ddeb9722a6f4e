/-! SAFETY of methods: printed by wip/safe (vc.py, decl.py) -/
def md_me_readAdjective : List rec := [(895, 896, 8, 9), (895, 896, 9, 10)]
abbrev Q_me_readAdjective (S : sS) (kind : Int) (from_ : Int) (to : Int) (vals : Int) (dfd : Int) : pst := fun r S1 => HI S1 ∧ FR md_me_readAdjective S S1 ∧ (∃ z : Int, r = some (iv z) ∧ (0 ≤ z ∧ z ≤ 12) ∧ (1 ≤ z → (Xi S1 895 9 = -1 → Xi S1 895 8 ≤ 23) ∧ Xi S1 895 8 ≤ 63))
set_option maxRecDepth 100000 in
theorem t_me_readAdjective {S : sS} (hH : HI S) (kind : Int) (from_ : Int) (to : Int) (vals : Int) (dfd : Int) (hkind : -1 ≤ kind ∧ kind ≤ 15) (hfrom_ : -1 ≤ from_ ∧ from_ ≤ 6000) (hto : -1 ≤ to ∧ to ≤ 6000) (hvals : 0 ≤ vals ∧ vals ≤ 1) (hdfd : 0 ≤ dfd ∧ dfd ≤ 1) (hL : LEX S) (d : Nat) : Mt lay0 (d + 2) m_me_readAdjective [.ref 895, iv kind, iv from_, iv to, iv vals, iv dfd] S (Q_me_readAdjective S kind from_ to vals dfd) := by
  refine Mt_R rfl rfl ?_
  have hF : FR md_me_readAdjective S S := FR.rf
  have w1 : 0 ≤ Xi S 895 8 ∧ Xi S 895 8 ≤ 255 := hH.c _ _
  have w2 : -1 ≤ Xi S 895 9 ∧ Xi S 895 9 ≤ 11 := hH.c _ _
  have C124 : ∀ (n124 : Nat) (T1 : sS) (_ : HI T1) (_ : FR md_me_readAdjective S T1) (v7 : Int) (v8 : Int) (v9 : Int), (0 ≤ v7 ∧ v7 ≤ 12) → (-2147483648 ≤ v8 ∧ v8 ≤ 2147483647) → (0 ≤ v9 ∧ v9 ≤ 12) → (0 ≤ v7 ∧ v7 ≤ v9) → (Xi T1 895 8 ≤ 63) → (v7 = 0 ∨ 0 ≤ Xi T1 895 9) → n124 = (13 - v9).toNat → Rl lay0 (d + 1) m_me_readAdjective 124 [(0, .ref 895), (7, iv v7), (8, iv v8), (9, iv v9)] [] T1 (Q_me_readAdjective S kind from_ to vals dfd) := by
    intro n124
    induction n124 using Nat.strongRecOn with
    | ind n124 ih124 =>
      intro T1 hHT1 hFT1 v7 v8 v9 w3 w4 w5 w6 w7 w8 hm124
      have w9 : 0 ≤ Xi T1 895 8 ∧ Xi T1 895 8 ≤ 255 := hHT1.c _ _
      have w10 : -1 ≤ Xi T1 895 9 ∧ Xi T1 895 9 ≤ 11 := hHT1.c _ _
      have C176 : ∀  (T2 : sS) (_ : HI T2) (_ : FR md_me_readAdjective S T2) (v7 : Int) (v8 : Int) (v9 : Int), (0 ≤ v7 ∧ v7 ≤ 12) → (-2147483648 ≤ v8 ∧ v8 ≤ 2147483647) → (0 ≤ v9 ∧ v9 ≤ 11) → (0 ≤ v7 ∧ v7 ≤ v9 + 1) → (v9 ≤ 11) → (Xi T2 895 8 ≤ 63) → (v7 = 0 ∨ 0 ≤ Xi T2 895 9) → ((13 - v9).toNat ≤ n124) → Rl lay0 (d + 1) m_me_readAdjective 176 [(0, .ref 895), (7, iv v7), (8, iv v8), (9, iv v9)] [] T2 (Q_me_readAdjective S kind from_ to vals dfd) := by
        intro T2 hHT2 hFT2 v7 v8 v9 w11 w12 w13 w14 w15 w16 w17 w18
        have w19 : 0 ≤ Xi T2 895 8 ∧ Xi T2 895 8 ≤ 255 := hHT2.c _ _
        have w20 : -1 ≤ Xi T2 895 9 ∧ Xi T2 895 9 ≤ 11 := hHT2.c _ _
        refine l_iinc rfl rfl rfl rfl ?_
        refine l_goto rfl rfl ?_
        have w21 : 0 ≤ Xi T2 895 8 ∧ Xi T2 895 8 ≤ 255 := hHT2.c _ _
        have w22 : -1 ≤ Xi T2 895 9 ∧ Xi T2 895 9 ≤ 11 := hHT2.c _ _
        exact Rl_weak (ih124 _ (by omega) T2 hHT2 hFT2 (v7) (v8) ((v9 + 1)) (by omega) (by omega) (by omega) (by omega) (by omega) (by omega) rfl) (And.intro rfl (And.intro rfl (And.intro rfl (And.intro rfl (True.intro)))))
      refine l_iload rfl rfl ?_
      refine l_bipush rfl rfl ?_
      refine l_icmp_ge rfl rfl (by unfold rg; omega) (by unfold rg; omega) (fun w23 => ?_) (fun w24 => ?_)
      · refine l_iload rfl rfl ?_
        refine l_ireturn rfl rfl ?_
        have w25 : 0 ≤ Xi T1 895 8 ∧ Xi T1 895 8 ≤ 255 := hHT1.c _ _
        have w26 : -1 ≤ Xi T1 895 9 ∧ Xi T1 895 9 ≤ 11 := hHT1.c _ _
        exact ⟨hHT1, hFT1, _, rfl, ⟨by omega, by omega⟩, (by first | assumption | omega)⟩
      · refine l_iload rfl rfl ?_
        refine l_iload rfl rfl ?_
        refine l_ishrF rfl ?_
        have w27 : -2147483648 ≤ (ishrF v8 v9) ∧ (ishrF v8 v9) ≤ 2147483647 := ishrF_rg
        refine l_iconst rfl ?_
        refine l_iandF rfl ?_
        have w28 : 0 ≤ (iandF (ishrF v8 v9) 1) ∧ (iandF (ishrF v8 v9) 1) ≤ 1 := iandF_le (by omega) (by unfold rg; omega)
        refine l_iconst rfl ?_
        refine l_icmp_ne rfl rfl (by unfold rg; omega) (by unfold rg; omega) (fun w29 => ?_) (fun w30 => ?_)
        · have w31 : 0 ≤ Xi T1 895 8 ∧ Xi T1 895 8 ≤ 255 := hHT1.c _ _
          have w32 : -1 ≤ Xi T1 895 9 ∧ Xi T1 895 9 ≤ 11 := hHT1.c _ _
          exact Rl_weak (C176 T1 hHT1 hFT1 (v7) (v8) (v9) (by omega) (by omega) (by omega) (by omega) (by omega) (by omega) (by omega) (by omega)) (And.intro rfl (And.intro rfl (And.intro rfl (And.intro rfl (True.intro)))))
        · refine l_aload_n rfl rfl ?_
          refine l_gfr rfl rfl rfl rfl rfl (hHT1.r 895 1 1 rfl) ?_
          refine l_gfr rfl rfl rfl rfl rfl (hHT1.r 1 8 9 rfl) ?_
          refine l_iload rfl rfl ?_
          refine l_iaload (n := 12) rfl rfl (by omega) (by omega) (by unfold rg; omega) ?_
          have w33 : 0 ≤ (Xi T1 9 ((v9).toNat)) ∧ (Xi T1 9 ((v9).toNat)) ≤ 7 := hHT1.c _ _
          refine l_aload_n rfl rfl ?_
          refine l_gfr rfl rfl rfl rfl rfl (hHT1.r 895 1 1 rfl) ?_
          refine l_gfr rfl rfl rfl rfl rfl (hHT1.r 1 7 8 rfl) ?_
          refine l_aload_n rfl rfl ?_
          refine l_gfi rfl rfl rfl rfl rfl ?_
          refine l_iaload (n := 64) rfl rfl (by omega) (by omega) (by unfold rg; omega) ?_
          have w34 : 0 ≤ (Xi T1 8 (((Xi T1 895 8)).toNat)) ∧ (Xi T1 8 (((Xi T1 895 8)).toNat)) ≤ 7 := hHT1.c _ _
          refine l_icmp_ne rfl rfl (by unfold rg; omega) (by unfold rg; omega) (fun w35 => ?_) (fun w36 => ?_)
          · have w37 : 0 ≤ Xi T1 895 8 ∧ Xi T1 895 8 ≤ 255 := hHT1.c _ _
            have w38 : -1 ≤ Xi T1 895 9 ∧ Xi T1 895 9 ≤ 11 := hHT1.c _ _
            exact Rl_weak (C176 T1 hHT1 hFT1 (v7) (v8) (v9) (by omega) (by omega) (by omega) (by omega) (by omega) (by omega) (by omega) (by omega)) (And.intro rfl (And.intro rfl (And.intro rfl (And.intro rfl (True.intro)))))
          · refine l_aload_n rfl rfl ?_
            refine l_iload rfl rfl ?_
            refine l_pfi rfl rfl rfl rfl ?_
            obtain ⟨U3, eU3⟩ : ∃ T : sS, T = uI T1 895 9 (Int32.ofInt v9) := ⟨_, rfl⟩
            rw [← eU3]
            have hHU3 : HI U3 := by rw [eU3]; exact HI_w hHT1 (show -1 ≤ v9 by omega) (show v9 ≤ 11 by omega)
            have hFU3 : FR md_me_readAdjective S U3 := by rw [eU3]; exact FR.wI hFT1 (mdf_i (r := (895, 896, 9, 10)) (List.mem_of_getElem? (i := 1) rfl) (inR_i (by omega) (by omega) (by omega) (by omega)))
            have w39 : Xi U3 895 9 = v9 := by rw [eU3]; exact Xi_same (by unfold rg; omega)
            refine l_iinc rfl rfl rfl rfl ?_
            have w40 : Xi U3 895 8 = Xi T1 895 8 := (show Xi U3 895 8 = Xi T1 895 8 from by rw [eU3]; exact Xi_ne (by omega))
            have w41 : 0 ≤ Xi T1 895 8 ∧ Xi T1 895 8 ≤ 255 := hHT1.c _ _
            have w42 : -1 ≤ Xi U3 895 9 ∧ Xi U3 895 9 ≤ 11 := hHU3.c _ _
            exact Rl_weak (C176 U3 hHU3 hFU3 ((v7 + 1)) (v8) (v9) (by omega) (by omega) (by omega) (by omega) (by omega) (by omega) (by omega) (by omega)) (And.intro rfl (And.intro rfl (And.intro rfl (And.intro rfl (True.intro)))))
  refine l_aload_n rfl rfl ?_
  refine l_gfr rfl rfl rfl rfl rfl (hH.r 895 1 1 rfl) ?_
  refine l_aload_n rfl rfl ?_
  refine l_gfr rfl rfl rfl rfl rfl (hH.r 895 0 876 rfl) ?_
  refine l_gfr rfl rfl rfl rfl rfl (hH.r 876 2 879 rfl) ?_
  refine l_iload_n rfl rfl ?_
  refine l_iload_n rfl rfl ?_
  refine l_callV rfl rfl rfl (t_vo_meaning hH 879 5130 from_ to rfl ⟨by omega, by omega⟩ ⟨by omega, by omega⟩ ⟨by omega, by omega⟩ (by first | assumption | exact (LEX_FR hF rfl rfl (by assumption : LEX S))) _) ?_
  rintro _ _ ⟨rfl, z46, rfl, w46, w43, w44, w45⟩
  show Rl _ _ _ _ _ [iv z46] _ _
  have hmnz46 := mOK_n (z := z46) (by assumption)
  refine l_istore rfl rfl rfl ?_
  refine l_aload_n rfl rfl ?_
  refine l_iload rfl rfl ?_
  refine l_sipush rfl rfl ?_
  refine l_iand255 rfl (by unfold rg; omega) ?_
  refine l_pfi rfl rfl rfl rfl ?_
  obtain ⟨U4, eU4⟩ : ∃ T : sS, T = uI S 895 8 (Int32.ofInt (z46 % 256)) := ⟨_, rfl⟩
  rw [← eU4]
  have hHU4 : HI U4 := by rw [eU4]; exact HI_w hH (show 0 ≤ (z46 % 256) by omega) (show (z46 % 256) ≤ 255 by omega)
  have hFU4 : FR md_me_readAdjective S U4 := by rw [eU4]; exact FR.wI hF (mdf_i (r := (895, 896, 8, 9)) (List.mem_of_getElem? (i := 0) rfl) (inR_i (by omega) (by omega) (by omega) (by omega)))
  have w48 : Xi U4 895 8 = (z46 % 256) := by rw [eU4]; exact Xi_same (by unfold rg; omega)
  refine l_aload_n rfl rfl ?_
  refine l_iconst rfl ?_
  refine l_pfi rfl rfl rfl rfl ?_
  obtain ⟨U5, eU5⟩ : ∃ T : sS, T = uI U4 895 9 (Int32.ofInt (-1)) := ⟨_, rfl⟩
  rw [← eU5]
  have hHU5 : HI U5 := by rw [eU5]; exact HI_w hHU4 (show -1 ≤ (-1) by omega) (show (-1) ≤ 11 by omega)
  have hFU5 : FR md_me_readAdjective S U5 := by rw [eU5]; exact FR.wI hFU4 (mdf_i (r := (895, 896, 9, 10)) (List.mem_of_getElem? (i := 1) rfl) (inR_i (by omega) (by omega) (by omega) (by omega)))
  have w49 : Xi U5 895 9 = (-1) := by rw [eU5]; exact Xi_same (by unfold rg; omega)
  refine l_iload rfl rfl ?_
  refine l_bipush rfl rfl ?_
  refine l_ishr8 rfl (by unfold rg; omega) ?_
  refine l_iconst rfl ?_
  refine l_icmp_ne rfl rfl (by unfold rg; omega) (by unfold rg; omega) (fun w51 => ?_) (fun w52 => ?_)
  · refine l_iload rfl rfl ?_
    refine l_bipush rfl rfl ?_
    refine l_ishr8 rfl (by unfold rg; omega) ?_
    refine l_iconst rfl ?_
    refine l_icmp_ne rfl rfl (by unfold rg; omega) (by unfold rg; omega) (fun w54 => ?_) (fun w55 => ?_)
    · refine l_iconst rfl ?_
      refine l_ireturn rfl rfl ?_
      have w56 : Xi U5 895 8 = Xi U4 895 8 := (show Xi U5 895 8 = Xi U4 895 8 from by rw [eU5]; exact Xi_ne (by omega))
      have w57 : 0 ≤ Xi U4 895 8 ∧ Xi U4 895 8 ≤ 255 := hHU4.c _ _
      have w58 : -1 ≤ Xi U5 895 9 ∧ Xi U5 895 9 ≤ 11 := hHU5.c _ _
      exact ⟨hHU5, hFU5, _, rfl, ⟨by omega, by omega⟩, (by first | assumption | omega)⟩
    · refine l_iload rfl rfl ?_
      have hx4 := fb4 hH (lx (z := z46) (by assumption) (by omega) (by omega))
      refine l_if_ne rfl rfl (by unfold rg; omega) (fun w59 => ?_) (fun w60 => ?_)
      · refine l_iconst rfl ?_
        refine l_istore rfl rfl rfl ?_
        refine l_aload_n rfl rfl ?_
        refine l_gfr rfl rfl rfl rfl rfl (hHU5.r 895 1 1 rfl) ?_
        refine l_iload_n rfl rfl ?_
        refine l_callV rfl rfl rfl (t_vo_propertiesOf hHU5 kind ⟨by omega, by omega⟩ _) ?_
        rintro _ _ ⟨rfl, z62, rfl, w62, w61⟩
        show Rl _ _ _ _ _ [iv z62] _ _
        refine l_istore rfl rfl rfl ?_
        refine l_iconst rfl ?_
        refine l_istore rfl rfl rfl ?_
        have w63 : Xi U5 895 8 = Xi U4 895 8 := (show Xi U5 895 8 = Xi U4 895 8 from by rw [eU5]; exact Xi_ne (by omega))
        have w64 : 0 ≤ Xi U4 895 8 ∧ Xi U4 895 8 ≤ 255 := hHU4.c _ _
        have w65 : -1 ≤ Xi U5 895 9 ∧ Xi U5 895 9 ≤ 11 := hHU5.c _ _
        exact Rl_weak (C124 _ U5 hHU5 hFU5 (0) (z62) (0) (by omega) (by omega) (by omega) (by omega) (by omega) (by omega) rfl) (And.intro rfl (And.intro rfl (And.intro rfl (And.intro rfl (True.intro)))))
      · refine l_iconst rfl ?_
        refine l_ireturn rfl rfl ?_
        have w66 : Xi U5 895 8 = Xi U4 895 8 := (show Xi U5 895 8 = Xi U4 895 8 from by rw [eU5]; exact Xi_ne (by omega))
        have w67 : 0 ≤ Xi U4 895 8 ∧ Xi U4 895 8 ≤ 255 := hHU4.c _ _
        have w68 : -1 ≤ Xi U5 895 9 ∧ Xi U5 895 9 ≤ 11 := hHU5.c _ _
        exact ⟨hHU5, hFU5, _, rfl, ⟨by omega, by omega⟩, (by first | assumption | omega)⟩
  · refine l_aload_n rfl rfl ?_
    have hx3 := fb3 hH (lx (z := z46) (by assumption) (by omega) (by omega))
    refine l_gfr rfl rfl rfl rfl rfl (hHU5.r 895 1 1 rfl) ?_
    refine l_iload_n rfl rfl ?_
    refine l_aload_n rfl rfl ?_
    refine l_gfr rfl rfl rfl rfl rfl (hHU5.r 895 1 1 rfl) ?_
    refine l_gfr rfl rfl rfl rfl rfl (hHU5.r 1 9 10 rfl) ?_
    refine l_aload_n rfl rfl ?_
    refine l_gfi rfl rfl rfl rfl rfl ?_
    have w69 : (Xi U5 895 8) = (Xi U4 895 8) := (show Xi U5 895 8 = Xi U4 895 8 from by rw [eU5]; exact Xi_ne (by omega))
    rw [w69]
    refine l_iaload (n := 24) rfl rfl (by omega) (by omega) (by unfold rg; omega) ?_
    have w70 : 0 ≤ (Xi U5 10 (((Xi U4 895 8)).toNat)) ∧ (Xi U5 10 (((Xi U4 895 8)).toNat)) ≤ 15 := hHU5.c _ _
    refine l_callV rfl rfl rfl (t_vo_isKind hHU5 kind (Xi U5 10 (((Xi U4 895 8)).toNat)) ⟨by omega, by omega⟩ ⟨by omega, by omega⟩ _) ?_
    rintro _ _ ⟨rfl, z72, rfl, w72, w71⟩
    show Rl _ _ _ _ _ [iv z72] _ _
    refine l_if_eq rfl rfl (by unfold rg; omega) (fun w73 => ?_) (fun w74 => ?_)
    · refine l_iconst rfl ?_
      refine l_ireturn rfl rfl ?_
      have w75 : Xi U5 895 8 = Xi U4 895 8 := (show Xi U5 895 8 = Xi U4 895 8 from by rw [eU5]; exact Xi_ne (by omega))
      have w76 : 0 ≤ Xi U4 895 8 ∧ Xi U4 895 8 ≤ 255 := hHU4.c _ _
      have w77 : -1 ≤ Xi U5 895 9 ∧ Xi U5 895 9 ≤ 11 := hHU5.c _ _
      exact ⟨hHU5, hFU5, _, rfl, ⟨by omega, by omega⟩, (by first | assumption | omega)⟩
    · refine l_iload rfl rfl ?_
      refine l_if_ne rfl rfl (by unfold rg; omega) (fun w78 => ?_) (fun w79 => ?_)
      · refine l_iconst rfl ?_
        refine l_goto rfl rfl ?_
        refine l_ireturn rfl rfl ?_
        have w80 : Xi U5 895 8 = Xi U4 895 8 := (show Xi U5 895 8 = Xi U4 895 8 from by rw [eU5]; exact Xi_ne (by omega))
        have w81 : 0 ≤ Xi U4 895 8 ∧ Xi U4 895 8 ≤ 255 := hHU4.c _ _
        have w82 : -1 ≤ Xi U5 895 9 ∧ Xi U5 895 9 ≤ 11 := hHU5.c _ _
        exact ⟨hHU5, hFU5, _, rfl, ⟨by omega, by omega⟩, (by first | assumption | omega)⟩
      · refine l_aload_n rfl rfl ?_
        refine l_gfr rfl rfl rfl rfl rfl (hHU5.r 895 1 1 rfl) ?_
        refine l_gfr rfl rfl rfl rfl rfl (hHU5.r 1 10 11 rfl) ?_
        refine l_aload_n rfl rfl ?_
        refine l_gfi rfl rfl rfl rfl rfl ?_
        have w83 : (Xi U5 895 8) = (Xi U4 895 8) := (show Xi U5 895 8 = Xi U4 895 8 from by rw [eU5]; exact Xi_ne (by omega))
        rw [w83]
        refine l_iaload (n := 24) rfl rfl (by omega) (by omega) (by unfold rg; omega) ?_
        have w84 : -1 ≤ (Xi U5 11 (((Xi U4 895 8)).toNat)) ∧ (Xi U5 11 (((Xi U4 895 8)).toNat)) ≤ 23 := hHU5.c _ _
        refine l_iconst rfl ?_
        refine l_icmp_eq rfl rfl (by unfold rg; omega) (by unfold rg; omega) (fun w85 => ?_) (fun w86 => ?_)
        · refine l_iconst rfl ?_
          refine l_ireturn rfl rfl ?_
          have w87 : Xi U5 895 8 = Xi U4 895 8 := (show Xi U5 895 8 = Xi U4 895 8 from by rw [eU5]; exact Xi_ne (by omega))
          have w88 : 0 ≤ Xi U4 895 8 ∧ Xi U4 895 8 ≤ 255 := hHU4.c _ _
          have w89 : -1 ≤ Xi U5 895 9 ∧ Xi U5 895 9 ≤ 11 := hHU5.c _ _
          exact ⟨hHU5, hFU5, _, rfl, ⟨by omega, by omega⟩, (by first | assumption | omega)⟩
        · refine l_iconst rfl ?_
          refine l_goto rfl rfl ?_
          refine l_ireturn rfl rfl ?_
          have w90 : Xi U5 895 8 = Xi U4 895 8 := (show Xi U5 895 8 = Xi U4 895 8 from by rw [eU5]; exact Xi_ne (by omega))
          have w91 : 0 ≤ Xi U4 895 8 ∧ Xi U4 895 8 ≤ 255 := hHU4.c _ _
          have w92 : -1 ≤ Xi U5 895 9 ∧ Xi U5 895 9 ≤ 11 := hHU5.c _ _
          exact ⟨hHU5, hFU5, _, rfl, ⟨by omega, by omega⟩, (by first | assumption | omega)⟩
def md_me_readProperty : List rec := [(876, 877, 8, 9), (876, 877, 9, 10)]
abbrev Q_me_readProperty (S : sS) (from_ : Int) (to : Int) (kind : Int) (num : Int) : pst := fun r S1 => HI S1 ∧ FR md_me_readProperty S S1 ∧ (∃ z : Int, r = some (iv z) ∧ (-1 ≤ z ∧ z ≤ 11) ∧ (z ≠ -1 → num = 1 → Xi S 9 z.toNat = 0))
set_option maxRecDepth 100000 in
theorem t_me_readProperty {S : sS} (hH : HI S) (from_ : Int) (to : Int) (kind : Int) (num : Int) (hfrom_ : -1 ≤ from_ ∧ from_ ≤ 6000) (hto : -1 ≤ to ∧ to ≤ 6000) (hkind : -1 ≤ kind ∧ kind ≤ 15) (hnum : 0 ≤ num ∧ num ≤ 1) (hL : LEX S) (d : Nat) : Mt lay0 (d + 2) m_me_readProperty [.ref 895, iv from_, iv to, iv kind, iv num] S (Q_me_readProperty S from_ to kind num) := by
  refine Mt_R rfl rfl ?_
  have hF : FR md_me_readProperty S S := FR.rf
  refine l_aload_n rfl rfl ?_
  refine l_gfr rfl rfl rfl rfl rfl (hH.r 895 1 1 rfl) ?_
  refine l_aload_n rfl rfl ?_
  refine l_gfr rfl rfl rfl rfl rfl (hH.r 895 0 876 rfl) ?_
  refine l_gfr rfl rfl rfl rfl rfl (hH.r 876 2 879 rfl) ?_
  refine l_iload_n rfl rfl ?_
  refine l_iload_n rfl rfl ?_
  refine l_callV rfl rfl rfl (t_vo_meaning hH 879 5130 from_ to rfl ⟨by omega, by omega⟩ ⟨by omega, by omega⟩ ⟨by omega, by omega⟩ (by first | assumption | exact (LEX_FR hF rfl rfl (by assumption : LEX S))) _) ?_
  rintro _ _ ⟨rfl, z4, rfl, w4, w1, w2, w3⟩
  show Rl _ _ _ _ _ [iv z4] _ _
  have hmnz4 := mOK_n (z := z4) (by assumption)
  refine l_istore rfl rfl rfl ?_
  refine l_iload rfl rfl ?_
  refine l_sipush rfl rfl ?_
  refine l_iand255 rfl (by unfold rg; omega) ?_
  refine l_istore rfl rfl rfl ?_
  refine l_iload rfl rfl ?_
  refine l_bipush rfl rfl ?_
  refine l_ishr8 rfl (by unfold rg; omega) ?_
  refine l_iconst rfl ?_
  refine l_icmp_ne rfl rfl (by unfold rg; omega) (by unfold rg; omega) (fun w7 => ?_) (fun w8 => ?_)
  · refine l_aload_n rfl rfl ?_
    refine l_gfr rfl rfl rfl rfl rfl (hH.r 895 0 876 rfl) ?_
    refine l_iconst rfl ?_
    refine l_iload_n rfl rfl ?_
    refine l_callV rfl rfl rfl (t_to_wrong hH 4 from_ ⟨by omega, by omega⟩ ⟨by omega, by omega⟩ _) ?_
    rintro _ T1 ⟨hHT1, w12, z11, rfl, w11, w9, w10⟩
    have hFT1 : FR md_me_readProperty S T1 := FR.tr hF w12 rfl
    show Rl _ _ _ _ _ [iv z11] _ _
    refine l_pop rfl rfl ?_
    refine l_iconst rfl ?_
    refine l_ireturn rfl rfl ?_
    exact ⟨hHT1, hFT1, _, rfl, ⟨by omega, by omega⟩, (by first | assumption | omega)⟩
  · refine l_iload rfl rfl ?_
    have hx5 := fb5 hH (lx (z := z4) (by assumption) (by omega) (by omega))
    refine l_if_eq rfl rfl (by unfold rg; omega) (fun w13 => ?_) (fun w14 => ?_)
    · refine l_iload_n rfl rfl ?_
      refine l_iconst rfl ?_
      refine l_icmp_eq rfl rfl (by unfold rg; omega) (by unfold rg; omega) (fun w15 => ?_) (fun w16 => ?_)
      · refine l_iload rfl rfl ?_
        refine l_ireturn rfl rfl ?_
        exact ⟨hH, hF, _, rfl, ⟨by omega, by omega⟩, (by first | assumption | omega)⟩
      · refine l_aload_n rfl rfl ?_
        refine l_gfr rfl rfl rfl rfl rfl (hH.r 895 1 1 rfl) ?_
        refine l_iload_n rfl rfl ?_
        refine l_callV rfl rfl rfl (t_vo_propertiesOf hH kind ⟨by omega, by omega⟩ _) ?_
        rintro _ _ ⟨rfl, z18, rfl, w18, w17⟩
        show Rl _ _ _ _ _ [iv z18] _ _
        refine l_iload rfl rfl ?_
        refine l_ishrF rfl ?_
        have w19 : -2147483648 ≤ (ishrF z18 (z4 % 256)) ∧ (ishrF z18 (z4 % 256)) ≤ 2147483647 := ishrF_rg
        refine l_iconst rfl ?_
        refine l_iandF rfl ?_
        have w20 : 0 ≤ (iandF (ishrF z18 (z4 % 256)) 1) ∧ (iandF (ishrF z18 (z4 % 256)) 1) ≤ 1 := iandF_le (by omega) (by unfold rg; omega)
        refine l_if_ne rfl rfl (by unfold rg; omega) (fun w21 => ?_) (fun w22 => ?_)
        · refine l_iload rfl rfl ?_
          refine l_ireturn rfl rfl ?_
          exact ⟨hH, hF, _, rfl, ⟨by omega, by omega⟩, (by first | assumption | omega)⟩
        · refine l_aload_n rfl rfl ?_
          refine l_gfr rfl rfl rfl rfl rfl (hH.r 895 0 876 rfl) ?_
          refine l_iconst rfl ?_
          refine l_iload_n rfl rfl ?_
          refine l_callV rfl rfl rfl (t_to_wrong hH 4 from_ ⟨by omega, by omega⟩ ⟨by omega, by omega⟩ _) ?_
          rintro _ T2 ⟨hHT2, w26, z25, rfl, w25, w23, w24⟩
          have hFT2 : FR md_me_readProperty S T2 := FR.tr hF w26 rfl
          show Rl _ _ _ _ _ [iv z25] _ _
          refine l_pop rfl rfl ?_
          refine l_iconst rfl ?_
          refine l_ireturn rfl rfl ?_
          exact ⟨hHT2, hFT2, _, rfl, ⟨by omega, by omega⟩, (by first | assumption | omega)⟩
    · refine l_aload_n rfl rfl ?_
      refine l_gfr rfl rfl rfl rfl rfl (hH.r 895 1 1 rfl) ?_
      refine l_gfr rfl rfl rfl rfl rfl (hH.r 1 8 9 rfl) ?_
      refine l_iload rfl rfl ?_
      refine l_iaload (n := 12) rfl rfl (by omega) (by omega) (by unfold rg; omega) ?_
      have w27 : 0 ≤ (Xi S 9 (((z4 % 256)).toNat)) ∧ (Xi S 9 (((z4 % 256)).toNat)) ≤ 7 := hH.c _ _
      refine l_if_ne rfl rfl (by unfold rg; omega) (fun w28 => ?_) (fun w29 => ?_)
      · refine l_aload_n rfl rfl ?_
        refine l_gfr rfl rfl rfl rfl rfl (hH.r 895 0 876 rfl) ?_
        refine l_iconst rfl ?_
        refine l_iload_n rfl rfl ?_
        refine l_callV rfl rfl rfl (t_to_wrong hH 4 from_ ⟨by omega, by omega⟩ ⟨by omega, by omega⟩ _) ?_
        rintro _ T3 ⟨hHT3, w33, z32, rfl, w32, w30, w31⟩
        have hFT3 : FR md_me_readProperty S T3 := FR.tr hF w33 rfl
        show Rl _ _ _ _ _ [iv z32] _ _
        refine l_pop rfl rfl ?_
        refine l_iconst rfl ?_
        refine l_ireturn rfl rfl ?_
        exact ⟨hHT3, hFT3, _, rfl, ⟨by omega, by omega⟩, (by first | assumption | omega)⟩
      · refine l_iload_n rfl rfl ?_
        refine l_iconst rfl ?_
        refine l_icmp_eq rfl rfl (by unfold rg; omega) (by unfold rg; omega) (fun w34 => ?_) (fun w35 => ?_)
        · refine l_iload rfl rfl ?_
          refine l_ireturn rfl rfl ?_
          exact ⟨hH, hF, _, rfl, ⟨by omega, by omega⟩, (by first | assumption | omega)⟩
        · refine l_aload_n rfl rfl ?_
          refine l_gfr rfl rfl rfl rfl rfl (hH.r 895 1 1 rfl) ?_
          refine l_iload_n rfl rfl ?_
          refine l_callV rfl rfl rfl (t_vo_propertiesOf hH kind ⟨by omega, by omega⟩ _) ?_
          rintro _ _ ⟨rfl, z37, rfl, w37, w36⟩
          show Rl _ _ _ _ _ [iv z37] _ _
          refine l_iload rfl rfl ?_
          refine l_ishrF rfl ?_
          have w38 : -2147483648 ≤ (ishrF z37 (z4 % 256)) ∧ (ishrF z37 (z4 % 256)) ≤ 2147483647 := ishrF_rg
          refine l_iconst rfl ?_
          refine l_iandF rfl ?_
          have w39 : 0 ≤ (iandF (ishrF z37 (z4 % 256)) 1) ∧ (iandF (ishrF z37 (z4 % 256)) 1) ≤ 1 := iandF_le (by omega) (by unfold rg; omega)
          refine l_if_ne rfl rfl (by unfold rg; omega) (fun w40 => ?_) (fun w41 => ?_)
          · refine l_iload rfl rfl ?_
            refine l_ireturn rfl rfl ?_
            exact ⟨hH, hF, _, rfl, ⟨by omega, by omega⟩, (by first | assumption | omega)⟩
          · refine l_aload_n rfl rfl ?_
            refine l_gfr rfl rfl rfl rfl rfl (hH.r 895 0 876 rfl) ?_
            refine l_iconst rfl ?_
            refine l_iload_n rfl rfl ?_
            refine l_callV rfl rfl rfl (t_to_wrong hH 4 from_ ⟨by omega, by omega⟩ ⟨by omega, by omega⟩ _) ?_
            rintro _ T4 ⟨hHT4, w45, z44, rfl, w44, w42, w43⟩
            have hFT4 : FR md_me_readProperty S T4 := FR.tr hF w45 rfl
            show Rl _ _ _ _ _ [iv z44] _ _
            refine l_pop rfl rfl ?_
            refine l_iconst rfl ?_
            refine l_ireturn rfl rfl ?_
            exact ⟨hHT4, hFT4, _, rfl, ⟨by omega, by omega⟩, (by first | assumption | omega)⟩
def md_me_countParts : List rec := [(895, 896, 8, 9), (895, 896, 9, 10), (898, 899, 0, 100000)]
abbrev Q_me_countParts (S : sS) (kind : Int) (from_ : Int) (to : Int) (dfd : Int) : pst := fun r S1 => HI S1 ∧ FR md_me_countParts S S1 ∧ (∃ z : Int, r = some (iv z) ∧ (-2147483648 ≤ z ∧ z ≤ 2147483647))
set_option maxRecDepth 100000 in
theorem t_me_countParts {S : sS} (hH : HI S) (kind : Int) (from_ : Int) (to : Int) (dfd : Int) (hkind : 0 ≤ kind ∧ kind ≤ 15) (hfrom_ : -1 ≤ from_ ∧ from_ ≤ 5900) (hto : -1 ≤ to ∧ to ≤ 5900) (hdfd : 0 ≤ dfd ∧ dfd ≤ 1) (hL : LEX S) (d : Nat) : Mt lay0 (d + 3) m_me_countParts [.ref 895, iv kind, iv from_, iv to, iv dfd] S (Q_me_countParts S kind from_ to dfd) := by
  refine Mt_R rfl rfl ?_
  have hF : FR md_me_countParts S S := FR.rf
  have C33 : ∀ (n33 : Nat) (T1 : sS) (_ : HI T1) (_ : FR md_me_countParts S T1) (v5 : Int) (v6 : Int), (0 ≤ v5 ∧ v5 ≤ 6) → (-1 ≤ v6 ∧ v6 ≤ 5) → (v5 = to - from_) → n33 = (v6 - (-2)).toNat → Rl lay0 (d + 2) m_me_countParts 33 [(0, .ref 895), (1, iv kind), (2, iv from_), (4, iv dfd), (5, iv v5), (6, iv v6)] [] T1 (Q_me_countParts S kind from_ to dfd) := by
    intro n33
    induction n33 using Nat.strongRecOn with
    | ind n33 ih33 =>
      intro T1 hHT1 hFT1 v5 v6 w1 w2 w3 hm33
      have C49 : ∀ (n49 : Nat) (T2 : sS) (_ : HI T2) (_ : FR md_me_countParts S T2) (v5 : Int) (v6 : Int) (v7 : Int), (0 ≤ v5 ∧ v5 ≤ 6) → (0 ≤ v6 ∧ v6 ≤ 5) → (1 ≤ v7 ∧ v7 ≤ 4) → (v5 = to - from_) → ((v6 - (-2)).toNat ≤ n33) → n49 = (5 - v7).toNat → Rl lay0 (d + 2) m_me_countParts 49 [(0, .ref 895), (1, iv kind), (2, iv from_), (4, iv dfd), (5, iv v5), (6, iv v6), (7, iv v7)] [] T2 (Q_me_countParts S kind from_ to dfd) := by
        intro n49
        induction n49 using Nat.strongRecOn with
        | ind n49 ih49 =>
          intro T2 hHT2 hFT2 v5 v6 v7 w4 w5 w6 w7 w8 hm49
          have C118 : ∀  (T3 : sS) (_ : HI T3) (_ : FR md_me_countParts S T3) (v5 : Int) (v6 : Int) (v7 : Int), (1 ≤ v5 ∧ v5 ≤ 6) → (0 ≤ v6 ∧ v6 ≤ 5) → (1 ≤ v7 ∧ v7 ≤ 3) → (v5 = to - from_) → ((v6 - (-2)).toNat ≤ n33) → ((5 - v7).toNat ≤ n49) → Rl lay0 (d + 2) m_me_countParts 118 [(0, .ref 895), (1, iv kind), (2, iv from_), (4, iv dfd), (5, iv v5), (6, iv v6), (7, iv v7)] [] T3 (Q_me_countParts S kind from_ to dfd) := by
            intro T3 hHT3 hFT3 v5 v6 v7 w9 w10 w11 w12 w13 w14
            refine l_iinc rfl rfl rfl rfl ?_
            refine l_goto rfl rfl ?_
            exact Rl_weak (ih49 _ (by omega) T3 hHT3 hFT3 (v5) (v6) ((v7 + 1)) (by omega) (by omega) (by omega) (by omega) (by omega) rfl) (And.intro rfl (And.intro rfl (And.intro rfl (And.intro rfl (And.intro rfl (And.intro rfl (And.intro rfl (True.intro))))))))
          have C124 : ∀  (T4 : sS) (_ : HI T4) (_ : FR md_me_countParts S T4) (v5 : Int) (v6 : Int), (0 ≤ v5 ∧ v5 ≤ 6) → (0 ≤ v6 ∧ v6 ≤ 5) → (v5 = to - from_) → ((v6 - (-2)).toNat ≤ n33) → Rl lay0 (d + 2) m_me_countParts 124 [(0, .ref 895), (1, iv kind), (2, iv from_), (4, iv dfd), (5, iv v5), (6, iv v6)] [] T4 (Q_me_countParts S kind from_ to dfd) := by
            intro T4 hHT4 hFT4 v5 v6 w15 w16 w17 w18
            refine l_iinc rfl rfl rfl rfl ?_
            refine l_goto rfl rfl ?_
            exact Rl_weak (ih33 _ (by omega) T4 hHT4 hFT4 (v5) ((v6 + (-1))) (by omega) (by omega) (by omega) rfl) (And.intro rfl (And.intro rfl (And.intro rfl (And.intro rfl (And.intro rfl (And.intro rfl (True.intro)))))))
          refine l_iload rfl rfl ?_
          refine l_iconst rfl ?_
          refine l_icmp_gt rfl rfl (by unfold rg; omega) (by unfold rg; omega) (fun w19 => ?_) (fun w20 => ?_)
          · exact Rl_weak (C124 T2 hHT2 hFT2 (v5) (v6) (by omega) (by omega) (by omega) (by omega)) (And.intro rfl (And.intro rfl (And.intro rfl (And.intro rfl (And.intro rfl (And.intro rfl (True.intro)))))))
          · refine l_iload rfl rfl ?_
            refine l_iload rfl rfl ?_
            refine l_iadd rfl ?_
            refine l_iload rfl rfl ?_
            refine l_icmp_gt rfl rfl (by unfold rg; omega) (by unfold rg; omega) (fun w21 => ?_) (fun w22 => ?_)
            · exact Rl_weak (C124 T2 hHT2 hFT2 (v5) (v6) (by omega) (by omega) (by omega) (by omega)) (And.intro rfl (And.intro rfl (And.intro rfl (And.intro rfl (And.intro rfl (And.intro rfl (True.intro)))))))
            · refine l_aload_n rfl rfl ?_
              refine l_gfr rfl rfl rfl rfl rfl (hHT2.r 895 17 898 rfl) ?_
              refine l_iload rfl rfl ?_
              refine l_iload rfl rfl ?_
              refine l_iadd rfl ?_
              refine l_iaload (n := 7) rfl rfl (by omega) (by omega) (by unfold rg; omega) ?_
              have w23 : -2147483648 ≤ (Xi T2 898 (((v6 + v7)).toNat)) ∧ (Xi T2 898 (((v6 + v7)).toNat)) ≤ 2147483647 := Xi_rgI
              refine l_if_le rfl rfl (by unfold rg; omega) (fun w24 => ?_) (fun w25 => ?_)
              · exact Rl_weak (C118 T2 hHT2 hFT2 (v5) (v6) (v7) (by omega) (by omega) (by omega) (by omega) (by omega) (by omega)) (And.intro rfl (And.intro rfl (And.intro rfl (And.intro rfl (And.intro rfl (And.intro rfl (And.intro rfl (True.intro))))))))
              · refine l_aload_n rfl rfl ?_
                refine l_gfr rfl rfl rfl rfl rfl (hHT2.r 895 17 898 rfl) ?_
                refine l_iload rfl rfl ?_
                refine l_dup2 rfl rfl ?_
                refine l_iaload (n := 7) rfl rfl (by omega) (by omega) (by unfold rg; omega) ?_
                have w26 : -2147483648 ≤ (Xi T2 898 ((v6).toNat)) ∧ (Xi T2 898 ((v6).toNat)) ≤ 2147483647 := Xi_rgI
                refine l_aload_n rfl rfl ?_
                refine l_gfr rfl rfl rfl rfl rfl (hHT2.r 895 17 898 rfl) ?_
                refine l_iload rfl rfl ?_
                refine l_iload rfl rfl ?_
                refine l_iadd rfl ?_
                refine l_iaload (n := 7) rfl rfl (by omega) (by omega) (by unfold rg; omega) ?_
                refine l_aload_n rfl rfl ?_
                refine l_iload_n rfl rfl ?_
                refine l_iload_n rfl rfl ?_
                refine l_iload rfl rfl ?_
                refine l_iadd rfl ?_
                refine l_iload_n rfl rfl ?_
                refine l_iload rfl rfl ?_
                refine l_iadd rfl ?_
                refine l_iload rfl rfl ?_
                refine l_iadd rfl ?_
                refine l_iconst rfl ?_
                refine l_iload rfl rfl ?_
                refine l_callV rfl rfl rfl (t_me_readAdjective hHT2 kind (from_ + v6) ((from_ + v6) + v7) 1 dfd ⟨by omega, by omega⟩ ⟨by omega, by omega⟩ ⟨by omega, by omega⟩ ⟨by omega, by omega⟩ ⟨by omega, by omega⟩ (by first | assumption | exact (LEX_FR hFT2 rfl rfl (by assumption : LEX S))) _) ?_
                rintro _ T5 ⟨hHT5, w29, z28, rfl, w28, w27⟩
                have hFT5 : FR md_me_countParts S T5 := FR.tr hFT2 w29 rfl
                show Rl _ _ _ _ _ [iv z28, iv (Xi T2 898 (((v6 + v7)).toNat)), iv (Xi T2 898 ((v6).toNat)), iv v6, .ref 898] _ _
                refine l_imul rfl ?_
                refine l_iaddW rfl (fun c30 w30 => ?_)
                refine l_iastore (n := 7) rfl rfl (by omega) (by omega) (by unfold rg; omega) ?_
                obtain ⟨U6, eU6⟩ : ∃ T : sS, T = uI T5 898 ((v6).toNat) (Int32.ofInt c30) := ⟨_, rfl⟩
                rw [← eU6]
                have hHU6 : HI U6 := by rw [eU6]; exact HI_any hHT5 (rfl)
                have hFU6 : FR md_me_countParts S U6 := by rw [eU6]; exact FR.wI hFT5 (mdf_i (r := (898, 899, 0, 100000)) (List.mem_of_getElem? (i := 2) rfl) (inR_i (by omega) (by omega) (by omega) (by omega)))
                exact Rl_weak (C118 U6 hHU6 hFU6 (v5) (v6) (v7) (by omega) (by omega) (by omega) (by omega) (by omega) (by omega)) (And.intro rfl (And.intro rfl (And.intro rfl (And.intro rfl (And.intro rfl (And.intro rfl (And.intro rfl (True.intro))))))))
      refine l_iload rfl rfl ?_
      refine l_if_lt rfl rfl (by unfold rg; omega) (fun w31 => ?_) (fun w32 => ?_)
      · refine l_aload_n rfl rfl ?_
        refine l_gfr rfl rfl rfl rfl rfl (hHT1.r 895 17 898 rfl) ?_
        refine l_iconst rfl ?_
        refine l_iaload (n := 7) rfl rfl (by omega) (by omega) (by unfold rg; omega) ?_
        have w33 : -2147483648 ≤ (Xi T1 898 ((0 : Int).toNat)) ∧ (Xi T1 898 ((0 : Int).toNat)) ≤ 2147483647 := Xi_rgI
        have w34 : (Xi T1 898 ((0 : Int).toNat)) = Xi T1 898 0 := rfl
        refine l_ireturn rfl rfl ?_
        exact ⟨hHT1, hFT1, _, rfl, ⟨by omega, by omega⟩⟩
      · refine l_aload_n rfl rfl ?_
        refine l_gfr rfl rfl rfl rfl rfl (hHT1.r 895 17 898 rfl) ?_
        refine l_iload rfl rfl ?_
        refine l_iconst rfl ?_
        refine l_iastore (n := 7) rfl rfl (by omega) (by omega) (by unfold rg; omega) ?_
        obtain ⟨U7, eU7⟩ : ∃ T : sS, T = uI T1 898 ((v6).toNat) (Int32.ofInt 0) := ⟨_, rfl⟩
        rw [← eU7]
        have hHU7 : HI U7 := by rw [eU7]; exact HI_any hHT1 (rfl)
        have hFU7 : FR md_me_countParts S U7 := by rw [eU7]; exact FR.wI hFT1 (mdf_i (r := (898, 899, 0, 100000)) (List.mem_of_getElem? (i := 2) rfl) (inR_i (by omega) (by omega) (by omega) (by omega)))
        refine l_iconst rfl ?_
        refine l_istore rfl rfl rfl ?_
        exact Rl_weak (C49 _ U7 hHU7 hFU7 (v5) (v6) (1) (by omega) (by omega) (by omega) (by omega) (by omega) rfl) (And.intro rfl (And.intro rfl (And.intro rfl (And.intro rfl (And.intro rfl (And.intro rfl (And.intro rfl (True.intro))))))))
  refine l_iload_n rfl rfl ?_
  refine l_iload_n rfl rfl ?_
  refine l_isub rfl ?_
  refine l_istore rfl rfl rfl ?_
  refine l_iload rfl rfl ?_
  refine l_if_lt rfl rfl (by unfold rg; omega) (fun w35 => ?_) (fun w36 => ?_)
  · refine l_iconst rfl ?_
    refine l_ireturn rfl rfl ?_
    exact ⟨hH, hF, _, rfl, ⟨by omega, by omega⟩⟩
  · refine l_iload rfl rfl ?_
    refine l_bipush rfl rfl ?_
    refine l_icmp_le rfl rfl (by unfold rg; omega) (by unfold rg; omega) (fun w37 => ?_) (fun w38 => ?_)
    · refine l_aload_n rfl rfl ?_
      refine l_gfr rfl rfl rfl rfl rfl (hH.r 895 17 898 rfl) ?_
      refine l_iload rfl rfl ?_
      refine l_iconst rfl ?_
      refine l_iastore (n := 7) rfl rfl (by omega) (by omega) (by unfold rg; omega) ?_
      obtain ⟨U8, eU8⟩ : ∃ T : sS, T = uI S 898 (((to - from_)).toNat) (Int32.ofInt 1) := ⟨_, rfl⟩
      rw [← eU8]
      have hHU8 : HI U8 := by rw [eU8]; exact HI_any hH (rfl)
      have hFU8 : FR md_me_countParts S U8 := by rw [eU8]; exact FR.wI hF (mdf_i (r := (898, 899, 0, 100000)) (List.mem_of_getElem? (i := 2) rfl) (inR_i (by omega) (by omega) (by omega) (by omega)))
      refine l_iload rfl rfl ?_
      refine l_iconst rfl ?_
      refine l_isub rfl ?_
      refine l_istore rfl rfl rfl ?_
      exact Rl_weak (C33 _ U8 hHU8 hFU8 ((to - from_)) (((to - from_) - 1)) (by omega) (by omega) (by omega) rfl) (And.intro rfl (And.intro rfl (And.intro rfl (And.intro rfl (And.intro rfl (And.intro rfl (True.intro)))))))
    · refine l_iconst rfl ?_
      refine l_ireturn rfl rfl ?_
      exact ⟨hH, hF, _, rfl, ⟨by omega, by omega⟩⟩
def md_me_countReadings : List rec := [(895, 896, 8, 9), (895, 896, 9, 10), (895, 896, 12, 13), (895, 896, 13, 14), (898, 899, 0, 100000)]
abbrev Q_me_countReadings (S : sS) (from_ : Int) (to : Int) (plur : Int) (dfd : Int) (least : Int) : pst := fun r S1 => HI S1 ∧ FR md_me_countReadings S S1 ∧ (∃ z : Int, r = some (iv z) ∧ (-2147483648 ≤ z ∧ z ≤ 2147483647) ∧ (z ≠ 0 → from_ ≤ Xi S1 895 13 ∧ Xi S1 895 13 - from_ ≤ 5 ∧ Xi S1 895 13 ≤ to))
set_option maxRecDepth 100000 in
theorem t_me_countReadings {S : sS} (hH : HI S) (from_ : Int) (to : Int) (plur : Int) (dfd : Int) (least : Int) (hfrom_ : 0 ≤ from_ ∧ from_ ≤ 5140) (hto : 0 ≤ to ∧ to ≤ 5140) (hplur : 0 ≤ plur ∧ plur ≤ 1) (hdfd : 0 ≤ dfd ∧ dfd ≤ 1) (hleast : -1 ≤ least ∧ least ≤ 15) (hL : LEX S) (d : Nat) : Mt lay0 (d + 4) m_me_countReadings [.ref 895, iv from_, iv to, iv plur, iv dfd, iv least] S (Q_me_countReadings S from_ to plur dfd least) := by
  refine Mt_R rfl rfl ?_
  have hF : FR md_me_countReadings S S := FR.rf
  have w1 : -2147483648 ≤ Xi S 895 13 ∧ Xi S 895 13 ≤ 2147483647 := Xi_rgI
  have C6 : ∀ (n6 : Nat) (T1 : sS) (_ : HI T1) (_ : FR md_me_countReadings S T1) (v6 : Int) (v7 : Int), (-2147483648 ≤ v6 ∧ v6 ≤ 2147483647) → (1 ≤ v7 ∧ v7 ≤ 4) → (v6 = 0 ∨ (from_ ≤ Xi T1 895 13 ∧ Xi T1 895 13 - from_ ≤ 5 ∧ Xi T1 895 13 ≤ to)) → n6 = (5 - v7).toNat → Rl lay0 (d + 3) m_me_countReadings 6 [(0, .ref 895), (1, iv from_), (2, iv to), (3, iv plur), (4, iv dfd), (5, iv least), (6, iv v6), (7, iv v7)] [] T1 (Q_me_countReadings S from_ to plur dfd least) := by
    intro n6
    induction n6 using Nat.strongRecOn with
    | ind n6 ih6 =>
      intro T1 hHT1 hFT1 v6 v7 w2 w3 w4 hm6
      have w5 : -2147483648 ≤ Xi T1 895 13 ∧ Xi T1 895 13 ≤ 2147483647 := Xi_rgI
      have C119 : ∀  (T2 : sS) (_ : HI T2) (_ : FR md_me_countReadings S T2) (v6 : Int) (v7 : Int), (-2147483648 ≤ v6 ∧ v6 ≤ 2147483647) → (1 ≤ v7 ∧ v7 ≤ 3) → (v6 = 0 ∨ (from_ ≤ Xi T2 895 13 ∧ Xi T2 895 13 - from_ ≤ 5 ∧ Xi T2 895 13 ≤ to)) → ((5 - v7).toNat ≤ n6) → Rl lay0 (d + 3) m_me_countReadings 119 [(0, .ref 895), (1, iv from_), (2, iv to), (3, iv plur), (4, iv dfd), (5, iv least), (6, iv v6), (7, iv v7)] [] T2 (Q_me_countReadings S from_ to plur dfd least) := by
        intro T2 hHT2 hFT2 v6 v7 w6 w7 w8 w9
        have w10 : -2147483648 ≤ Xi T2 895 13 ∧ Xi T2 895 13 ≤ 2147483647 := Xi_rgI
        refine l_iinc rfl rfl rfl rfl ?_
        refine l_goto rfl rfl ?_
        exact Rl_weak (ih6 _ (by omega) T2 hHT2 hFT2 (v6) ((v7 + 1)) (by omega) (by omega) (by omega) rfl) (And.intro rfl (And.intro rfl (And.intro rfl (And.intro rfl (And.intro rfl (And.intro rfl (And.intro rfl (And.intro rfl (True.intro)))))))))
      have C125 : ∀  (T3 : sS) (_ : HI T3) (_ : FR md_me_countReadings S T3) (v6 : Int), (-2147483648 ≤ v6 ∧ v6 ≤ 2147483647) → (v6 = 0 ∨ (from_ ≤ Xi T3 895 13 ∧ Xi T3 895 13 - from_ ≤ 5 ∧ Xi T3 895 13 ≤ to)) → Rl lay0 (d + 3) m_me_countReadings 125 [(6, iv v6)] [] T3 (Q_me_countReadings S from_ to plur dfd least) := by
        intro T3 hHT3 hFT3 v6 w11 w12
        have w13 : -2147483648 ≤ Xi T3 895 13 ∧ Xi T3 895 13 ≤ 2147483647 := Xi_rgI
        refine l_iload rfl rfl ?_
        refine l_ireturn rfl rfl ?_
        exact ⟨hHT3, hFT3, _, rfl, ⟨by omega, by omega⟩, (by first | assumption | omega)⟩
      refine l_iload rfl rfl ?_
      refine l_iconst rfl ?_
      refine l_icmp_gt rfl rfl (by unfold rg; omega) (by unfold rg; omega) (fun w14 => ?_) (fun w15 => ?_)
      · exact Rl_weak (C125 T1 hHT1 hFT1 (v6) (by omega) (by omega)) (And.intro rfl (True.intro))
      · refine l_iload rfl rfl ?_
        refine l_iload_n rfl rfl ?_
        refine l_iload_n rfl rfl ?_
        refine l_isub rfl ?_
        refine l_icmp_gt rfl rfl (by unfold rg; omega) (by unfold rg; omega) (fun w16 => ?_) (fun w17 => ?_)
        · exact Rl_weak (C125 T1 hHT1 hFT1 (v6) (by omega) (by omega)) (And.intro rfl (True.intro))
        · refine l_iload_n rfl rfl ?_
          refine l_iload_n rfl rfl ?_
          refine l_isub rfl ?_
          refine l_bipush rfl rfl ?_
          refine l_icmp_gt rfl rfl (by unfold rg; omega) (by unfold rg; omega) (fun w18 => ?_) (fun w19 => ?_)
          · exact Rl_weak (C125 T1 hHT1 hFT1 (v6) (by omega) (by omega)) (And.intro rfl (True.intro))
          · refine l_aload_n rfl rfl ?_
            refine l_iload_n rfl rfl ?_
            refine l_if_eq rfl rfl (by unfold rg; omega) (fun w20 => ?_) (fun w21 => ?_)
            · refine l_iconst rfl ?_
              refine l_iload_n rfl rfl ?_
              refine l_iload rfl rfl ?_
              refine l_isub rfl ?_
              refine l_iload_n rfl rfl ?_
              refine l_callV rfl rfl rfl (t_me_find hHT1 0 (to - v7) to ⟨by omega, by omega⟩ ⟨by omega, by omega⟩ ⟨by omega, by omega⟩ (by first | assumption | exact (LEX_FR hFT1 rfl rfl (by assumption : LEX S))) _) ?_
              rintro _ _ ⟨rfl, z24, rfl, w24, w22, w23⟩
              have w25 : z24 ≠ -1 → _ := fun h => fb0 hHT1 (w22 h)
              show Rl _ _ _ _ _ [iv z24] _ _
              refine l_istore rfl rfl rfl ?_
              refine l_iload rfl rfl ?_
              refine l_iconst rfl ?_
              refine l_icmp_eq rfl rfl (by unfold rg; omega) (by unfold rg; omega) (fun w26 => ?_) (fun w27 => ?_)
              · exact Rl_weak (C119 T1 hHT1 hFT1 (v6) (v7) (by omega) (by omega) (by omega) (by omega)) (And.intro rfl (And.intro rfl (And.intro rfl (And.intro rfl (And.intro rfl (And.intro rfl (And.intro rfl (And.intro rfl (True.intro)))))))))
              · refine l_iload rfl rfl ?_
                refine l_iconst rfl ?_
                refine l_icmp_eq rfl rfl (by unfold rg; omega) (by unfold rg; omega) (fun w28 => ?_) (fun w29 => ?_)
                · refine l_aload_n rfl rfl ?_
                  refine l_iload rfl rfl ?_
                  refine l_iload_n rfl rfl ?_
                  refine l_iload_n rfl rfl ?_
                  refine l_iload rfl rfl ?_
                  refine l_isub rfl ?_
                  refine l_iload rfl rfl ?_
                  refine l_callV rfl rfl rfl (t_me_countParts hHT1 z24 from_ (to - v7) dfd ⟨by omega, by omega⟩ ⟨by omega, by omega⟩ ⟨by omega, by omega⟩ ⟨by omega, by omega⟩ (by first | assumption | exact (LEX_FR hFT1 rfl rfl (by assumption : LEX S))) _) ?_
                  rintro _ T4 ⟨hHT4, w31, z30, rfl, w30⟩
                  have hFT4 : FR md_me_countReadings S T4 := FR.tr hFT1 w31 rfl
                  show Rl _ _ _ _ _ [iv z30] _ _
                  refine l_istore rfl rfl rfl ?_
                  refine l_iload rfl rfl ?_
                  refine l_if_le rfl rfl (by unfold rg; omega) (fun w32 => ?_) (fun w33 => ?_)
                  · have w34 : Xi T4 895 13 = Xi T1 895 13 := (show Xi T4 895 13 = Xi T1 895 13 from w31.x _ _ rfl)
                    exact Rl_weak (C119 T4 hHT4 hFT4 (v6) (v7) (by omega) (by omega) (by omega) (by omega)) (And.intro rfl (And.intro rfl (And.intro rfl (And.intro rfl (And.intro rfl (And.intro rfl (And.intro rfl (And.intro rfl (True.intro)))))))))
                  · refine l_aload_n rfl rfl ?_
                    refine l_iload rfl rfl ?_
                    refine l_pfi rfl rfl rfl rfl ?_
                    obtain ⟨U5, eU5⟩ : ∃ T : sS, T = uI T4 895 12 (Int32.ofInt z24) := ⟨_, rfl⟩
                    rw [← eU5]
                    have hHU5 : HI U5 := by rw [eU5]; exact HI_w hHT4 (show 0 ≤ z24 by omega) (show z24 ≤ 15 by omega)
                    have hFU5 : FR md_me_countReadings S U5 := by rw [eU5]; exact FR.wI hFT4 (mdf_i (r := (895, 896, 12, 13)) (List.mem_of_getElem? (i := 2) rfl) (inR_i (by omega) (by omega) (by omega) (by omega)))
                    have w35 : Xi U5 895 12 = z24 := by rw [eU5]; exact Xi_same (by unfold rg; omega)
                    refine l_aload_n rfl rfl ?_
                    refine l_iload_n rfl rfl ?_
                    refine l_iload rfl rfl ?_
                    refine l_isub rfl ?_
                    refine l_pfi rfl rfl rfl rfl ?_
                    obtain ⟨U6, eU6⟩ : ∃ T : sS, T = uI U5 895 13 (Int32.ofInt (to - v7)) := ⟨_, rfl⟩
                    rw [← eU6]
                    have hHU6 : HI U6 := by rw [eU6]; exact HI_any hHU5 (rfl)
                    have hFU6 : FR md_me_countReadings S U6 := by rw [eU6]; exact FR.wI hFU5 (mdf_i (r := (895, 896, 13, 14)) (List.mem_of_getElem? (i := 3) rfl) (inR_i (by omega) (by omega) (by omega) (by omega)))
                    have w36 : Xi U6 895 13 = (to - v7) := by rw [eU6]; exact Xi_same (by unfold rg; omega)
                    refine l_iload rfl rfl ?_
                    refine l_iload rfl rfl ?_
                    refine l_iaddW rfl (fun c37 w37 => ?_)
                    refine l_istore rfl rfl rfl ?_
                    exact Rl_weak (C119 U6 hHU6 hFU6 (c37) (v7) (by omega) (by omega) (by omega) (by omega)) (And.intro rfl (And.intro rfl (And.intro rfl (And.intro rfl (And.intro rfl (And.intro rfl (And.intro rfl (And.intro rfl (True.intro)))))))))
                · refine l_aload_n rfl rfl ?_
                  refine l_gfr rfl rfl rfl rfl rfl (hHT1.r 895 1 1 rfl) ?_
                  refine l_iload rfl rfl ?_
                  refine l_iload rfl rfl ?_
                  refine l_callV rfl rfl rfl (t_vo_isKind hHT1 z24 least ⟨by omega, by omega⟩ ⟨by omega, by omega⟩ _) ?_
                  rintro _ _ ⟨rfl, z39, rfl, w39, w38⟩
                  show Rl _ _ _ _ _ [iv z39] _ _
                  refine l_if_ne rfl rfl (by unfold rg; omega) (fun w40 => ?_) (fun w41 => ?_)
                  · refine l_aload_n rfl rfl ?_
                    refine l_iload rfl rfl ?_
                    refine l_iload_n rfl rfl ?_
                    refine l_iload_n rfl rfl ?_
                    refine l_iload rfl rfl ?_
                    refine l_isub rfl ?_
                    refine l_iload rfl rfl ?_
                    refine l_callV rfl rfl rfl (t_me_countParts hHT1 z24 from_ (to - v7) dfd ⟨by omega, by omega⟩ ⟨by omega, by omega⟩ ⟨by omega, by omega⟩ ⟨by omega, by omega⟩ (by first | assumption | exact (LEX_FR hFT1 rfl rfl (by assumption : LEX S))) _) ?_
                    rintro _ T7 ⟨hHT7, w43, z42, rfl, w42⟩
                    have hFT7 : FR md_me_countReadings S T7 := FR.tr hFT1 w43 rfl
                    show Rl _ _ _ _ _ [iv z42] _ _
                    refine l_istore rfl rfl rfl ?_
                    refine l_iload rfl rfl ?_
                    refine l_if_le rfl rfl (by unfold rg; omega) (fun w44 => ?_) (fun w45 => ?_)
                    · have w46 : Xi T7 895 13 = Xi T1 895 13 := (show Xi T7 895 13 = Xi T1 895 13 from w43.x _ _ rfl)
                      exact Rl_weak (C119 T7 hHT7 hFT7 (v6) (v7) (by omega) (by omega) (by omega) (by omega)) (And.intro rfl (And.intro rfl (And.intro rfl (And.intro rfl (And.intro rfl (And.intro rfl (And.intro rfl (And.intro rfl (True.intro)))))))))
                    · refine l_aload_n rfl rfl ?_
                      refine l_iload rfl rfl ?_
                      refine l_pfi rfl rfl rfl rfl ?_
                      obtain ⟨U8, eU8⟩ : ∃ T : sS, T = uI T7 895 12 (Int32.ofInt z24) := ⟨_, rfl⟩
                      rw [← eU8]
                      have hHU8 : HI U8 := by rw [eU8]; exact HI_w hHT7 (show 0 ≤ z24 by omega) (show z24 ≤ 15 by omega)
                      have hFU8 : FR md_me_countReadings S U8 := by rw [eU8]; exact FR.wI hFT7 (mdf_i (r := (895, 896, 12, 13)) (List.mem_of_getElem? (i := 2) rfl) (inR_i (by omega) (by omega) (by omega) (by omega)))
                      have w47 : Xi U8 895 12 = z24 := by rw [eU8]; exact Xi_same (by unfold rg; omega)
                      refine l_aload_n rfl rfl ?_
                      refine l_iload_n rfl rfl ?_
                      refine l_iload rfl rfl ?_
                      refine l_isub rfl ?_
                      refine l_pfi rfl rfl rfl rfl ?_
                      obtain ⟨U9, eU9⟩ : ∃ T : sS, T = uI U8 895 13 (Int32.ofInt (to - v7)) := ⟨_, rfl⟩
                      rw [← eU9]
                      have hHU9 : HI U9 := by rw [eU9]; exact HI_any hHU8 (rfl)
                      have hFU9 : FR md_me_countReadings S U9 := by rw [eU9]; exact FR.wI hFU8 (mdf_i (r := (895, 896, 13, 14)) (List.mem_of_getElem? (i := 3) rfl) (inR_i (by omega) (by omega) (by omega) (by omega)))
                      have w48 : Xi U9 895 13 = (to - v7) := by rw [eU9]; exact Xi_same (by unfold rg; omega)
                      refine l_iload rfl rfl ?_
                      refine l_iload rfl rfl ?_
                      refine l_iaddW rfl (fun c49 w49 => ?_)
                      refine l_istore rfl rfl rfl ?_
                      exact Rl_weak (C119 U9 hHU9 hFU9 (c49) (v7) (by omega) (by omega) (by omega) (by omega)) (And.intro rfl (And.intro rfl (And.intro rfl (And.intro rfl (And.intro rfl (And.intro rfl (And.intro rfl (And.intro rfl (True.intro)))))))))
                  · refine l_goto rfl rfl ?_
                    exact Rl_weak (C119 T1 hHT1 hFT1 (v6) (v7) (by omega) (by omega) (by omega) (by omega)) (And.intro rfl (And.intro rfl (And.intro rfl (And.intro rfl (And.intro rfl (And.intro rfl (And.intro rfl (And.intro rfl (True.intro)))))))))
            · refine l_bipush rfl rfl ?_
              refine l_goto rfl rfl ?_
              refine l_iload_n rfl rfl ?_
              refine l_iload rfl rfl ?_
              refine l_isub rfl ?_
              refine l_iload_n rfl rfl ?_
              refine l_callV rfl rfl rfl (t_me_find hHT1 11 (to - v7) to ⟨by omega, by omega⟩ ⟨by omega, by omega⟩ ⟨by omega, by omega⟩ (by first | assumption | exact (LEX_FR hFT1 rfl rfl (by assumption : LEX S))) _) ?_
              rintro _ _ ⟨rfl, z52, rfl, w52, w50, w51⟩
              have w53 : z52 ≠ -1 → _ := fun h => fb11 hHT1 (w50 h)
              show Rl _ _ _ _ _ [iv z52] _ _
              refine l_istore rfl rfl rfl ?_
              refine l_iload rfl rfl ?_
              refine l_iconst rfl ?_
              refine l_icmp_eq rfl rfl (by unfold rg; omega) (by unfold rg; omega) (fun w54 => ?_) (fun w55 => ?_)
              · exact Rl_weak (C119 T1 hHT1 hFT1 (v6) (v7) (by omega) (by omega) (by omega) (by omega)) (And.intro rfl (And.intro rfl (And.intro rfl (And.intro rfl (And.intro rfl (And.intro rfl (And.intro rfl (And.intro rfl (True.intro)))))))))
              · refine l_iload rfl rfl ?_
                refine l_iconst rfl ?_
                refine l_icmp_eq rfl rfl (by unfold rg; omega) (by unfold rg; omega) (fun w56 => ?_) (fun w57 => ?_)
                · refine l_aload_n rfl rfl ?_
                  refine l_iload rfl rfl ?_
                  refine l_iload_n rfl rfl ?_
                  refine l_iload_n rfl rfl ?_
                  refine l_iload rfl rfl ?_
                  refine l_isub rfl ?_
                  refine l_iload rfl rfl ?_
                  refine l_callV rfl rfl rfl (t_me_countParts hHT1 z52 from_ (to - v7) dfd ⟨by omega, by omega⟩ ⟨by omega, by omega⟩ ⟨by omega, by omega⟩ ⟨by omega, by omega⟩ (by first | assumption | exact (LEX_FR hFT1 rfl rfl (by assumption : LEX S))) _) ?_
                  rintro _ T10 ⟨hHT10, w59, z58, rfl, w58⟩
                  have hFT10 : FR md_me_countReadings S T10 := FR.tr hFT1 w59 rfl
                  show Rl _ _ _ _ _ [iv z58] _ _
                  refine l_istore rfl rfl rfl ?_
                  refine l_iload rfl rfl ?_
                  refine l_if_le rfl rfl (by unfold rg; omega) (fun w60 => ?_) (fun w61 => ?_)
                  · have w62 : Xi T10 895 13 = Xi T1 895 13 := (show Xi T10 895 13 = Xi T1 895 13 from w59.x _ _ rfl)
                    exact Rl_weak (C119 T10 hHT10 hFT10 (v6) (v7) (by omega) (by omega) (by omega) (by omega)) (And.intro rfl (And.intro rfl (And.intro rfl (And.intro rfl (And.intro rfl (And.intro rfl (And.intro rfl (And.intro rfl (True.intro)))))))))
                  · refine l_aload_n rfl rfl ?_
                    refine l_iload rfl rfl ?_
                    refine l_pfi rfl rfl rfl rfl ?_
                    obtain ⟨U11, eU11⟩ : ∃ T : sS, T = uI T10 895 12 (Int32.ofInt z52) := ⟨_, rfl⟩
                    rw [← eU11]
                    have hHU11 : HI U11 := by rw [eU11]; exact HI_w hHT10 (show 0 ≤ z52 by omega) (show z52 ≤ 15 by omega)
                    have hFU11 : FR md_me_countReadings S U11 := by rw [eU11]; exact FR.wI hFT10 (mdf_i (r := (895, 896, 12, 13)) (List.mem_of_getElem? (i := 2) rfl) (inR_i (by omega) (by omega) (by omega) (by omega)))
                    have w63 : Xi U11 895 12 = z52 := by rw [eU11]; exact Xi_same (by unfold rg; omega)
                    refine l_aload_n rfl rfl ?_
                    refine l_iload_n rfl rfl ?_
                    refine l_iload rfl rfl ?_
                    refine l_isub rfl ?_
                    refine l_pfi rfl rfl rfl rfl ?_
                    obtain ⟨U12, eU12⟩ : ∃ T : sS, T = uI U11 895 13 (Int32.ofInt (to - v7)) := ⟨_, rfl⟩
                    rw [← eU12]
                    have hHU12 : HI U12 := by rw [eU12]; exact HI_any hHU11 (rfl)
                    have hFU12 : FR md_me_countReadings S U12 := by rw [eU12]; exact FR.wI hFU11 (mdf_i (r := (895, 896, 13, 14)) (List.mem_of_getElem? (i := 3) rfl) (inR_i (by omega) (by omega) (by omega) (by omega)))
                    have w64 : Xi U12 895 13 = (to - v7) := by rw [eU12]; exact Xi_same (by unfold rg; omega)
                    refine l_iload rfl rfl ?_
                    refine l_iload rfl rfl ?_
                    refine l_iaddW rfl (fun c65 w65 => ?_)
                    refine l_istore rfl rfl rfl ?_
                    exact Rl_weak (C119 U12 hHU12 hFU12 (c65) (v7) (by omega) (by omega) (by omega) (by omega)) (And.intro rfl (And.intro rfl (And.intro rfl (And.intro rfl (And.intro rfl (And.intro rfl (And.intro rfl (And.intro rfl (True.intro)))))))))
                · refine l_aload_n rfl rfl ?_
                  refine l_gfr rfl rfl rfl rfl rfl (hHT1.r 895 1 1 rfl) ?_
                  refine l_iload rfl rfl ?_
                  refine l_iload rfl rfl ?_
                  refine l_callV rfl rfl rfl (t_vo_isKind hHT1 z52 least ⟨by omega, by omega⟩ ⟨by omega, by omega⟩ _) ?_
                  rintro _ _ ⟨rfl, z67, rfl, w67, w66⟩
                  show Rl _ _ _ _ _ [iv z67] _ _
                  refine l_if_ne rfl rfl (by unfold rg; omega) (fun w68 => ?_) (fun w69 => ?_)
                  · refine l_aload_n rfl rfl ?_
                    refine l_iload rfl rfl ?_
                    refine l_iload_n rfl rfl ?_
                    refine l_iload_n rfl rfl ?_
                    refine l_iload rfl rfl ?_
                    refine l_isub rfl ?_
                    refine l_iload rfl rfl ?_
                    refine l_callV rfl rfl rfl (t_me_countParts hHT1 z52 from_ (to - v7) dfd ⟨by omega, by omega⟩ ⟨by omega, by omega⟩ ⟨by omega, by omega⟩ ⟨by omega, by omega⟩ (by first | assumption | exact (LEX_FR hFT1 rfl rfl (by assumption : LEX S))) _) ?_
                    rintro _ T13 ⟨hHT13, w71, z70, rfl, w70⟩
                    have hFT13 : FR md_me_countReadings S T13 := FR.tr hFT1 w71 rfl
                    show Rl _ _ _ _ _ [iv z70] _ _
                    refine l_istore rfl rfl rfl ?_
                    refine l_iload rfl rfl ?_
                    refine l_if_le rfl rfl (by unfold rg; omega) (fun w72 => ?_) (fun w73 => ?_)
                    · have w74 : Xi T13 895 13 = Xi T1 895 13 := (show Xi T13 895 13 = Xi T1 895 13 from w71.x _ _ rfl)
                      exact Rl_weak (C119 T13 hHT13 hFT13 (v6) (v7) (by omega) (by omega) (by omega) (by omega)) (And.intro rfl (And.intro rfl (And.intro rfl (And.intro rfl (And.intro rfl (And.intro rfl (And.intro rfl (And.intro rfl (True.intro)))))))))
                    · refine l_aload_n rfl rfl ?_
                      refine l_iload rfl rfl ?_
                      refine l_pfi rfl rfl rfl rfl ?_
                      obtain ⟨U14, eU14⟩ : ∃ T : sS, T = uI T13 895 12 (Int32.ofInt z52) := ⟨_, rfl⟩
                      rw [← eU14]
                      have hHU14 : HI U14 := by rw [eU14]; exact HI_w hHT13 (show 0 ≤ z52 by omega) (show z52 ≤ 15 by omega)
                      have hFU14 : FR md_me_countReadings S U14 := by rw [eU14]; exact FR.wI hFT13 (mdf_i (r := (895, 896, 12, 13)) (List.mem_of_getElem? (i := 2) rfl) (inR_i (by omega) (by omega) (by omega) (by omega)))
                      have w75 : Xi U14 895 12 = z52 := by rw [eU14]; exact Xi_same (by unfold rg; omega)
                      refine l_aload_n rfl rfl ?_
                      refine l_iload_n rfl rfl ?_
                      refine l_iload rfl rfl ?_
                      refine l_isub rfl ?_
                      refine l_pfi rfl rfl rfl rfl ?_
                      obtain ⟨U15, eU15⟩ : ∃ T : sS, T = uI U14 895 13 (Int32.ofInt (to - v7)) := ⟨_, rfl⟩
                      rw [← eU15]
                      have hHU15 : HI U15 := by rw [eU15]; exact HI_any hHU14 (rfl)
                      have hFU15 : FR md_me_countReadings S U15 := by rw [eU15]; exact FR.wI hFU14 (mdf_i (r := (895, 896, 13, 14)) (List.mem_of_getElem? (i := 3) rfl) (inR_i (by omega) (by omega) (by omega) (by omega)))
                      have w76 : Xi U15 895 13 = (to - v7) := by rw [eU15]; exact Xi_same (by unfold rg; omega)
                      refine l_iload rfl rfl ?_
                      refine l_iload rfl rfl ?_
                      refine l_iaddW rfl (fun c77 w77 => ?_)
                      refine l_istore rfl rfl rfl ?_
                      exact Rl_weak (C119 U15 hHU15 hFU15 (c77) (v7) (by omega) (by omega) (by omega) (by omega)) (And.intro rfl (And.intro rfl (And.intro rfl (And.intro rfl (And.intro rfl (And.intro rfl (And.intro rfl (And.intro rfl (True.intro)))))))))
                  · refine l_goto rfl rfl ?_
                    exact Rl_weak (C119 T1 hHT1 hFT1 (v6) (v7) (by omega) (by omega) (by omega) (by omega)) (And.intro rfl (And.intro rfl (And.intro rfl (And.intro rfl (And.intro rfl (And.intro rfl (And.intro rfl (And.intro rfl (True.intro)))))))))
  refine l_iconst rfl ?_
  refine l_istore rfl rfl rfl ?_
  refine l_iconst rfl ?_
  refine l_istore rfl rfl rfl ?_
  exact Rl_weak (C6 _ S hH hF (0) (1) (by omega) (by omega) (by omega) rfl) (And.intro rfl (And.intro rfl (And.intro rfl (And.intro rfl (And.intro rfl (And.intro rfl (And.intro rfl (And.intro rfl (True.intro)))))))))
abbrev Q_re_wasNew (S : sS) (from_ : Int) (to : Int) : pst := fun r S1 => S = S1 ∧ (∃ z : Int, r = some (iv z) ∧ (0 ≤ z ∧ z ≤ 1))
set_option maxRecDepth 100000 in
theorem t_re_wasNew {S : sS} (hH : HI S) (from_ : Int) (to : Int) (hfrom_ : 0 ≤ from_ ∧ from_ ≤ 5130) (hto : 0 ≤ to ∧ to ≤ 5130) (d : Nat) : Mt lay0 (d + 1) m_re_wasNew [.ref 891, iv from_, iv to] S (Q_re_wasNew S from_ to) := by
  refine Mt_R rfl rfl ?_
  have w1 : 0 ≤ Xi S 891 9 ∧ Xi S 891 9 ≤ 24 := hH.c _ _
  have C2 : ∀ (n2 : Nat) (v3 : Int), (0 ≤ v3 ∧ v3 ≤ 24) → n2 = (25 - v3).toNat → Rl lay0 (d + 0) m_re_wasNew 2 [(0, .ref 891), (1, iv from_), (2, iv to), (3, iv v3)] [] S (Q_re_wasNew S from_ to) := by
    intro n2
    induction n2 using Nat.strongRecOn with
    | ind n2 ih2 =>
      intro v3 w2 hm2
      have C36 : ∀ (n36 : Nat) (v3 : Int) (v4 : Int), (0 ≤ v3 ∧ v3 ≤ 23) → (-1 ≤ v4 ∧ v4 ≤ 5130) → (v4 ≠ -1 → Xi S 893 v3.toNat - Xi S 892 v3.toNat = to - from_ ∧ (v4 = 0 ∨ v4 ≤ to - from_)) → (v3 < Xi S 891 9) → (Xi S 893 v3.toNat ≤ 5130) → ((25 - v3).toNat ≤ n2) → n36 = (if v4 < 0 then 0 else 5131 - v4).toNat → Rl lay0 (d + 0) m_re_wasNew 36 [(0, .ref 891), (1, iv from_), (2, iv to), (3, iv v3), (4, iv v4)] [] S (Q_re_wasNew S from_ to) := by
        intro n36
        induction n36 using Nat.strongRecOn with
        | ind n36 ih36 =>
          intro v3 v4 w3 w4 w5 w6 w7 w8 hm36
          refine l_iload rfl rfl ?_
          refine l_if_lt rfl rfl (by unfold rg; omega) (fun w9 => ?_) (fun w10 => ?_)
          · refine l_iload rfl rfl ?_
            refine l_iconst rfl ?_
            refine l_icmp_eq rfl rfl (by unfold rg; omega) (by unfold rg; omega) (fun w11 => ?_) (fun w12 => ?_)
            · refine l_iinc rfl rfl rfl rfl ?_
              refine l_goto rfl rfl ?_
              exact Rl_weak (ih2 _ (by omega) ((v3 + 1)) (by omega) rfl) (And.intro rfl (And.intro rfl (And.intro rfl (And.intro rfl (True.intro)))))
            · refine l_iconst rfl ?_
              refine l_ireturn rfl rfl ?_
              exact ⟨rfl, _, rfl, ⟨by omega, by omega⟩⟩
          · refine l_iload rfl rfl ?_
            refine l_iload_n rfl rfl ?_
            refine l_iload_n rfl rfl ?_
            refine l_isub rfl ?_
            refine l_icmp_ge rfl rfl (by unfold rg; omega) (by unfold rg; omega) (fun w13 => ?_) (fun w14 => ?_)
            · refine l_iload rfl rfl ?_
              refine l_iconst rfl ?_
              refine l_icmp_eq rfl rfl (by unfold rg; omega) (by unfold rg; omega) (fun w15 => ?_) (fun w16 => ?_)
              · refine l_iinc rfl rfl rfl rfl ?_
                refine l_goto rfl rfl ?_
                exact Rl_weak (ih2 _ (by omega) ((v3 + 1)) (by omega) rfl) (And.intro rfl (And.intro rfl (And.intro rfl (And.intro rfl (True.intro)))))
              · refine l_iconst rfl ?_
                refine l_ireturn rfl rfl ?_
                exact ⟨rfl, _, rfl, ⟨by omega, by omega⟩⟩
            · refine l_aload_n rfl rfl ?_
              refine l_gfr rfl rfl rfl rfl rfl (hH.r 891 0 876 rfl) ?_
              refine l_gfr rfl rfl rfl rfl rfl (hH.r 876 2 879 rfl) ?_
              refine l_aload_n rfl rfl ?_
              refine l_gfr rfl rfl rfl rfl rfl (hH.r 891 7 892 rfl) ?_
              refine l_iload_n rfl rfl ?_
              refine l_iaload (n := 24) rfl rfl (by omega) (by omega) (by unfold rg; omega) ?_
              have w17 : 0 ≤ (Xi S 892 ((v3).toNat)) ∧ (Xi S 892 ((v3).toNat)) ≤ 5130 := hH.c _ _
              refine l_iload rfl rfl ?_
              refine l_iadd rfl ?_
              refine l_laload (n := 5130) rfl rfl (by omega) (by omega) (by unfold rg; omega) ?_
              have w18 : -9223372036854775808 ≤ (Xj S 879 ((((Xi S 892 ((v3).toNat)) + v4)).toNat)) ∧ (Xj S 879 ((((Xi S 892 ((v3).toNat)) + v4)).toNat)) < 9223372036854775808 := Xj_rg
              refine l_aload_n rfl rfl ?_
              refine l_gfr rfl rfl rfl rfl rfl (hH.r 891 0 876 rfl) ?_
              refine l_gfr rfl rfl rfl rfl rfl (hH.r 876 2 879 rfl) ?_
              refine l_iload_n rfl rfl ?_
              refine l_iload rfl rfl ?_
              refine l_iadd rfl ?_
              refine l_laload (n := 5130) rfl rfl (by omega) (by omega) (by unfold rg; omega) ?_
              have w19 : -9223372036854775808 ≤ (Xj S 879 (((from_ + v4)).toNat)) ∧ (Xj S 879 (((from_ + v4)).toNat)) < 9223372036854775808 := Xj_rg
              refine l_lcmpA rfl (fun c20 w20 => ?_)
              refine l_if_ne rfl rfl (by unfold rg; omega) (fun w21 => ?_) (fun w22 => ?_)
              · refine l_iconst rfl ?_
                refine l_istore rfl rfl rfl ?_
                refine l_goto rfl rfl ?_
                exact Rl_weak (ih36 _ (by omega) (v3) ((-1)) (by omega) (by omega) (by omega) (by omega) (by omega) (by omega) rfl) (And.intro rfl (And.intro rfl (And.intro rfl (And.intro rfl (And.intro rfl (True.intro))))))
              · refine l_iload rfl rfl ?_
                refine l_iconst rfl ?_
                refine l_iadd rfl ?_
                refine l_goto rfl rfl ?_
                refine l_istore rfl rfl rfl ?_
                refine l_goto rfl rfl ?_
                exact Rl_weak (ih36 _ (by omega) (v3) ((v4 + 1)) (by omega) (by omega) (by omega) (by omega) (by omega) (by omega) rfl) (And.intro rfl (And.intro rfl (And.intro rfl (And.intro rfl (And.intro rfl (True.intro))))))
      refine l_iload_n rfl rfl ?_
      refine l_aload_n rfl rfl ?_
      refine l_gfi rfl rfl rfl rfl rfl ?_
      refine l_icmp_ge rfl rfl (by unfold rg; omega) (by unfold rg; omega) (fun w23 => ?_) (fun w24 => ?_)
      · refine l_iconst rfl ?_
        refine l_ireturn rfl rfl ?_
        exact ⟨rfl, _, rfl, ⟨by omega, by omega⟩⟩
      · refine l_aload_n rfl rfl ?_
        refine l_gfr rfl rfl rfl rfl rfl (hH.r 891 8 893 rfl) ?_
        refine l_iload_n rfl rfl ?_
        refine l_iaload (n := 24) rfl rfl (by omega) (by omega) (by unfold rg; omega) ?_
        have w25 : 0 ≤ (Xi S 893 ((v3).toNat)) ∧ (Xi S 893 ((v3).toNat)) ≤ 5130 := hH.c _ _
        refine l_aload_n rfl rfl ?_
        refine l_gfr rfl rfl rfl rfl rfl (hH.r 891 7 892 rfl) ?_
        refine l_iload_n rfl rfl ?_
        refine l_iaload (n := 24) rfl rfl (by omega) (by omega) (by unfold rg; omega) ?_
        have w26 : 0 ≤ (Xi S 892 ((v3).toNat)) ∧ (Xi S 892 ((v3).toNat)) ≤ 5130 := hH.c _ _
        refine l_isub rfl ?_
        refine l_iload_n rfl rfl ?_
        refine l_iload_n rfl rfl ?_
        refine l_isub rfl ?_
        refine l_icmp_ne rfl rfl (by unfold rg; omega) (by unfold rg; omega) (fun w27 => ?_) (fun w28 => ?_)
        · refine l_iconst rfl ?_
          refine l_istore rfl rfl rfl ?_
          exact Rl_weak (C36 _ (v3) ((-1)) (by omega) (by omega) (by omega) (by omega) (by omega) (by omega) rfl) (And.intro rfl (And.intro rfl (And.intro rfl (And.intro rfl (And.intro rfl (True.intro))))))
        · refine l_iconst rfl ?_
          refine l_goto rfl rfl ?_
          refine l_istore rfl rfl rfl ?_
          exact Rl_weak (C36 _ (v3) (0) (by omega) (by omega) (by omega) (by omega) (by omega) (by omega) rfl) (And.intro rfl (And.intro rfl (And.intro rfl (And.intro rfl (And.intro rfl (True.intro))))))
  refine l_iconst rfl ?_
  refine l_istore_n rfl rfl rfl ?_
  exact Rl_weak (C2 _ (0) (by omega) rfl) (And.intro rfl (And.intro rfl (And.intro rfl (And.intro rfl (True.intro)))))
def md_re_takeNew : List rec := [(876, 877, 8, 9), (876, 877, 9, 10), (891, 892, 9, 10), (892, 893, 0, 100000), (893, 894, 0, 100000)]
abbrev Q_re_takeNew (S : sS) (from_ : Int) (to : Int) (already : Int) (most : Int) : pst := fun r S1 => HI S1 ∧ FR md_re_takeNew S S1 ∧ (∃ z : Int, r = some (iv z) ∧ (0 ≤ z ∧ z ≤ 1) ∧ (z = 1 → Xi S1 891 9 = Xi S 891 9 + 1 ∧ already + Xi S1 891 9 ≤ most ∧ to - from_ ≤ 3 ∧ Xi S1 892 (Xi S 891 9).toNat = from_ ∧ Xi S1 893 (Xi S 891 9).toNat = to) ∧ (z = 0 → Xi S1 891 9 = Xi S 891 9) ∧ (z = 1 → 1 ≤ to - from_ → mnR S 879 from_.toNat (to - from_).toNat = -1))
set_option maxRecDepth 100000 in
theorem t_re_takeNew {S : sS} (hH : HI S) (from_ : Int) (to : Int) (already : Int) (most : Int) (hfrom_ : 0 ≤ from_ ∧ from_ ≤ 5130) (hto : 0 ≤ to ∧ to ≤ 5130) (halready : 0 ≤ already ∧ already ≤ 1000) (hmost : 0 ≤ most ∧ most ≤ 1000) (hL : LEX S) (d : Nat) : Mt lay0 (d + 2) m_re_takeNew [.ref 891, iv from_, iv to, iv already, iv most] S (Q_re_takeNew S from_ to already most) := by
  refine Mt_R rfl rfl ?_
  have hF : FR md_re_takeNew S S := FR.rf
  have w1 : 0 ≤ Xi S 891 9 ∧ Xi S 891 9 ≤ 24 := hH.c _ _
  refine l_aload_n rfl rfl ?_
  refine l_gfr rfl rfl rfl rfl rfl (hH.r 891 2 1 rfl) ?_
  refine l_aload_n rfl rfl ?_
  refine l_gfr rfl rfl rfl rfl rfl (hH.r 891 0 876 rfl) ?_
  refine l_gfr rfl rfl rfl rfl rfl (hH.r 876 2 879 rfl) ?_
  refine l_iload_n rfl rfl ?_
  refine l_iload_n rfl rfl ?_
  refine l_callV rfl rfl rfl (t_vo_meaning hH 879 5130 from_ to rfl ⟨by omega, by omega⟩ ⟨by omega, by omega⟩ ⟨by omega, by omega⟩ (by first | assumption | exact (LEX_FR hF rfl rfl (by assumption : LEX S))) _) ?_
  rintro _ _ ⟨rfl, z5, rfl, w5, w2, w3, w4⟩
  show Rl _ _ _ _ _ [iv z5] _ _
  have hmnz5 := mOK_n (z := z5) (by assumption)
  refine l_iconst rfl ?_
  refine l_icmp_ne rfl rfl (by unfold rg; omega) (by unfold rg; omega) (fun w6 => ?_) (fun w7 => ?_)
  · refine l_aload_n rfl rfl ?_
    refine l_gfr rfl rfl rfl rfl rfl (hH.r 891 0 876 rfl) ?_
    refine l_iconst rfl ?_
    refine l_iload_n rfl rfl ?_
    refine l_callV rfl rfl rfl (t_to_wrong hH 3 from_ ⟨by omega, by omega⟩ ⟨by omega, by omega⟩ _) ?_
    rintro _ T1 ⟨hHT1, w11, z10, rfl, w10, w8, w9⟩
    have hFT1 : FR md_re_takeNew S T1 := FR.tr hF w11 rfl
    show Rl _ _ _ _ _ [iv z10] _ _
    refine l_ireturn rfl (retI_z (by omega)) ?_
    have w12 : Xi T1 891 9 = Xi S 891 9 := (show Xi T1 891 9 = Xi S 891 9 from w11.x _ _ rfl)
    have w13 : 0 ≤ Xi S 891 9 ∧ Xi S 891 9 ≤ 24 := hH.c _ _
    exact ⟨hHT1, hFT1, _, rfl, ⟨by omega, by omega⟩, (by first | (intro hz; exact absurd hz (by omega)) | (intro hz; exact ⟨by omega, by omega, by omega, by rw [eU6, Xi_ne (by omega), eU5, Xi_ne (by omega)]; omega, by rw [eU6, Xi_ne (by omega)]; omega⟩)), (by omega), (by omega)⟩
  · refine l_iload_n rfl rfl ?_
    refine l_iload_n rfl rfl ?_
    refine l_isub rfl ?_
    refine l_iconst rfl ?_
    refine l_icmp_gt rfl rfl (by unfold rg; omega) (by unfold rg; omega) (fun w14 => ?_) (fun w15 => ?_)
    · refine l_aload_n rfl rfl ?_
      refine l_gfr rfl rfl rfl rfl rfl (hH.r 891 0 876 rfl) ?_
      refine l_iconst rfl ?_
      refine l_iload_n rfl rfl ?_
      refine l_callV rfl rfl rfl (t_to_wrong hH 3 from_ ⟨by omega, by omega⟩ ⟨by omega, by omega⟩ _) ?_
      rintro _ T2 ⟨hHT2, w19, z18, rfl, w18, w16, w17⟩
      have hFT2 : FR md_re_takeNew S T2 := FR.tr hF w19 rfl
      show Rl _ _ _ _ _ [iv z18] _ _
      refine l_ireturn rfl (retI_z (by omega)) ?_
      have w20 : Xi T2 891 9 = Xi S 891 9 := (show Xi T2 891 9 = Xi S 891 9 from w19.x _ _ rfl)
      have w21 : 0 ≤ Xi S 891 9 ∧ Xi S 891 9 ≤ 24 := hH.c _ _
      exact ⟨hHT2, hFT2, _, rfl, ⟨by omega, by omega⟩, (by first | (intro hz; exact absurd hz (by omega)) | (intro hz; exact ⟨by omega, by omega, by omega, by rw [eU6, Xi_ne (by omega), eU5, Xi_ne (by omega)]; omega, by rw [eU6, Xi_ne (by omega)]; omega⟩)), (by omega), (by omega)⟩
    · refine l_aload_n rfl rfl ?_
      refine l_iload_n rfl rfl ?_
      refine l_iload_n rfl rfl ?_
      refine l_callV rfl rfl rfl (t_re_wasNew hH from_ to ⟨by omega, by omega⟩ ⟨by omega, by omega⟩ _) ?_
      rintro _ _ ⟨rfl, z22, rfl, w22⟩
      show Rl _ _ _ _ _ [iv z22] _ _
      refine l_if_eq rfl rfl (by unfold rg; omega) (fun w23 => ?_) (fun w24 => ?_)
      · refine l_iload_n rfl rfl ?_
        refine l_aload_n rfl rfl ?_
        refine l_gfi rfl rfl rfl rfl rfl ?_
        refine l_iadd rfl ?_
        refine l_iload rfl rfl ?_
        refine l_icmp_ge rfl rfl (by unfold rg; omega) (by unfold rg; omega) (fun w25 => ?_) (fun w26 => ?_)
        · refine l_aload_n rfl rfl ?_
          refine l_gfr rfl rfl rfl rfl rfl (hH.r 891 0 876 rfl) ?_
          refine l_bipush rfl rfl ?_
          refine l_iload_n rfl rfl ?_
          refine l_callV rfl rfl rfl (t_to_wrong hH 9 from_ ⟨by omega, by omega⟩ ⟨by omega, by omega⟩ _) ?_
          rintro _ T3 ⟨hHT3, w30, z29, rfl, w29, w27, w28⟩
          have hFT3 : FR md_re_takeNew S T3 := FR.tr hF w30 rfl
          show Rl _ _ _ _ _ [iv z29] _ _
          refine l_ireturn rfl (retI_z (by omega)) ?_
          have w31 : Xi T3 891 9 = Xi S 891 9 := (show Xi T3 891 9 = Xi S 891 9 from w30.x _ _ rfl)
          have w32 : 0 ≤ Xi S 891 9 ∧ Xi S 891 9 ≤ 24 := hH.c _ _
          exact ⟨hHT3, hFT3, _, rfl, ⟨by omega, by omega⟩, (by first | (intro hz; exact absurd hz (by omega)) | (intro hz; exact ⟨by omega, by omega, by omega, by rw [eU6, Xi_ne (by omega), eU5, Xi_ne (by omega)]; omega, by rw [eU6, Xi_ne (by omega)]; omega⟩)), (by omega), (by omega)⟩
        · refine l_aload_n rfl rfl ?_
          refine l_gfi rfl rfl rfl rfl rfl ?_
          refine l_aload_n rfl rfl ?_
          refine l_gfr rfl rfl rfl rfl rfl (hH.r 891 7 892 rfl) ?_
          refine l_alen (n := 24) (z := 24) rfl rfl rfl rfl rfl ?_
          refine l_icmp_lt rfl rfl (by unfold rg; omega) (by unfold rg; omega) (fun w33 => ?_) (fun w34 => ?_)
          · refine l_aload_n rfl rfl ?_
            refine l_gfr rfl rfl rfl rfl rfl (hH.r 891 7 892 rfl) ?_
            refine l_aload_n rfl rfl ?_
            refine l_gfi rfl rfl rfl rfl rfl ?_
            refine l_iload_n rfl rfl ?_
            refine l_iastore (n := 24) rfl rfl (by omega) (by omega) (by unfold rg; omega) ?_
            obtain ⟨U4, eU4⟩ : ∃ T : sS, T = uI S 892 (((Xi S 891 9)).toNat) (Int32.ofInt from_) := ⟨_, rfl⟩
            rw [← eU4]
            have hHU4 : HI U4 := by rw [eU4]; exact HI_w hH (show 0 ≤ from_ by omega) (show from_ ≤ 5130 by omega)
            have hFU4 : FR md_re_takeNew S U4 := by rw [eU4]; exact FR.wI hF (mdf_i (r := (892, 893, 0, 100000)) (List.mem_of_getElem? (i := 3) rfl) (inR_i (by omega) (by omega) (by omega) (by omega)))
            have w35 : Xi U4 892 (((Xi S 891 9)).toNat) = from_ := by rw [eU4]; exact Xi_same (by unfold rg; omega)
            refine l_aload_n rfl rfl ?_
            refine l_gfr rfl rfl rfl rfl rfl (hHU4.r 891 8 893 rfl) ?_
            refine l_aload_n rfl rfl ?_
            refine l_gfi rfl rfl rfl rfl rfl ?_
            have w36 : (Xi U4 891 9) = (Xi S 891 9) := (show Xi U4 891 9 = Xi S 891 9 from by rw [eU4]; exact Xi_ne (by omega))
            rw [w36]
            refine l_iload_n rfl rfl ?_
            refine l_iastore (n := 24) rfl rfl (by omega) (by omega) (by unfold rg; omega) ?_
            obtain ⟨U5, eU5⟩ : ∃ T : sS, T = uI U4 893 (((Xi S 891 9)).toNat) (Int32.ofInt to) := ⟨_, rfl⟩
            rw [← eU5]
            have hHU5 : HI U5 := by rw [eU5]; exact HI_w hHU4 (show 0 ≤ to by omega) (show to ≤ 5130 by omega)
            have hFU5 : FR md_re_takeNew S U5 := by rw [eU5]; exact FR.wI hFU4 (mdf_i (r := (893, 894, 0, 100000)) (List.mem_of_getElem? (i := 4) rfl) (inR_i (by omega) (by omega) (by omega) (by omega)))
            have w37 : Xi U5 893 (((Xi S 891 9)).toNat) = to := by rw [eU5]; exact Xi_same (by unfold rg; omega)
            refine l_aload_n rfl rfl ?_
            refine l_dup rfl rfl ?_
            refine l_gfi rfl rfl rfl rfl rfl ?_
            have w38 : (Xi U5 891 9) = (Xi S 891 9) := (show Xi U5 891 9 = Xi U4 891 9 from by rw [eU5]; exact Xi_ne (by omega)).trans ((show Xi U4 891 9 = Xi S 891 9 from by rw [eU4]; exact Xi_ne (by omega)))
            rw [w38]
            refine l_iconst rfl ?_
            refine l_iadd rfl ?_
            refine l_pfi rfl rfl rfl rfl ?_
            obtain ⟨U6, eU6⟩ : ∃ T : sS, T = uI U5 891 9 (Int32.ofInt ((Xi S 891 9) + 1)) := ⟨_, rfl⟩
            rw [← eU6]
            have hHU6 : HI U6 := by rw [eU6]; exact HI_w hHU5 (show 0 ≤ ((Xi S 891 9) + 1) by omega) (show ((Xi S 891 9) + 1) ≤ 24 by omega)
            have hFU6 : FR md_re_takeNew S U6 := by rw [eU6]; exact FR.wI hFU5 (mdf_i (r := (891, 892, 9, 10)) (List.mem_of_getElem? (i := 2) rfl) (inR_i (by omega) (by omega) (by omega) (by omega)))
            have w39 : Xi U6 891 9 = ((Xi S 891 9) + 1) := by rw [eU6]; exact Xi_same (by unfold rg; omega)
            refine l_iconst rfl ?_
            refine l_ireturn rfl rfl ?_
            have w40 : 0 ≤ Xi U6 891 9 ∧ Xi U6 891 9 ≤ 24 := hHU6.c _ _
            exact ⟨hHU6, hFU6, _, rfl, ⟨by omega, by omega⟩, (by first | (intro hz; exact absurd hz (by omega)) | (intro hz; exact ⟨by omega, by omega, by omega, by rw [eU6, Xi_ne (by omega), eU5, Xi_ne (by omega)]; omega, by rw [eU6, Xi_ne (by omega)]; omega⟩)), (by omega), (by omega)⟩
          · refine l_aload_n rfl rfl ?_
            refine l_gfr rfl rfl rfl rfl rfl (hH.r 891 0 876 rfl) ?_
            refine l_bipush rfl rfl ?_
            refine l_iload_n rfl rfl ?_
            refine l_callV rfl rfl rfl (t_to_wrong hH 9 from_ ⟨by omega, by omega⟩ ⟨by omega, by omega⟩ _) ?_
            rintro _ T7 ⟨hHT7, w44, z43, rfl, w43, w41, w42⟩
            have hFT7 : FR md_re_takeNew S T7 := FR.tr hF w44 rfl
            show Rl _ _ _ _ _ [iv z43] _ _
            refine l_ireturn rfl (retI_z (by omega)) ?_
            have w45 : Xi T7 891 9 = Xi S 891 9 := (show Xi T7 891 9 = Xi S 891 9 from w44.x _ _ rfl)
            have w46 : 0 ≤ Xi S 891 9 ∧ Xi S 891 9 ≤ 24 := hH.c _ _
            exact ⟨hHT7, hFT7, _, rfl, ⟨by omega, by omega⟩, (by first | (intro hz; exact absurd hz (by omega)) | (intro hz; exact ⟨by omega, by omega, by omega, by rw [eU6, Xi_ne (by omega), eU5, Xi_ne (by omega)]; omega, by rw [eU6, Xi_ne (by omega)]; omega⟩)), (by omega), (by omega)⟩
      · refine l_aload_n rfl rfl ?_
        refine l_gfr rfl rfl rfl rfl rfl (hH.r 891 0 876 rfl) ?_
        refine l_iconst rfl ?_
        refine l_iload_n rfl rfl ?_
        refine l_callV rfl rfl rfl (t_to_wrong hH 3 from_ ⟨by omega, by omega⟩ ⟨by omega, by omega⟩ _) ?_
        rintro _ T8 ⟨hHT8, w50, z49, rfl, w49, w47, w48⟩
        have hFT8 : FR md_re_takeNew S T8 := FR.tr hF w50 rfl
        show Rl _ _ _ _ _ [iv z49] _ _
        refine l_ireturn rfl (retI_z (by omega)) ?_
        have w51 : Xi T8 891 9 = Xi S 891 9 := (show Xi T8 891 9 = Xi S 891 9 from w50.x _ _ rfl)
        have w52 : 0 ≤ Xi S 891 9 ∧ Xi S 891 9 ≤ 24 := hH.c _ _
        exact ⟨hHT8, hFT8, _, rfl, ⟨by omega, by omega⟩, (by first | (intro hz; exact absurd hz (by omega)) | (intro hz; exact ⟨by omega, by omega, by omega, by rw [eU6, Xi_ne (by omega), eU5, Xi_ne (by omega)]; omega, by rw [eU6, Xi_ne (by omega)]; omega⟩)), (by omega), (by omega)⟩
abbrev Q_re_beginsName (S : sS) (row : Int) : pst := fun r S1 => S = S1 ∧ (∃ z : Int, r = some (iv z) ∧ (0 ≤ z ∧ z ≤ 1) ∧ (z = 1 → 0 ≤ row ∧ row < Xi S 876 7 ∧ row < Xi S 890 3 ∧ Xi S 877 row.toNat = 100))
set_option maxRecDepth 100000 in
theorem t_re_beginsName {S : sS} (hH : HI S) (row : Int) (hrow : 0 ≤ row ∧ row ≤ 5131) (d : Nat) : Mt lay0 (d + 2) m_re_beginsName [.ref 891, iv row] S (Q_re_beginsName S row) := by
  refine Mt_R rfl rfl ?_
  have w1 : 0 ≤ Xi S 876 7 ∧ Xi S 876 7 ≤ 5125 := hH.c _ _
  have w2 : -1 ≤ Xi S 890 3 ∧ Xi S 890 3 ≤ 5124 := hH.c _ _
  refine l_aload_n rfl rfl ?_
  refine l_gfr rfl rfl rfl rfl rfl (hH.r 891 0 876 rfl) ?_
  refine l_iload_n rfl rfl ?_
  refine l_iconst rfl ?_
  have w3 : 0 ≤ Xi S 876 7 ∧ Xi S 876 7 ≤ 5125 := hH.c _ _
  refine l_callV rfl rfl rfl (t_to_beginsRun hH row 0 ⟨by omega, by omega⟩ ⟨by omega, by omega⟩ _) ?_
  rintro _ _ ⟨rfl, z5, rfl, w5, w4⟩
  show Rl _ _ _ _ _ [iv z5] _ _
  refine l_if_eq rfl rfl (by unfold rg; omega) (fun w6 => ?_) (fun w7 => ?_)
  · refine l_iconst rfl ?_
    refine l_ireturn rfl rfl ?_
    exact ⟨rfl, _, rfl, ⟨by omega, by omega⟩, (by first | assumption | omega)⟩
  · refine l_iload_n rfl rfl ?_
    refine l_aload_n rfl rfl ?_
    refine l_gfr rfl rfl rfl rfl rfl (hH.r 891 1 890 rfl) ?_
    refine l_gfi rfl rfl rfl rfl rfl ?_
    refine l_icmp_ge rfl rfl (by unfold rg; omega) (by unfold rg; omega) (fun w8 => ?_) (fun w9 => ?_)
    · refine l_iconst rfl ?_
      refine l_ireturn rfl rfl ?_
      exact ⟨rfl, _, rfl, ⟨by omega, by omega⟩, (by first | assumption | omega)⟩
    · refine l_iconst rfl ?_
      refine l_goto rfl rfl ?_
      refine l_ireturn rfl rfl ?_
      exact ⟨rfl, _, rfl, ⟨by omega, by omega⟩, (by first | assumption | omega)⟩
abbrev Q_re_secondName (S : sS) : pst := fun r S1 => S = S1 ∧ (∃ z : Int, r = some (iv z) ∧ (-1 ≤ z ∧ z ≤ 5131))
set_option maxRecDepth 100000 in
theorem t_re_secondName {S : sS} (hH : HI S) (d : Nat) : Mt lay0 (d + 3) m_re_secondName [.ref 891] S (Q_re_secondName S) := by
  refine Mt_R rfl rfl ?_
  have C16 : ∀ (n16 : Nat) (v1 : Int), (0 ≤ v1 ∧ v1 ≤ 5140) → n16 = (5131 - v1).toNat → Rl lay0 (d + 2) m_re_secondName 16 [(0, .ref 891), (1, iv v1)] [] S (Q_re_secondName S) := by
    intro n16
    induction n16 using Nat.strongRecOn with
    | ind n16 ih16 =>
      intro v1 w1 hm16
      refine l_iload_n rfl rfl ?_
      refine l_aload_n rfl rfl ?_
      refine l_gfr rfl rfl rfl rfl rfl (hH.r 891 1 890 rfl) ?_
      refine l_gfi rfl rfl rfl rfl rfl ?_
      have w2 : -1 ≤ (Xi S 890 3) ∧ (Xi S 890 3) ≤ 5124 := hH.c _ _
      refine l_icmp_ge rfl rfl (by unfold rg; omega) (by unfold rg; omega) (fun w3 => ?_) (fun w4 => ?_)
      · refine l_iconst rfl ?_
        refine l_ireturn rfl rfl ?_
        exact ⟨rfl, _, rfl, ⟨by omega, by omega⟩⟩
      · refine l_aload_n rfl rfl ?_
        refine l_iload_n rfl rfl ?_
        have w5 : 0 ≤ Xi S 876 7 ∧ Xi S 876 7 ≤ 5125 := hH.c _ _
        have w6 : -1 ≤ Xi S 890 3 ∧ Xi S 890 3 ≤ 5124 := hH.c _ _
        refine l_callV rfl rfl rfl (t_re_beginsName hH v1 ⟨by omega, by omega⟩ _) ?_
        rintro _ _ ⟨rfl, z8, rfl, w8, w7⟩
        show Rl _ _ _ _ _ [iv z8] _ _
        refine l_if_eq rfl rfl (by unfold rg; omega) (fun w9 => ?_) (fun w10 => ?_)
        · refine l_iinc rfl rfl rfl rfl ?_
          refine l_goto rfl rfl ?_
          exact Rl_weak (ih16 _ (by omega) ((v1 + 1)) (by omega) rfl) (And.intro rfl (And.intro rfl (True.intro)))
        · refine l_iload_n rfl rfl ?_
          refine l_ireturn rfl rfl ?_
          exact ⟨rfl, _, rfl, ⟨by omega, by omega⟩⟩
  refine l_aload_n rfl rfl ?_
  refine l_gfr rfl rfl rfl rfl rfl (hH.r 891 0 876 rfl) ?_
  refine l_aload_n rfl rfl ?_
  refine l_gfr rfl rfl rfl rfl rfl (hH.r 891 0 876 rfl) ?_
  refine l_iconst rfl ?_
  have w11 : 0 ≤ Xi S 876 7 ∧ Xi S 876 7 ≤ 5125 := hH.c _ _
  refine l_callV rfl rfl rfl (t_to_behindArt hH 0 ⟨by omega, by omega⟩ _) ?_
  rintro _ _ ⟨rfl, z13, rfl, w13, w12⟩
  show Rl _ _ _ _ _ [iv z13, .ref 876] _ _
  have w14 : 0 ≤ Xi S 876 7 ∧ Xi S 876 7 ≤ 5125 := hH.c _ _
  refine l_callV rfl rfl rfl (t_to_runEnd hH z13 ⟨by omega, by omega⟩ _) ?_
  rintro _ _ ⟨rfl, z21, rfl, w21, w15, w16, w17, w18, w19, w20⟩
  show Rl _ _ _ _ _ [iv z21] _ _
  refine l_istore_n rfl rfl rfl ?_
  exact Rl_weak (C16 _ (z21) (by omega) rfl) (And.intro rfl (And.intro rfl (True.intro)))
abbrev Q_re_tellsUsually (S : sS) : pst := fun r S1 => S = S1 ∧ (∃ z : Int, r = some (iv z) ∧ (0 ≤ z ∧ z ≤ 1))
set_option maxRecDepth 100000 in
theorem t_re_tellsUsually {S : sS} (hH : HI S) (d : Nat) : Mt lay0 (d + 2) m_re_tellsUsually [.ref 891] S (Q_re_tellsUsually S) := by
  refine Mt_R rfl rfl ?_
  refine l_aload_n rfl rfl ?_
  refine l_gfr rfl rfl rfl rfl rfl (hH.r 891 0 876 rfl) ?_
  refine l_aload_n rfl rfl ?_
  refine l_gfr rfl rfl rfl rfl rfl (hH.r 891 1 890 rfl) ?_
  refine l_gfi rfl rfl rfl rfl rfl ?_
  have w1 : -1 ≤ (Xi S 890 3) ∧ (Xi S 890 3) ≤ 5124 := hH.c _ _
  refine l_iconst rfl ?_
  refine l_iadd rfl ?_
  have w2 : 0 ≤ Xi S 876 7 ∧ Xi S 876 7 ≤ 5125 := hH.c _ _
  refine l_callV rfl rfl rfl (t_to_typeAt hH ((Xi S 890 3) + 1) ⟨by omega, by omega⟩ _) ?_
  rintro _ _ ⟨rfl, z4, rfl, w4, w3⟩
  show Rl _ _ _ _ _ [iv z4] _ _
  refine l_bipush rfl rfl ?_
  refine l_icmp_ne rfl rfl (by unfold rg; omega) (by unfold rg; omega) (fun w5 => ?_) (fun w6 => ?_)
  · refine l_iconst rfl ?_
    refine l_ireturn rfl rfl ?_
    exact ⟨rfl, _, rfl, ⟨by omega, by omega⟩⟩
  · refine l_iconst rfl ?_
    refine l_goto rfl rfl ?_
    refine l_ireturn rfl rfl ?_
    exact ⟨rfl, _, rfl, ⟨by omega, by omega⟩⟩
abbrev Q_re_typeMeant (S : sS) (from_ : Int) : pst := fun r S1 => S = S1 ∧ (∃ z : Int, r = some (iv z) ∧ (-1 ≤ z ∧ z ≤ 7))
set_option maxRecDepth 100000 in
theorem t_re_typeMeant {S : sS} (hH : HI S) (from_ : Int) (hfrom_ : 0 ≤ from_ ∧ from_ ≤ 5140) (hL : LEX S) (d : Nat) : Mt lay0 (d + 3) m_re_typeMeant [.ref 891, iv from_] S (Q_re_typeMeant S from_) := by
  refine Mt_R rfl rfl ?_
  refine l_aload_n rfl rfl ?_
  refine l_gfr rfl rfl rfl rfl rfl (hH.r 891 2 1 rfl) ?_
  refine l_aload_n rfl rfl ?_
  refine l_gfr rfl rfl rfl rfl rfl (hH.r 891 0 876 rfl) ?_
  refine l_gfr rfl rfl rfl rfl rfl (hH.r 876 2 879 rfl) ?_
  refine l_iload_n rfl rfl ?_
  refine l_aload_n rfl rfl ?_
  refine l_gfr rfl rfl rfl rfl rfl (hH.r 891 0 876 rfl) ?_
  refine l_iload_n rfl rfl ?_
  have w1 : 0 ≤ Xi S 876 7 ∧ Xi S 876 7 ≤ 5125 := hH.c _ _
  refine l_callV rfl rfl rfl (t_to_runEnd hH from_ ⟨by omega, by omega⟩ _) ?_
  rintro _ _ ⟨rfl, z8, rfl, w8, w2, w3, w4, w5, w6, w7⟩
  show Rl _ _ _ _ _ [iv z8, iv from_, .ref 879, .ref 1] _ _
  refine l_callV rfl rfl rfl (t_vo_meaning hH 879 5130 from_ z8 rfl ⟨by omega, by omega⟩ ⟨by omega, by omega⟩ ⟨by omega, by omega⟩ (by first | assumption | exact (by assumption : LEX S)) _) ?_
  rintro _ _ ⟨rfl, z12, rfl, w12, w9, w10, w11⟩
  show Rl _ _ _ _ _ [iv z12] _ _
  have hmnz12 := mOK_n (z := z12) (by assumption)
  refine l_istore_n rfl rfl rfl ?_
  refine l_iload_n rfl rfl ?_
  refine l_bipush rfl rfl ?_
  refine l_ishr8 rfl (by unfold rg; omega) ?_
  refine l_iconst rfl ?_
  refine l_icmp_eq rfl rfl (by unfold rg; omega) (by unfold rg; omega) (fun w14 => ?_) (fun w15 => ?_)
  · refine l_iconst rfl ?_
    refine l_goto rfl rfl ?_
    refine l_istore_n rfl rfl rfl ?_
    refine l_iload_n rfl rfl ?_
    refine l_if_eq rfl rfl (by unfold rg; omega) (fun w16 => absurd w16 (by omega)) (fun w17 => ?_)
    · refine l_iload_n rfl rfl ?_
      refine l_sipush rfl rfl ?_
      refine l_iand255 rfl (by unfold rg; omega) ?_
      have w19 := fb1 hH (lx (z := z12) (by assumption) (by omega) (by omega))
      refine l_iconst rfl ?_
      refine l_icmp_le rfl rfl (by unfold rg; omega) (by unfold rg; omega) (fun w20 => ?_) (fun w21 => ?_)
      · refine l_iconst rfl ?_
        refine l_ireturn rfl rfl ?_
        exact ⟨rfl, _, rfl, ⟨by omega, by omega⟩⟩
      · refine l_iload_n rfl rfl ?_
        refine l_sipush rfl rfl ?_
        refine l_iand255 rfl (by unfold rg; omega) ?_
        have w23 := fb1 hH (lx (z := z12) (by assumption) (by omega) (by omega))
        refine l_goto rfl rfl ?_
        refine l_ireturn rfl rfl ?_
        exact ⟨rfl, _, rfl, ⟨by omega, by omega⟩⟩
  · refine l_iload_n rfl rfl ?_
    refine l_bipush rfl rfl ?_
    refine l_ishr8 rfl (by unfold rg; omega) ?_
    refine l_bipush rfl rfl ?_
    refine l_icmp_ne rfl rfl (by unfold rg; omega) (by unfold rg; omega) (fun w25 => ?_) (fun w26 => ?_)
    · refine l_iconst rfl ?_
      refine l_istore_n rfl rfl rfl ?_
      refine l_iload_n rfl rfl ?_
      refine l_if_eq rfl rfl (by unfold rg; omega) (fun w27 => ?_) (fun w28 => absurd w28 (by omega))
      · refine l_iconst rfl ?_
        refine l_ireturn rfl rfl ?_
        exact ⟨rfl, _, rfl, ⟨by omega, by omega⟩⟩
    · refine l_iconst rfl ?_
      refine l_goto rfl rfl ?_
      refine l_istore_n rfl rfl rfl ?_
      refine l_iload_n rfl rfl ?_
      refine l_if_eq rfl rfl (by unfold rg; omega) (fun w29 => absurd w29 (by omega)) (fun w30 => ?_)
      · refine l_iload_n rfl rfl ?_
        refine l_sipush rfl rfl ?_
        refine l_iand255 rfl (by unfold rg; omega) ?_
        have w32 := fb12 hH (lx (z := z12) (by assumption) (by omega) (by omega))
        refine l_iconst rfl ?_
        refine l_icmp_le rfl rfl (by unfold rg; omega) (by unfold rg; omega) (fun w33 => ?_) (fun w34 => ?_)
        · refine l_iconst rfl ?_
          refine l_ireturn rfl rfl ?_
          exact ⟨rfl, _, rfl, ⟨by omega, by omega⟩⟩
        · refine l_iload_n rfl rfl ?_
          refine l_sipush rfl rfl ?_
          refine l_iand255 rfl (by unfold rg; omega) ?_
          have w36 := fb12 hH (lx (z := z12) (by assumption) (by omega) (by omega))
          refine l_goto rfl rfl ?_
          refine l_ireturn rfl rfl ?_
          exact ⟨rfl, _, rfl, ⟨by omega, by omega⟩⟩
abbrev Q_re_tellsValues (S : sS) : pst := fun r S1 => S = S1 ∧ (∃ z : Int, r = some (iv z) ∧ (0 ≤ z ∧ z ≤ 1))
set_option maxRecDepth 100000 in
theorem t_re_tellsValues {S : sS} (hH : HI S) (hL : LEX S) (d : Nat) : Mt lay0 (d + 4) m_re_tellsValues [.ref 891] S (Q_re_tellsValues S) := by
  refine Mt_R rfl rfl ?_
  refine l_aload_n rfl rfl ?_
  refine l_gfr rfl rfl rfl rfl rfl (hH.r 891 0 876 rfl) ?_
  refine l_aload_n rfl rfl ?_
  refine l_gfr rfl rfl rfl rfl rfl (hH.r 891 1 890 rfl) ?_
  refine l_gfi rfl rfl rfl rfl rfl ?_
  have w1 : -1 ≤ (Xi S 890 3) ∧ (Xi S 890 3) ≤ 5124 := hH.c _ _
  refine l_iconst rfl ?_
  refine l_iadd rfl ?_
  have w2 : 0 ≤ Xi S 876 7 ∧ Xi S 876 7 ≤ 5125 := hH.c _ _
  refine l_callV rfl rfl rfl (t_to_typeAt hH ((Xi S 890 3) + 1) ⟨by omega, by omega⟩ _) ?_
  rintro _ _ ⟨rfl, z4, rfl, w4, w3⟩
  show Rl _ _ _ _ _ [iv z4] _ _
  refine l_bipush rfl rfl ?_
  refine l_icmp_eq rfl rfl (by unfold rg; omega) (by unfold rg; omega) (fun w5 => ?_) (fun w6 => ?_)
  · refine l_iconst rfl ?_
    refine l_ireturn rfl rfl ?_
    exact ⟨rfl, _, rfl, ⟨by omega, by omega⟩⟩
  · refine l_aload_n rfl rfl ?_
    refine l_callV rfl rfl rfl (t_re_secondName hH _) ?_
    rintro _ _ ⟨rfl, z7, rfl, w7⟩
    show Rl _ _ _ _ _ [iv z7] _ _
    refine l_iconst rfl ?_
    refine l_icmp_ne rfl rfl (by unfold rg; omega) (by unfold rg; omega) (fun w8 => ?_) (fun w9 => ?_)
    · refine l_iconst rfl ?_
      refine l_ireturn rfl rfl ?_
      exact ⟨rfl, _, rfl, ⟨by omega, by omega⟩⟩
    · refine l_aload_n rfl rfl ?_
      refine l_aload_n rfl rfl ?_
      refine l_gfr rfl rfl rfl rfl rfl (hH.r 891 0 876 rfl) ?_
      refine l_iconst rfl ?_
      have w10 : 0 ≤ Xi S 876 7 ∧ Xi S 876 7 ≤ 5125 := hH.c _ _
      refine l_callV rfl rfl rfl (t_to_behindArt hH 0 ⟨by omega, by omega⟩ _) ?_
      rintro _ _ ⟨rfl, z12, rfl, w12, w11⟩
      show Rl _ _ _ _ _ [iv z12, .ref 891] _ _
      refine l_callV rfl rfl rfl (t_re_typeMeant hH z12 ⟨by omega, by omega⟩ (by first | assumption | exact (by assumption : LEX S)) _) ?_
      rintro _ _ ⟨rfl, z13, rfl, w13⟩
      show Rl _ _ _ _ _ [iv z13] _ _
      refine l_iconst rfl ?_
      refine l_icmp_eq rfl rfl (by unfold rg; omega) (by unfold rg; omega) (fun w14 => ?_) (fun w15 => ?_)
      · refine l_iconst rfl ?_
        refine l_ireturn rfl rfl ?_
        exact ⟨rfl, _, rfl, ⟨by omega, by omega⟩⟩
      · refine l_iconst rfl ?_
        refine l_goto rfl rfl ?_
        refine l_ireturn rfl rfl ?_
        exact ⟨rfl, _, rfl, ⟨by omega, by omega⟩⟩
abbrev Q_re_kindMeant (S : sS) (from_ : Int) : pst := fun r S1 => S = S1 ∧ (∃ z : Int, r = some (iv z) ∧ (-1 ≤ z ∧ z ≤ 15))
set_option maxRecDepth 100000 in
theorem t_re_kindMeant {S : sS} (hH : HI S) (from_ : Int) (hfrom_ : 0 ≤ from_ ∧ from_ ≤ 5140) (hL : LEX S) (d : Nat) : Mt lay0 (d + 3) m_re_kindMeant [.ref 891, iv from_] S (Q_re_kindMeant S from_) := by
  refine Mt_R rfl rfl ?_
  refine l_aload_n rfl rfl ?_
  refine l_gfr rfl rfl rfl rfl rfl (hH.r 891 2 1 rfl) ?_
  refine l_aload_n rfl rfl ?_
  refine l_gfr rfl rfl rfl rfl rfl (hH.r 891 0 876 rfl) ?_
  refine l_gfr rfl rfl rfl rfl rfl (hH.r 876 2 879 rfl) ?_
  refine l_iload_n rfl rfl ?_
  refine l_aload_n rfl rfl ?_
  refine l_gfr rfl rfl rfl rfl rfl (hH.r 891 0 876 rfl) ?_
  refine l_iload_n rfl rfl ?_
  have w1 : 0 ≤ Xi S 876 7 ∧ Xi S 876 7 ≤ 5125 := hH.c _ _
  refine l_callV rfl rfl rfl (t_to_runEnd hH from_ ⟨by omega, by omega⟩ _) ?_
  rintro _ _ ⟨rfl, z8, rfl, w8, w2, w3, w4, w5, w6, w7⟩
  show Rl _ _ _ _ _ [iv z8, iv from_, .ref 879, .ref 1] _ _
  refine l_callV rfl rfl rfl (t_vo_meaning hH 879 5130 from_ z8 rfl ⟨by omega, by omega⟩ ⟨by omega, by omega⟩ ⟨by omega, by omega⟩ (by first | assumption | exact (by assumption : LEX S)) _) ?_
  rintro _ _ ⟨rfl, z12, rfl, w12, w9, w10, w11⟩
  show Rl _ _ _ _ _ [iv z12] _ _
  have hmnz12 := mOK_n (z := z12) (by assumption)
  refine l_istore_n rfl rfl rfl ?_
  refine l_iload_n rfl rfl ?_
  refine l_bipush rfl rfl ?_
  refine l_ishr8 rfl (by unfold rg; omega) ?_
  refine l_if_eq rfl rfl (by unfold rg; omega) (fun w14 => ?_) (fun w15 => ?_)
  · refine l_iload_n rfl rfl ?_
    refine l_sipush rfl rfl ?_
    refine l_iand255 rfl (by unfold rg; omega) ?_
    have w17 := fb0 hH (lx (z := z12) (by assumption) (by omega) (by omega))
    refine l_goto rfl rfl ?_
    refine l_ireturn rfl rfl ?_
    exact ⟨rfl, _, rfl, ⟨by omega, by omega⟩⟩
  · refine l_iload_n rfl rfl ?_
    refine l_bipush rfl rfl ?_
    refine l_ishr8 rfl (by unfold rg; omega) ?_
    refine l_bipush rfl rfl ?_
    refine l_icmp_ne rfl rfl (by unfold rg; omega) (by unfold rg; omega) (fun w19 => ?_) (fun w20 => ?_)
    · refine l_iconst rfl ?_
      refine l_ireturn rfl rfl ?_
      exact ⟨rfl, _, rfl, ⟨by omega, by omega⟩⟩
    · refine l_iload_n rfl rfl ?_
      refine l_sipush rfl rfl ?_
      refine l_iand255 rfl (by unfold rg; omega) ?_
      have w22 := fb11 hH (lx (z := z12) (by assumption) (by omega) (by omega))
      refine l_goto rfl rfl ?_
      refine l_ireturn rfl rfl ?_
      exact ⟨rfl, _, rfl, ⟨by omega, by omega⟩⟩
abbrev Q_re_canHold (S : sS) (o : Int) (how : Int) : pst := fun r S1 => S = S1 ∧ (∃ z : Int, r = some (iv z) ∧ (0 ≤ z ∧ z ≤ 1))
set_option maxRecDepth 100000 in
theorem t_re_canHold {S : sS} (hH : HI S) (o : Int) (how : Int) (ho : 0 ≤ o ∧ o ≤ 23) (hhow : -2147483648 ≤ how ∧ how ≤ 2147483647) (d : Nat) : Mt lay0 (d + 3) m_re_canHold [.ref 891, iv o, iv how] S (Q_re_canHold S o how) := by
  refine Mt_R rfl rfl ?_
  refine l_iload_n rfl rfl ?_
  refine l_tsw rfl rfl rfl rfl (by unfold rg; omega) (fun w1 => ?_) (fun ii tt hii w1 => ?_)
  · refine l_aload_n rfl rfl ?_
    refine l_gfr rfl rfl rfl rfl rfl (hH.r 891 3 20 rfl) ?_
    refine l_iload_n rfl rfl ?_
    refine l_iconst rfl ?_
    refine l_callV rfl rfl rfl (t_wo_isA hH o 4 ⟨by omega, by omega⟩ ⟨by omega, by omega⟩ _) ?_
    rintro _ _ ⟨rfl, z3, rfl, w3, w2⟩
    show Rl _ _ _ _ _ [iv z3] _ _
    refine l_ireturn rfl (retI_z (by omega)) ?_
    exact ⟨rfl, _, rfl, ⟨by omega, by omega⟩⟩
  · match ii, hii with
    | 0, hii =>
      cases hii
      have w4 : how = 1 := by simpa using w1
      refine l_aload_n rfl rfl ?_
      refine l_gfr rfl rfl rfl rfl rfl (hH.r 891 3 20 rfl) ?_
      refine l_iload_n rfl rfl ?_
      refine l_iconst rfl ?_
      refine l_callV rfl rfl rfl (t_wo_isA hH o 2 ⟨by omega, by omega⟩ ⟨by omega, by omega⟩ _) ?_
      rintro _ _ ⟨rfl, z6, rfl, w6, w5⟩
      show Rl _ _ _ _ _ [iv z6] _ _
      refine l_if_ne rfl rfl (by unfold rg; omega) (fun w7 => ?_) (fun w8 => ?_)
      · refine l_iconst rfl ?_
        refine l_goto rfl rfl ?_
        refine l_ireturn rfl rfl ?_
        exact ⟨rfl, _, rfl, ⟨by omega, by omega⟩⟩
      · refine l_aload_n rfl rfl ?_
        refine l_gfr rfl rfl rfl rfl rfl (hH.r 891 3 20 rfl) ?_
        refine l_iload_n rfl rfl ?_
        refine l_iconst rfl ?_
        refine l_callV rfl rfl rfl (t_wo_isA hH o 1 ⟨by omega, by omega⟩ ⟨by omega, by omega⟩ _) ?_
        rintro _ _ ⟨rfl, z10, rfl, w10, w9⟩
        show Rl _ _ _ _ _ [iv z10] _ _
        refine l_if_eq rfl rfl (by unfold rg; omega) (fun w11 => ?_) (fun w12 => ?_)
        · refine l_iconst rfl ?_
          refine l_ireturn rfl rfl ?_
          exact ⟨rfl, _, rfl, ⟨by omega, by omega⟩⟩
        · refine l_iconst rfl ?_
          refine l_goto rfl rfl ?_
          refine l_ireturn rfl rfl ?_
          exact ⟨rfl, _, rfl, ⟨by omega, by omega⟩⟩
    | 1, hii =>
      cases hii
      have w13 : how = 2 := by simpa using w1
      refine l_aload_n rfl rfl ?_
      refine l_gfr rfl rfl rfl rfl rfl (hH.r 891 3 20 rfl) ?_
      refine l_iload_n rfl rfl ?_
      refine l_iconst rfl ?_
      refine l_callV rfl rfl rfl (t_wo_isA hH o 3 ⟨by omega, by omega⟩ ⟨by omega, by omega⟩ _) ?_
      rintro _ _ ⟨rfl, z15, rfl, w15, w14⟩
      show Rl _ _ _ _ _ [iv z15] _ _
      refine l_ireturn rfl (retI_z (by omega)) ?_
      exact ⟨rfl, _, rfl, ⟨by omega, by omega⟩⟩
    | 2, hii =>
      cases hii
      have w16 : how = 3 := by simpa using w1
      refine l_aload_n rfl rfl ?_
      refine l_gfr rfl rfl rfl rfl rfl (hH.r 891 3 20 rfl) ?_
      refine l_iload_n rfl rfl ?_
      refine l_iconst rfl ?_
      refine l_callV rfl rfl rfl (t_wo_isA hH o 0 ⟨by omega, by omega⟩ ⟨by omega, by omega⟩ _) ?_
      rintro _ _ ⟨rfl, z18, rfl, w18, w17⟩
      show Rl _ _ _ _ _ [iv z18] _ _
      refine l_ireturn rfl (retI_z (by omega)) ?_
      exact ⟨rfl, _, rfl, ⟨by omega, by omega⟩⟩
    | n + 3, hii => exact absurd hii (by simp)
def md_re_takePlace : List rec := [(876, 877, 8, 9), (876, 877, 9, 10), (891, 892, 11, 12), (891, 892, 12, 13)]
abbrev Q_re_takePlace (S : sS) (at_ : Int) : pst := fun r S1 => HI S1 ∧ FR md_re_takePlace S S1 ∧ (∃ z : Int, r = some (iv z) ∧ (0 ≤ z ∧ z ≤ 1) ∧ (z = 1 → 0 ≤ Xi S1 891 12 ∧ 1 ≤ Xi S1 891 11))
set_option maxRecDepth 100000 in
theorem t_re_takePlace {S : sS} (hH : HI S) (at_ : Int) (hat_ : 0 ≤ at_ ∧ at_ ≤ 5140) (hL : LEX S) (d : Nat) : Mt lay0 (d + 4) m_re_takePlace [.ref 891, iv at_] S (Q_re_takePlace S at_) := by
  refine Mt_R rfl rfl ?_
  have hF : FR md_re_takePlace S S := FR.rf
  have C90 : ∀  (T1 : sS) (_ : HI T1) (_ : FR md_re_takePlace S T1) (v3 : Int), (-2147483648 ≤ v3 ∧ v3 ≤ 2147483647) → Rl lay0 (d + 3) m_re_takePlace 90 [(0, .ref 891), (3, iv v3)] [] T1 (Q_re_takePlace S at_) := by
    intro T1 hHT1 hFT1 v3 w1
    have w2 : Xi T1 876 7 = Xi S 876 7 := hFT1.x _ _ rfl
    refine l_aload_n rfl rfl ?_
    refine l_gfr rfl rfl rfl rfl rfl (hHT1.r 891 0 876 rfl) ?_
    refine l_iconst rfl ?_
    refine l_iload_n rfl rfl ?_
    refine l_callV rfl rfl rfl (t_to_wrong hHT1 4 v3 ⟨by omega, by omega⟩ ⟨by omega, by omega⟩ _) ?_
    rintro _ T2 ⟨hHT2, w6, z5, rfl, w5, w3, w4⟩
    have hFT2 : FR md_re_takePlace S T2 := FR.tr hFT1 w6 rfl
    show Rl _ _ _ _ _ [iv z5] _ _
    refine l_if_eq rfl rfl (by unfold rg; omega) (fun w7 => ?_) (fun w8 => ?_)
    · refine l_iconst rfl ?_
      refine l_ireturn rfl rfl ?_
      have w9 : Xi T2 891 11 = Xi T1 891 11 := (show Xi T2 891 11 = Xi T1 891 11 from w6.x _ _ rfl)
      have w10 : 0 ≤ Xi T1 891 11 ∧ Xi T1 891 11 ≤ 5 := hHT1.c _ _
      have w11 : Xi T2 891 12 = Xi T1 891 12 := (show Xi T2 891 12 = Xi T1 891 12 from w6.x _ _ rfl)
      have w12 : -1 ≤ Xi T1 891 12 ∧ Xi T1 891 12 ≤ 23 := hHT1.c _ _
      exact ⟨hHT2, hFT2, _, rfl, ⟨by omega, by omega⟩, (by first | assumption | omega)⟩
    · refine l_iconst rfl ?_
      refine l_goto rfl rfl ?_
      refine l_ireturn rfl rfl ?_
      have w13 : Xi T2 891 11 = Xi T1 891 11 := (show Xi T2 891 11 = Xi T1 891 11 from w6.x _ _ rfl)
      have w14 : 0 ≤ Xi T1 891 11 ∧ Xi T1 891 11 ≤ 5 := hHT1.c _ _
      have w15 : Xi T2 891 12 = Xi T1 891 12 := (show Xi T2 891 12 = Xi T1 891 12 from w6.x _ _ rfl)
      have w16 : -1 ≤ Xi T1 891 12 ∧ Xi T1 891 12 ≤ 23 := hHT1.c _ _
      exact ⟨hHT2, hFT2, _, rfl, ⟨by omega, by omega⟩, (by first | assumption | omega)⟩
  refine l_aload_n rfl rfl ?_
  refine l_gfr rfl rfl rfl rfl rfl (hH.r 891 0 876 rfl) ?_
  refine l_iload_n rfl rfl ?_
  have w17 : 0 ≤ Xi S 876 7 ∧ Xi S 876 7 ≤ 5125 := hH.c _ _
  refine l_callV rfl rfl rfl (t_to_typeAt hH at_ ⟨by omega, by omega⟩ _) ?_
  rintro _ _ ⟨rfl, z19, rfl, w19, w18⟩
  show Rl _ _ _ _ _ [iv z19] _ _
  refine l_istore_n rfl rfl rfl ?_
  refine l_aload_n rfl rfl ?_
  refine l_gfr rfl rfl rfl rfl rfl (hH.r 891 0 876 rfl) ?_
  refine l_iload_n rfl rfl ?_
  refine l_bipush rfl rfl ?_
  refine l_icmp_eq rfl rfl (by unfold rg; omega) (by unfold rg; omega) (fun w20 => ?_) (fun w21 => ?_)
  · refine l_iload_n rfl rfl ?_
    refine l_iconst rfl ?_
    refine l_iadd rfl ?_
    refine l_goto rfl rfl ?_
    have w22 : 0 ≤ Xi S 876 7 ∧ Xi S 876 7 ≤ 5125 := hH.c _ _
    refine l_callV rfl rfl rfl (t_to_behindArt hH (at_ + 1) ⟨by omega, by omega⟩ _) ?_
    rintro _ _ ⟨rfl, z24, rfl, w24, w23⟩
    show Rl _ _ _ _ _ [iv z24] _ _
    refine l_istore_n rfl rfl rfl ?_
    refine l_aload_n rfl rfl ?_
    refine l_iload_n rfl rfl ?_
    refine l_callS rfl rfl (by decide) rfl (t_rr_wayOf hH z19 ⟨by omega, by omega⟩ _) ?_
    rintro _ _ ⟨rfl, z25, rfl, w25⟩
    show Rl _ _ _ _ _ [iv z25, .ref 891] _ _
    refine l_pfi rfl rfl rfl rfl ?_
    obtain ⟨U3, eU3⟩ : ∃ T : sS, T = uI S 891 11 (Int32.ofInt z25) := ⟨_, rfl⟩
    rw [← eU3]
    have hHU3 : HI U3 := by rw [eU3]; exact HI_w hH (show 0 ≤ z25 by omega) (show z25 ≤ 5 by omega)
    have hFU3 : FR md_re_takePlace S U3 := by rw [eU3]; exact FR.wI hF (mdf_i (r := (891, 892, 11, 12)) (List.mem_of_getElem? (i := 2) rfl) (inR_i (by omega) (by omega) (by omega) (by omega)))
    have w26 : Xi U3 891 11 = z25 := by rw [eU3]; exact Xi_same (by unfold rg; omega)
    refine l_aload_n rfl rfl ?_
    refine l_aload_n rfl rfl ?_
    refine l_gfr rfl rfl rfl rfl rfl (hHU3.r 891 4 895 rfl) ?_
    refine l_iconst rfl ?_
    refine l_iload_n rfl rfl ?_
    refine l_aload_n rfl rfl ?_
    refine l_gfr rfl rfl rfl rfl rfl (hHU3.r 891 0 876 rfl) ?_
    refine l_iload_n rfl rfl ?_
    have w27 : Xi U3 876 7 = Xi S 876 7 := (show Xi U3 876 7 = Xi S 876 7 from by rw [eU3]; exact Xi_ne (by omega))
    have w28 : 0 ≤ Xi S 876 7 ∧ Xi S 876 7 ≤ 5125 := hH.c _ _
    refine l_callV rfl rfl rfl (t_to_runEnd hHU3 z24 ⟨by omega, by omega⟩ _) ?_
    rintro _ _ ⟨rfl, z35, rfl, w35, w29, w30, w31, w32, w33, w34⟩
    show Rl _ _ _ _ _ [iv z35, iv z24, iv 2, .ref 895, .ref 891] _ _
    refine l_callV rfl rfl rfl (t_me_find hHU3 2 z24 z35 ⟨by omega, by omega⟩ ⟨by omega, by omega⟩ ⟨by omega, by omega⟩ (by first | assumption | exact (LEX_FR hFU3 rfl rfl (by assumption : LEX S))) _) ?_
    rintro _ _ ⟨rfl, z38, rfl, w38, w36, w37⟩
    have w39 : z38 ≠ -1 → _ := fun h => fb2 hHU3 (w36 h)
    show Rl _ _ _ _ _ [iv z38, .ref 891] _ _
    refine l_pfi rfl rfl rfl rfl ?_
    obtain ⟨U4, eU4⟩ : ∃ T : sS, T = uI U3 891 12 (Int32.ofInt z38) := ⟨_, rfl⟩
    rw [← eU4]
    have hHU4 : HI U4 := by rw [eU4]; exact HI_w hHU3 (show -1 ≤ z38 by omega) (show z38 ≤ 23 by omega)
    have hFU4 : FR md_re_takePlace S U4 := by rw [eU4]; exact FR.wI hFU3 (mdf_i (r := (891, 892, 12, 13)) (List.mem_of_getElem? (i := 3) rfl) (inR_i (by omega) (by omega) (by omega) (by omega)))
    have w40 : Xi U4 891 12 = z38 := by rw [eU4]; exact Xi_same (by unfold rg; omega)
    refine l_aload_n rfl rfl ?_
    refine l_gfi rfl rfl rfl rfl rfl ?_
    refine l_iconst rfl ?_
    refine l_icmp_eq rfl rfl (by unfold rg; omega) (by unfold rg; omega) (fun w41 => ?_) (fun w42 => ?_)
    · exact Rl_weak (C90 U4 hHU4 hFU4 (z24) (by omega)) (And.intro rfl (And.intro rfl (True.intro)))
    · refine l_aload_n rfl rfl ?_
      refine l_aload_n rfl rfl ?_
      refine l_gfi rfl rfl rfl rfl rfl ?_
      refine l_aload_n rfl rfl ?_
      refine l_gfi rfl rfl rfl rfl rfl ?_
      have w43 : (Xi U4 891 11) = (Xi U3 891 11) := (show Xi U4 891 11 = Xi U3 891 11 from by rw [eU4]; exact Xi_ne (by omega))
      rw [w43]
      refine l_callV rfl rfl rfl (t_re_canHold hHU4 (Xi U4 891 12) (Xi U3 891 11) ⟨by omega, by omega⟩ ⟨by omega, by omega⟩ _) ?_
      rintro _ _ ⟨rfl, z44, rfl, w44⟩
      show Rl _ _ _ _ _ [iv z44] _ _
      refine l_if_ne rfl rfl (by unfold rg; omega) (fun w45 => ?_) (fun w46 => ?_)
      · refine l_iconst rfl ?_
        refine l_goto rfl rfl ?_
        refine l_ireturn rfl rfl ?_
        have w47 : Xi U4 891 11 = Xi U3 891 11 := (show Xi U4 891 11 = Xi U3 891 11 from by rw [eU4]; exact Xi_ne (by omega))
        have w48 : 0 ≤ Xi U3 891 11 ∧ Xi U3 891 11 ≤ 5 := hHU3.c _ _
        have w49 : -1 ≤ Xi U4 891 12 ∧ Xi U4 891 12 ≤ 23 := hHU4.c _ _
        exact ⟨hHU4, hFU4, _, rfl, ⟨by omega, by omega⟩, (by first | assumption | omega)⟩
      · exact Rl_weak (C90 U4 hHU4 hFU4 (z24) (by omega)) (And.intro rfl (And.intro rfl (True.intro)))
  · refine l_iload_n rfl rfl ?_
    refine l_bipush rfl rfl ?_
    refine l_icmp_ne rfl rfl (by unfold rg; omega) (by unfold rg; omega) (fun w50 => ?_) (fun w51 => ?_)
    · refine l_iload_n rfl rfl ?_
      refine l_iconst rfl ?_
      refine l_iadd rfl ?_
      have w52 : 0 ≤ Xi S 876 7 ∧ Xi S 876 7 ≤ 5125 := hH.c _ _
      refine l_callV rfl rfl rfl (t_to_behindArt hH (at_ + 2) ⟨by omega, by omega⟩ _) ?_
      rintro _ _ ⟨rfl, z54, rfl, w54, w53⟩
      show Rl _ _ _ _ _ [iv z54] _ _
      refine l_istore_n rfl rfl rfl ?_
      refine l_aload_n rfl rfl ?_
      refine l_iload_n rfl rfl ?_
      refine l_callS rfl rfl (by decide) rfl (t_rr_wayOf hH z19 ⟨by omega, by omega⟩ _) ?_
      rintro _ _ ⟨rfl, z55, rfl, w55⟩
      show Rl _ _ _ _ _ [iv z55, .ref 891] _ _
      refine l_pfi rfl rfl rfl rfl ?_
      obtain ⟨U5, eU5⟩ : ∃ T : sS, T = uI S 891 11 (Int32.ofInt z55) := ⟨_, rfl⟩
      rw [← eU5]
      have hHU5 : HI U5 := by rw [eU5]; exact HI_w hH (show 0 ≤ z55 by omega) (show z55 ≤ 5 by omega)
      have hFU5 : FR md_re_takePlace S U5 := by rw [eU5]; exact FR.wI hF (mdf_i (r := (891, 892, 11, 12)) (List.mem_of_getElem? (i := 2) rfl) (inR_i (by omega) (by omega) (by omega) (by omega)))
      have w56 : Xi U5 891 11 = z55 := by rw [eU5]; exact Xi_same (by unfold rg; omega)
      refine l_aload_n rfl rfl ?_
      refine l_aload_n rfl rfl ?_
      refine l_gfr rfl rfl rfl rfl rfl (hHU5.r 891 4 895 rfl) ?_
      refine l_iconst rfl ?_
      refine l_iload_n rfl rfl ?_
      refine l_aload_n rfl rfl ?_
      refine l_gfr rfl rfl rfl rfl rfl (hHU5.r 891 0 876 rfl) ?_
      refine l_iload_n rfl rfl ?_
      have w57 : Xi U5 876 7 = Xi S 876 7 := (show Xi U5 876 7 = Xi S 876 7 from by rw [eU5]; exact Xi_ne (by omega))
      have w58 : 0 ≤ Xi S 876 7 ∧ Xi S 876 7 ≤ 5125 := hH.c _ _
      refine l_callV rfl rfl rfl (t_to_runEnd hHU5 z54 ⟨by omega, by omega⟩ _) ?_
      rintro _ _ ⟨rfl, z65, rfl, w65, w59, w60, w61, w62, w63, w64⟩
      show Rl _ _ _ _ _ [iv z65, iv z54, iv 2, .ref 895, .ref 891] _ _
      refine l_callV rfl rfl rfl (t_me_find hHU5 2 z54 z65 ⟨by omega, by omega⟩ ⟨by omega, by omega⟩ ⟨by omega, by omega⟩ (by first | assumption | exact (LEX_FR hFU5 rfl rfl (by assumption : LEX S))) _) ?_
      rintro _ _ ⟨rfl, z68, rfl, w68, w66, w67⟩
      have w69 : z68 ≠ -1 → _ := fun h => fb2 hHU5 (w66 h)
      show Rl _ _ _ _ _ [iv z68, .ref 891] _ _
      refine l_pfi rfl rfl rfl rfl ?_
      obtain ⟨U6, eU6⟩ : ∃ T : sS, T = uI U5 891 12 (Int32.ofInt z68) := ⟨_, rfl⟩
      rw [← eU6]
      have hHU6 : HI U6 := by rw [eU6]; exact HI_w hHU5 (show -1 ≤ z68 by omega) (show z68 ≤ 23 by omega)
      have hFU6 : FR md_re_takePlace S U6 := by rw [eU6]; exact FR.wI hFU5 (mdf_i (r := (891, 892, 12, 13)) (List.mem_of_getElem? (i := 3) rfl) (inR_i (by omega) (by omega) (by omega) (by omega)))
      have w70 : Xi U6 891 12 = z68 := by rw [eU6]; exact Xi_same (by unfold rg; omega)
      refine l_aload_n rfl rfl ?_
      refine l_gfi rfl rfl rfl rfl rfl ?_
      refine l_iconst rfl ?_
      refine l_icmp_eq rfl rfl (by unfold rg; omega) (by unfold rg; omega) (fun w71 => ?_) (fun w72 => ?_)
      · exact Rl_weak (C90 U6 hHU6 hFU6 (z54) (by omega)) (And.intro rfl (And.intro rfl (True.intro)))
      · refine l_aload_n rfl rfl ?_
        refine l_aload_n rfl rfl ?_
        refine l_gfi rfl rfl rfl rfl rfl ?_
        refine l_aload_n rfl rfl ?_
        refine l_gfi rfl rfl rfl rfl rfl ?_
        have w73 : (Xi U6 891 11) = (Xi U5 891 11) := (show Xi U6 891 11 = Xi U5 891 11 from by rw [eU6]; exact Xi_ne (by omega))
        rw [w73]
        refine l_callV rfl rfl rfl (t_re_canHold hHU6 (Xi U6 891 12) (Xi U5 891 11) ⟨by omega, by omega⟩ ⟨by omega, by omega⟩ _) ?_
        rintro _ _ ⟨rfl, z74, rfl, w74⟩
        show Rl _ _ _ _ _ [iv z74] _ _
        refine l_if_ne rfl rfl (by unfold rg; omega) (fun w75 => ?_) (fun w76 => ?_)
        · refine l_iconst rfl ?_
          refine l_goto rfl rfl ?_
          refine l_ireturn rfl rfl ?_
          have w77 : Xi U6 891 11 = Xi U5 891 11 := (show Xi U6 891 11 = Xi U5 891 11 from by rw [eU6]; exact Xi_ne (by omega))
          have w78 : 0 ≤ Xi U5 891 11 ∧ Xi U5 891 11 ≤ 5 := hHU5.c _ _
          have w79 : -1 ≤ Xi U6 891 12 ∧ Xi U6 891 12 ≤ 23 := hHU6.c _ _
          exact ⟨hHU6, hFU6, _, rfl, ⟨by omega, by omega⟩, (by first | assumption | omega)⟩
        · exact Rl_weak (C90 U6 hHU6 hFU6 (z54) (by omega)) (And.intro rfl (And.intro rfl (True.intro)))
    · refine l_iload_n rfl rfl ?_
      refine l_iconst rfl ?_
      refine l_iadd rfl ?_
      refine l_goto rfl rfl ?_
      have w80 : 0 ≤ Xi S 876 7 ∧ Xi S 876 7 ≤ 5125 := hH.c _ _
      refine l_callV rfl rfl rfl (t_to_behindArt hH (at_ + 1) ⟨by omega, by omega⟩ _) ?_
      rintro _ _ ⟨rfl, z82, rfl, w82, w81⟩
      show Rl _ _ _ _ _ [iv z82] _ _
      refine l_istore_n rfl rfl rfl ?_
      refine l_aload_n rfl rfl ?_
      refine l_iload_n rfl rfl ?_
      refine l_callS rfl rfl (by decide) rfl (t_rr_wayOf hH z19 ⟨by omega, by omega⟩ _) ?_
      rintro _ _ ⟨rfl, z83, rfl, w83⟩
      show Rl _ _ _ _ _ [iv z83, .ref 891] _ _
      refine l_pfi rfl rfl rfl rfl ?_
      obtain ⟨U7, eU7⟩ : ∃ T : sS, T = uI S 891 11 (Int32.ofInt z83) := ⟨_, rfl⟩
      rw [← eU7]
      have hHU7 : HI U7 := by rw [eU7]; exact HI_w hH (show 0 ≤ z83 by omega) (show z83 ≤ 5 by omega)
      have hFU7 : FR md_re_takePlace S U7 := by rw [eU7]; exact FR.wI hF (mdf_i (r := (891, 892, 11, 12)) (List.mem_of_getElem? (i := 2) rfl) (inR_i (by omega) (by omega) (by omega) (by omega)))
      have w84 : Xi U7 891 11 = z83 := by rw [eU7]; exact Xi_same (by unfold rg; omega)
      refine l_aload_n rfl rfl ?_
      refine l_aload_n rfl rfl ?_
      refine l_gfr rfl rfl rfl rfl rfl (hHU7.r 891 4 895 rfl) ?_
      refine l_iconst rfl ?_
      refine l_iload_n rfl rfl ?_
      refine l_aload_n rfl rfl ?_
      refine l_gfr rfl rfl rfl rfl rfl (hHU7.r 891 0 876 rfl) ?_
      refine l_iload_n rfl rfl ?_
      have w85 : Xi U7 876 7 = Xi S 876 7 := (show Xi U7 876 7 = Xi S 876 7 from by rw [eU7]; exact Xi_ne (by omega))
      have w86 : 0 ≤ Xi S 876 7 ∧ Xi S 876 7 ≤ 5125 := hH.c _ _
      refine l_callV rfl rfl rfl (t_to_runEnd hHU7 z82 ⟨by omega, by omega⟩ _) ?_
      rintro _ _ ⟨rfl, z93, rfl, w93, w87, w88, w89, w90, w91, w92⟩
      show Rl _ _ _ _ _ [iv z93, iv z82, iv 2, .ref 895, .ref 891] _ _
      refine l_callV rfl rfl rfl (t_me_find hHU7 2 z82 z93 ⟨by omega, by omega⟩ ⟨by omega, by omega⟩ ⟨by omega, by omega⟩ (by first | assumption | exact (LEX_FR hFU7 rfl rfl (by assumption : LEX S))) _) ?_
      rintro _ _ ⟨rfl, z96, rfl, w96, w94, w95⟩
      have w97 : z96 ≠ -1 → _ := fun h => fb2 hHU7 (w94 h)
      show Rl _ _ _ _ _ [iv z96, .ref 891] _ _
      refine l_pfi rfl rfl rfl rfl ?_
      obtain ⟨U8, eU8⟩ : ∃ T : sS, T = uI U7 891 12 (Int32.ofInt z96) := ⟨_, rfl⟩
      rw [← eU8]
      have hHU8 : HI U8 := by rw [eU8]; exact HI_w hHU7 (show -1 ≤ z96 by omega) (show z96 ≤ 23 by omega)
      have hFU8 : FR md_re_takePlace S U8 := by rw [eU8]; exact FR.wI hFU7 (mdf_i (r := (891, 892, 12, 13)) (List.mem_of_getElem? (i := 3) rfl) (inR_i (by omega) (by omega) (by omega) (by omega)))
      have w98 : Xi U8 891 12 = z96 := by rw [eU8]; exact Xi_same (by unfold rg; omega)
      refine l_aload_n rfl rfl ?_
      refine l_gfi rfl rfl rfl rfl rfl ?_
      refine l_iconst rfl ?_
      refine l_icmp_eq rfl rfl (by unfold rg; omega) (by unfold rg; omega) (fun w99 => ?_) (fun w100 => ?_)
      · exact Rl_weak (C90 U8 hHU8 hFU8 (z82) (by omega)) (And.intro rfl (And.intro rfl (True.intro)))
      · refine l_aload_n rfl rfl ?_
        refine l_aload_n rfl rfl ?_
        refine l_gfi rfl rfl rfl rfl rfl ?_
        refine l_aload_n rfl rfl ?_
        refine l_gfi rfl rfl rfl rfl rfl ?_
        have w101 : (Xi U8 891 11) = (Xi U7 891 11) := (show Xi U8 891 11 = Xi U7 891 11 from by rw [eU8]; exact Xi_ne (by omega))
        rw [w101]
        refine l_callV rfl rfl rfl (t_re_canHold hHU8 (Xi U8 891 12) (Xi U7 891 11) ⟨by omega, by omega⟩ ⟨by omega, by omega⟩ _) ?_
        rintro _ _ ⟨rfl, z102, rfl, w102⟩
        show Rl _ _ _ _ _ [iv z102] _ _
        refine l_if_ne rfl rfl (by unfold rg; omega) (fun w103 => ?_) (fun w104 => ?_)
        · refine l_iconst rfl ?_
          refine l_goto rfl rfl ?_
          refine l_ireturn rfl rfl ?_
          have w105 : Xi U8 891 11 = Xi U7 891 11 := (show Xi U8 891 11 = Xi U7 891 11 from by rw [eU8]; exact Xi_ne (by omega))
          have w106 : 0 ≤ Xi U7 891 11 ∧ Xi U7 891 11 ≤ 5 := hHU7.c _ _
          have w107 : -1 ≤ Xi U8 891 12 ∧ Xi U8 891 12 ≤ 23 := hHU8.c _ _
          exact ⟨hHU8, hFU8, _, rfl, ⟨by omega, by omega⟩, (by first | assumption | omega)⟩
        · exact Rl_weak (C90 U8 hHU8 hFU8 (z82) (by omega)) (And.intro rfl (And.intro rfl (True.intro)))
