/-! SAFETY of methods: printed by wip/safe (vc.py, decl.py) -/
def md_mo_cut : List rec := [(907, 908, 0, 100000), (908, 909, 0, 100000), (909, 910, 0, 100000), (910, 911, 0, 100000)]
abbrev Q_mo_cut (S : sS) : pst := fun r S1 => HI S1 ∧ FR md_mo_cut S S1 ∧ (r = none ∧ (∃ n : Nat, TK S1 n ∧ TXK S1 n))
set_option maxRecDepth 100000 in
set_option maxHeartbeats 4000000 in
theorem t_mo_cut {S : sS} (hH : HI S) (hK : KWM S) (d : Nat) : Mt lay0 (d + 4) m_mo_cut [.ref 904] S (Q_mo_cut S) := by
  refine Mt_R rfl rfl ?_
  have hF : FR md_mo_cut S S := FR.rf
  have w1 : 0 ≤ Xi S 904 3 ∧ Xi S 904 3 ≤ 5000 := hH.c _ _
  have hst : 0 ≤ Xi S 904 3 ∧ Xi S 904 3 ≤ 5000 := hH.c _ _
  have C8 : ∀ (n8 : Nat) (T1 : sS) (_ : HI T1) (_ : FR md_mo_cut S T1) (v1 : Int) (v2 : Int), (0 ≤ v1 ∧ v1 ≤ 5000) → (0 ≤ v2 ∧ v2 ≤ 5001) → (CT T1 v1 v2) → (CT T1 v1 (Xi S 904 3)) → (v1 ≤ v2) → (v1 ≤ Xi S 904 3) → (Xi T1 904 3 = Xi S 904 3) → n8 = (5002 - v2).toNat → Rl lay0 (d + 3) m_mo_cut 8 [(0, .ref 904), (1, iv v1), (2, iv v2)] [] T1 (Q_mo_cut S) := by
    intro n8
    induction n8 using Nat.strongRecOn with
    | ind n8 ih8 =>
      intro T1 hHT1 hFT1 v1 v2 w2 w3 C8 D8 w4 w5 w6 hm8
      have w7 : Xi T1 904 3 = Xi S 904 3 := hFT1.x _ _ rfl
      have w8 : 0 ≤ Xi T1 904 3 ∧ Xi T1 904 3 ≤ 5000 := hHT1.c _ _
      have C426 : ∀  (T2 : sS) (_ : HI T2) (_ : FR md_mo_cut S T2) (v1 : Int) (v4 : Int), (0 ≤ v1 ∧ v1 ≤ 5000) → (0 ≤ v4 ∧ v4 ≤ 5001) → (CT T2 v1 (Xi T2 908 (v1).toNat)) → (v1 ≤ Xi T2 908 (v1).toNat) → (Xi T2 908 (v1).toNat < Xi S 904 3) → (Xi T2 904 3 = Xi S 904 3) → (Xi T2 908 (v1).toNat < v4) → (v4 ≤ Xi S 904 3 + 1) → (Xi T2 907 (v1).toNat ≠ 1) → (Xi T2 907 (v1).toNat = 5 → Xi T2 908 (v1).toNat + 1 + Xi T2 909 (v1).toNat ≤ 5000) → (K3 (Xi T2 907 (v1).toNat) → Xi T2 908 (v1).toNat + 3 ≤ v4 ∧ Xi T2 908 (v1).toNat + 3 ≤ Xi S 904 3) → ((5002 - Xi T2 908 (v1).toNat).toNat ≤ n8) → Rl lay0 (d + 3) m_mo_cut 426 [(0, .ref 904), (1, iv v1), (4, iv v4)] [] T2 (Q_mo_cut S) := by
        intro T2 hHT2 hFT2 v1 v4 w9 w10 C426 w11 w12 w13 w14 w15 w16 w17 K426 w18
        have w19 : Xi T2 904 3 = Xi S 904 3 := hFT2.x _ _ rfl
        have w20 : 0 ≤ Xi T2 904 3 ∧ Xi T2 904 3 ≤ 5000 := hHT2.c _ _
        refine l_iinc rfl rfl rfl rfl ?_
        refine l_aload_n rfl rfl ?_
        refine l_iload rfl rfl ?_
        have w21 : 0 ≤ Xi T2 904 3 ∧ Xi T2 904 3 ≤ 5000 := hHT2.c _ _
        refine l_callV rfl rfl rfl (t_mo_blanks hHT2 v4 ⟨by omega, by omega⟩ _) ?_
        rintro _ _ ⟨rfl, z24, rfl, w24, w22, w23⟩
        show Rl _ _ _ _ _ [iv z24] _ _
        refine l_istore_n rfl rfl rfl ?_
        refine l_goto rfl rfl ?_
        have w25 : 0 ≤ Xi T2 904 3 ∧ Xi T2 904 3 ≤ 5000 := hHT2.c _ _
        exact Rl_weak (ih8 _ (by omega) T2 hHT2 hFT2 ((v1 + 1)) (z24) (by omega) (by omega) (by first | exact CT.rf | exact C426.add (by omega) (by omega) (by omega) (by omega) (by omega) (fun q => by have := K426 q; omega)) (by first | exact CT.rf | exact C426.add (by omega) (by omega) (by omega) (by omega) (by omega) (fun q => by have := K426 q; omega)) (by omega) (by omega) (by omega) rfl) (And.intro rfl (And.intro rfl (And.intro rfl (True.intro))))
      have C58 : ∀ (n58 : Nat) (T3 : sS) (_ : HI T3) (_ : FR md_mo_cut S T3) (v1 : Int) (v2 : Int) (v4 : Int), (0 ≤ v1 ∧ v1 ≤ 5000) → (0 ≤ v2 ∧ v2 ≤ 4999) → (1 ≤ v4 ∧ v4 ≤ 5000) → (CT T3 v1 v2) → (v1 ≤ v2) → (v2 < Xi S 904 3) → (Xi T3 904 3 = Xi S 904 3) → (v2 < v4) → (v4 ≤ Xi S 904 3) → (Xi T3 908 (v1).toNat = v2) → (∀ i : Nat, v2 ≤ (i : Int) → (i : Int) < v4 → ltr (Xi S 906 i) = 1) → ((5002 - v2).toNat ≤ n8) → n58 = (5002 - v4).toNat → Rl lay0 (d + 3) m_mo_cut 58 [(0, .ref 904), (1, iv v1), (2, iv v2), (4, iv v4)] [] T3 (Q_mo_cut S) := by
        intro n58
        induction n58 using Nat.strongRecOn with
        | ind n58 ih58 =>
          intro T3 hHT3 hFT3 v1 v2 v4 w26 w27 w28 C58 w29 w30 w31 w32 w33 w34 L58 w35 hm58
          have w36 : Xi T3 904 3 = Xi S 904 3 := hFT3.x _ _ rfl
          have w37 : 0 ≤ Xi T3 904 3 ∧ Xi T3 904 3 ≤ 5000 := hHT3.c _ _
          have C86 : ∀  (T4 : sS) (_ : HI T4) (_ : FR md_mo_cut S T4) (v1 : Int) (v2 : Int) (v4 : Int), (0 ≤ v1 ∧ v1 ≤ 5000) → (0 ≤ v2 ∧ v2 ≤ 4999) → (1 ≤ v4 ∧ v4 ≤ 5000) → (CT T4 v1 v2) → (v1 ≤ v2) → (v2 < Xi S 904 3) → (Xi T4 904 3 = Xi S 904 3) → (v2 < v4) → (v4 ≤ Xi S 904 3) → (Xi T4 908 (v1).toNat = v2) → (∀ i : Nat, v2 ≤ (i : Int) → (i : Int) < v4 → ltr (Xi S 906 i) = 1) → ((5002 - v2).toNat ≤ n8) → Rl lay0 (d + 3) m_mo_cut 86 [(0, .ref 904), (1, iv v1), (2, iv v2), (4, iv v4)] [] T4 (Q_mo_cut S) := by
            intro T4 hHT4 hFT4 v1 v2 v4 w38 w39 w40 C86 w41 w42 w43 w44 w45 w46 L86 w47
            have w48 : Xi T4 904 3 = Xi S 904 3 := hFT4.x _ _ rfl
            have w49 : 0 ≤ Xi T4 904 3 ∧ Xi T4 904 3 ≤ 5000 := hHT4.c _ _
            refine l_iload rfl rfl ?_
            refine l_iload_n rfl rfl ?_
            refine l_isub rfl ?_
            refine l_bipush rfl rfl ?_
            refine l_icmp_gt rfl rfl (by unfold rg; omega) (by unfold rg; omega) (fun w50 => ?_) (fun w51 => ?_)
            · refine l_iconst rfl ?_
              refine l_istore rfl rfl rfl ?_
              refine l_aload_n rfl rfl ?_
              refine l_gfr rfl rfl rfl rfl rfl (hHT4.r 904 7 910 rfl) ?_
              refine l_iload_n rfl rfl ?_
              refine l_iload rfl rfl ?_
              refine l_if_eq rfl rfl (by unfold rg; omega) (fun w52 => ?_) (fun w53 => absurd w53 (by omega))
              · refine l_lconst (z := 0) rfl rfl ?_
                refine l_lastore (n := 5002) rfl rfl (by omega) (by omega) (by unfold rg; omega) ?_
                obtain ⟨U5, eU5⟩ : ∃ T : sS, T = uJ T4 910 ((v1).toNat) (Int64.ofInt 0) := ⟨_, rfl⟩
                rw [← eU5]
                have hHU5 : HI U5 := by rw [eU5]; exact HI_J hHT4
                have hFU5 : FR md_mo_cut S U5 := by rw [eU5]; exact FR.wJ hFT4 (mdf_i (r := (910, 911, 0, 100000)) (List.mem_of_getElem? (i := 3) rfl) (inR_i (by omega) (by omega) (by omega) (by omega)))
                have c128 : CT U5 v1 v2 := C86.mv (fun k _ _ i _ => by rw [eU5]; rfl)
                have x128 : v4 - v2 ≤ 2 → Xj U5 910 (v1).toNat < 1024 := fun q => by rw [eU5, Xj_same (by unfold rgL; omega)]; omega
                refine l_aload_n rfl rfl ?_
                refine l_gfr rfl rfl rfl rfl rfl (hHU5.r 904 4 907 rfl) ?_
                refine l_iload_n rfl rfl ?_
                refine l_iload rfl rfl ?_
                refine l_if_eq rfl rfl (by unfold rg; omega) (fun w54 => ?_) (fun w55 => absurd w55 (by omega))
                · refine l_iconst rfl ?_
                  refine l_iastore (n := 5002) rfl rfl (by omega) (by omega) (by unfold rg; omega) ?_
                  obtain ⟨U6, eU6⟩ : ∃ T : sS, T = uI U5 907 ((v1).toNat) (Int32.ofInt 2) := ⟨_, rfl⟩
                  rw [← eU6]
                  have hHU6 : HI U6 := by rw [eU6]; exact HI_w hHU5 (show 0 ≤ 2 by omega) (show 2 ≤ 154 by omega)
                  have hFU6 : FR md_mo_cut S U6 := by rw [eU6]; exact FR.wI hFU5 (mdf_i (r := (907, 908, 0, 100000)) (List.mem_of_getElem? (i := 0) rfl) (inR_i (by omega) (by omega) (by omega) (by omega)))
                  have w56 : Xi U6 907 ((v1).toNat) = 2 := by rw [eU6]; exact Xi_same (by unfold rg; omega)
                  have c153 : CT U6 v1 v2 := c128.w eU6 (by omega)
                  have k153 : K3 (Xi U6 907 (v1).toNat) → v2 + 3 ≤ v4 := by first | exact (fun q => z146 _ (by omega) q) | exact (fun q => absurd q (by unfold K3; omega))
                  refine l_goto rfl rfl ?_
                  have w57 : Xi U6 908 (v1).toNat = Xi T4 908 (v1).toNat := (show Xi U6 908 (v1).toNat = Xi U5 908 (v1).toNat from by rw [eU6]; exact Xi_ne (by omega)).trans ((show Xi U5 908 (v1).toNat = Xi T4 908 (v1).toNat from by rw [eU5]; rfl))
                  have w58 : Xi U6 909 (v1).toNat = Xi T4 909 (v1).toNat := (show Xi U6 909 (v1).toNat = Xi U5 909 (v1).toNat from by rw [eU6]; exact Xi_ne (by omega)).trans ((show Xi U5 909 (v1).toNat = Xi T4 909 (v1).toNat from by rw [eU5]; rfl))
                  have w59 : Xi U6 904 3 = Xi T4 904 3 := (show Xi U6 904 3 = Xi U5 904 3 from by rw [eU6]; exact Xi_ne (by omega)).trans ((show Xi U5 904 3 = Xi T4 904 3 from by rw [eU5]; rfl))
                  have w60 : 0 ≤ Xi T4 904 3 ∧ Xi T4 904 3 ≤ 5000 := hHT4.c _ _
                  exact Rl_weak (C426 U6 hHU6 hFU6 (v1) (v4) (by omega) (by omega) (by rw [show Xi U6 908 (v1).toNat = v2 by omega]; assumption) (by omega) (by omega) (by omega) (by omega) (by omega) (by omega) (by omega) (by first | exact fun q => ⟨by have := k153 q; omega, by have := k153 q; omega⟩ | exact fun q => absurd q (by unfold K3; omega)) (by omega)) (And.intro rfl (And.intro rfl (And.intro rfl (True.intro))))
            · refine l_iconst rfl ?_
              refine l_goto rfl rfl ?_
              refine l_istore rfl rfl rfl ?_
              refine l_aload_n rfl rfl ?_
              refine l_gfr rfl rfl rfl rfl rfl (hHT4.r 904 7 910 rfl) ?_
              refine l_iload_n rfl rfl ?_
              refine l_iload rfl rfl ?_
              refine l_if_eq rfl rfl (by unfold rg; omega) (fun w61 => absurd w61 (by omega)) (fun w62 => ?_)
              · refine l_aload_n rfl rfl ?_
                refine l_gfr rfl rfl rfl rfl rfl (hHT4.r 904 2 906 rfl) ?_
                refine l_iload_n rfl rfl ?_
                refine l_iload rfl rfl ?_
                refine l_iload_n rfl rfl ?_
                refine l_isub rfl ?_
                have w63 : 0 ≤ Xi T4 904 3 ∧ Xi T4 904 3 ≤ 5000 := hHT4.c _ _
                refine l_callS rfl rfl (by decide) rfl (t_mo_wordOf__2 hHT4 906 v2 (v4 - v2) (Or.inr rfl) ⟨by omega, by omega⟩ ⟨by omega, by omega⟩ (by first | assumption | omega) (fun i a b => by rw [(hFT4.cx 906 rfl _).1]; exact L86 i a (by omega)) _) ?_
                rintro _ _ ⟨rfl, z65, rfl, w64⟩
                show Rl _ _ _ _ _ [jw z65, iv v1, .ref 910] _ _
                refine l_goto rfl rfl ?_
                refine l_lastore (n := 5002) rfl rfl (by omega) (by omega) (by unfold rg; omega) ?_
                obtain ⟨U7, eU7⟩ : ∃ T : sS, T = uJ T4 910 ((v1).toNat) (Int64.ofInt z65) := ⟨_, rfl⟩
                rw [← eU7]
                have hHU7 : HI U7 := by rw [eU7]; exact HI_J hHT4
                have hFU7 : FR md_mo_cut S U7 := by rw [eU7]; exact FR.wJ hFT4 (mdf_i (r := (910, 911, 0, 100000)) (List.mem_of_getElem? (i := 3) rfl) (inR_i (by omega) (by omega) (by omega) (by omega)))
                have c128 : CT U7 v1 v2 := C86.mv (fun k _ _ i _ => by rw [eU7]; rfl)
                have x128 : v4 - v2 ≤ 2 → Xj U7 910 (v1).toNat < 1024 := fun q => by rw [eU7, Xj_same (by unfold rgL; omega)]; omega
                refine l_aload_n rfl rfl ?_
                refine l_gfr rfl rfl rfl rfl rfl (hHU7.r 904 4 907 rfl) ?_
                refine l_iload_n rfl rfl ?_
                refine l_iload rfl rfl ?_
                refine l_if_eq rfl rfl (by unfold rg; omega) (fun w66 => absurd w66 (by omega)) (fun w67 => ?_)
                · refine l_aload_n rfl rfl ?_
                  refine l_aload_n rfl rfl ?_
                  refine l_gfr rfl rfl rfl rfl rfl (hHU7.r 904 7 910 rfl) ?_
                  refine l_iload_n rfl rfl ?_
                  refine l_laload (n := 5002) rfl rfl (by omega) (by omega) (by unfold rg; omega) ?_
                  have w68 : -9223372036854775808 ≤ (Xj U7 910 ((v1).toNat)) ∧ (Xj U7 910 ((v1).toNat)) < 9223372036854775808 := Xj_rg
                  have w69 : Xi U7 904 3 = Xi T4 904 3 := (show Xi U7 904 3 = Xi T4 904 3 from by rw [eU7]; rfl)
                  have w70 : 0 ≤ Xi T4 904 3 ∧ Xi T4 904 3 ≤ 5000 := hHT4.c _ _
                  refine l_callV rfl rfl rfl (t_mo_keyOf__2 hHU7 (Xj U7 910 ((v1).toNat)) (Xj_rg) _) ?_
                  rintro _ _ ⟨rfl, z72, rfl, w72, w71⟩
                  show Rl _ _ _ _ _ [iv z72, iv v1, .ref 907] _ _
                  have z146 : ∀ x : Int, x = z72 → K3 x → v2 + 3 ≤ v4 := fun x ex q => (by rcases (by omega : v2 + 3 ≤ v4 ∨ v4 - v2 ≤ 2) with h | h; exact h; exfalso; rw [ex] at q; have a := (by assumption : z72 ≠ 3 → _) (by unfold K3 at q; omega); have b := hK z72 (by omega) (by omega) q; have e := (hFU7.cx 911 rfl (z72 - 100).toNat).2; have f := x128 h; omega)
                  refine l_goto rfl rfl ?_
                  refine l_iastore (n := 5002) rfl rfl (by omega) (by omega) (by unfold rg; omega) ?_
                  obtain ⟨U8, eU8⟩ : ∃ T : sS, T = uI U7 907 ((v1).toNat) (Int32.ofInt z72) := ⟨_, rfl⟩
                  rw [← eU8]
                  have hHU8 : HI U8 := by rw [eU8]; exact HI_w hHU7 (show 0 ≤ z72 by omega) (show z72 ≤ 154 by omega)
                  have hFU8 : FR md_mo_cut S U8 := by rw [eU8]; exact FR.wI hFU7 (mdf_i (r := (907, 908, 0, 100000)) (List.mem_of_getElem? (i := 0) rfl) (inR_i (by omega) (by omega) (by omega) (by omega)))
                  have w73 : Xi U8 907 ((v1).toNat) = z72 := by rw [eU8]; exact Xi_same (by unfold rg; omega)
                  have c153 : CT U8 v1 v2 := c128.w eU8 (by omega)
                  have k153 : K3 (Xi U8 907 (v1).toNat) → v2 + 3 ≤ v4 := by first | exact (fun q => z146 _ (by omega) q) | exact (fun q => absurd q (by unfold K3; omega))
                  refine l_goto rfl rfl ?_
                  have w74 : Xi U8 908 (v1).toNat = Xi T4 908 (v1).toNat := (show Xi U8 908 (v1).toNat = Xi U7 908 (v1).toNat from by rw [eU8]; exact Xi_ne (by omega)).trans ((show Xi U7 908 (v1).toNat = Xi T4 908 (v1).toNat from by rw [eU7]; rfl))
                  have w75 : Xi U8 909 (v1).toNat = Xi T4 909 (v1).toNat := (show Xi U8 909 (v1).toNat = Xi U7 909 (v1).toNat from by rw [eU8]; exact Xi_ne (by omega)).trans ((show Xi U7 909 (v1).toNat = Xi T4 909 (v1).toNat from by rw [eU7]; rfl))
                  have w76 : Xi U8 904 3 = Xi T4 904 3 := (show Xi U8 904 3 = Xi U7 904 3 from by rw [eU8]; exact Xi_ne (by omega)).trans ((show Xi U7 904 3 = Xi T4 904 3 from by rw [eU7]; rfl))
                  have w77 : 0 ≤ Xi T4 904 3 ∧ Xi T4 904 3 ≤ 5000 := hHT4.c _ _
                  exact Rl_weak (C426 U8 hHU8 hFU8 (v1) (v4) (by omega) (by omega) (by rw [show Xi U8 908 (v1).toNat = v2 by omega]; assumption) (by omega) (by omega) (by omega) (by omega) (by omega) (by omega) (by omega) (by first | exact fun q => ⟨by have := k153 q; omega, by have := k153 q; omega⟩ | exact fun q => absurd q (by unfold K3; omega)) (by omega)) (And.intro rfl (And.intro rfl (And.intro rfl (True.intro))))
          refine l_iload rfl rfl ?_
          refine l_aload_n rfl rfl ?_
          refine l_gfi rfl rfl rfl rfl rfl ?_
          refine l_icmp_ge rfl rfl (by unfold rg; omega) (by unfold rg; omega) (fun w78 => ?_) (fun w79 => ?_)
          · have w80 : 0 ≤ Xi T3 904 3 ∧ Xi T3 904 3 ≤ 5000 := hHT3.c _ _
            exact Rl_weak (C86 T3 hHT3 hFT3 (v1) (v2) (v4) (by omega) (by omega) (by omega) (C58) (by omega) (by omega) (by omega) (by omega) (by omega) (by omega) (L58) (by omega)) (And.intro rfl (And.intro rfl (And.intro rfl (And.intro rfl (True.intro)))))
          · refine l_aload_n rfl rfl ?_
            refine l_gfr rfl rfl rfl rfl rfl (hHT3.r 904 2 906 rfl) ?_
            refine l_iload rfl rfl ?_
            refine l_baload (n := 5000) rfl rfl rfl (by decide) (by omega) (by omega) (by unfold rg; omega) ?_
            have w81 : -128 ≤ (Xi T3 906 ((v4).toNat)) ∧ (Xi T3 906 ((v4).toNat)) ≤ 127 := hHT3.c _ _
            have e73 : (Xi T3 906 ((v4).toNat)) = Xi S 906 (v4).toNat := by first | rfl | exact (hFT3.cx 906 rfl _).1
            have w82 : 0 ≤ Xi T3 904 3 ∧ Xi T3 904 3 ≤ 5000 := hHT3.c _ _
            refine l_callS rfl rfl (by decide) rfl (t_mo_isLetter hHT3 (Xi T3 906 ((v4).toNat)) ⟨by omega, by omega⟩ _) ?_
            rintro _ _ ⟨rfl, z84, rfl, w84, w83⟩
            show Rl _ _ _ _ _ [iv z84] _ _
            have l74 : z84 = 1 → ltr (Xi S 906 (v4).toNat) = 1 := fun q => by rw [← e73, ← (by assumption : z84 = ltr _)]; exact q
            refine l_if_eq rfl rfl (by unfold rg; omega) (fun w85 => ?_) (fun w86 => ?_)
            · have w87 : 0 ≤ Xi T3 904 3 ∧ Xi T3 904 3 ≤ 5000 := hHT3.c _ _
              exact Rl_weak (C86 T3 hHT3 hFT3 (v1) (v2) (v4) (by omega) (by omega) (by omega) (C58) (by omega) (by omega) (by omega) (by omega) (by omega) (by omega) (L58) (by omega)) (And.intro rfl (And.intro rfl (And.intro rfl (And.intro rfl (True.intro)))))
            · refine l_iinc rfl rfl rfl rfl ?_
              refine l_goto rfl rfl ?_
              have w88 : 0 ≤ Xi T3 904 3 ∧ Xi T3 904 3 ≤ 5000 := hHT3.c _ _
              exact Rl_weak (ih58 _ (by omega) T3 hHT3 hFT3 (v1) (v2) ((v4 + 1)) (by omega) (by omega) (by omega) (by first | exact C58 | exact c50) (by omega) (by omega) (by omega) (by omega) (by omega) (by omega) (by first | exact (fun i a b => (Int.lt_or_le (i : Int) v4).elim (fun q => L58 i a q) (fun q => by rw [show i = (v4).toNat by omega]; exact l74 (by omega))) | exact (fun i a b => by rw [show i = (v2).toNat by omega]; exact l52 (by omega))) (by omega) rfl) (And.intro rfl (And.intro rfl (And.intro rfl (And.intro rfl (True.intro)))))
      have C174 : ∀ (n174 : Nat) (T9 : sS) (_ : HI T9) (_ : FR md_mo_cut S T9) (v1 : Int) (v2 : Int) (v4 : Int) (v5 : Int), (0 ≤ v1 ∧ v1 ≤ 5000) → (0 ≤ v2 ∧ v2 ≤ 4999) → (0 ≤ v4 ∧ v4 ≤ 5000) → (CT T9 v1 v2) → (v1 ≤ v2) → (v2 < Xi S 904 3) → (Xi T9 904 3 = Xi S 904 3) → (v4 ≤ Xi S 904 3) → (Xi T9 908 (v1).toNat = v2) → (v2 ≤ v4) → (v4 = v2 → 48 ≤ Xi S 906 (v4).toNat ∧ Xi S 906 (v4).toNat ≤ 57) → ((5002 - v2).toNat ≤ n8) → n174 = (5002 - v4).toNat → Rl lay0 (d + 3) m_mo_cut 174 [(0, .ref 904), (1, iv v1), (2, iv v2), (4, iv v4), (5, jw v5)] [] T9 (Q_mo_cut S) := by
        intro n174
        induction n174 using Nat.strongRecOn with
        | ind n174 ih174 =>
          intro T9 hHT9 hFT9 v1 v2 v4 v5 w89 w90 w91 C174 w92 w93 w94 w95 w96 w97 w98 w99 hm174
          have w100 : Xi T9 904 3 = Xi S 904 3 := hFT9.x _ _ rfl
          have w101 : 0 ≤ Xi T9 904 3 ∧ Xi T9 904 3 ≤ 5000 := hHT9.c _ _
          have C241 : ∀  (T10 : sS) (_ : HI T10) (_ : FR md_mo_cut S T10) (v1 : Int) (v2 : Int) (v4 : Int) (v5 : Int), (0 ≤ v1 ∧ v1 ≤ 5000) → (0 ≤ v2 ∧ v2 ≤ 4999) → (0 ≤ v4 ∧ v4 ≤ 5000) → (CT T10 v1 v2) → (v1 ≤ v2) → (v2 < Xi S 904 3) → (Xi T10 904 3 = Xi S 904 3) → (v2 < v4) → (v4 ≤ Xi S 904 3) → (Xi T10 908 (v1).toNat = v2) → ((5002 - v2).toNat ≤ n8) → Rl lay0 (d + 3) m_mo_cut 241 [(0, .ref 904), (1, iv v1), (2, iv v2), (4, iv v4), (5, jw v5)] [] T10 (Q_mo_cut S) := by
            intro T10 hHT10 hFT10 v1 v2 v4 v5 w102 w103 w104 C241 w105 w106 w107 w108 w109 w110 w111
            have w112 : Xi T10 904 3 = Xi S 904 3 := hFT10.x _ _ rfl
            have w113 : 0 ≤ Xi T10 904 3 ∧ Xi T10 904 3 ≤ 5000 := hHT10.c _ _
            refine l_aload_n rfl rfl ?_
            refine l_gfr rfl rfl rfl rfl rfl (hHT10.r 904 7 910 rfl) ?_
            refine l_iload_n rfl rfl ?_
            refine l_lload rfl rfl ?_
            refine l_lastore (n := 5002) rfl rfl (by omega) (by omega) (by unfold rg; omega) ?_
            obtain ⟨U11, eU11⟩ : ∃ T : sS, T = uJ T10 910 ((v1).toNat) (Int64.ofInt v5) := ⟨_, rfl⟩
            rw [← eU11]
            have hHU11 : HI U11 := by rw [eU11]; exact HI_J hHT10
            have hFU11 : FR md_mo_cut S U11 := by rw [eU11]; exact FR.wJ hFT10 (mdf_i (r := (910, 911, 0, 100000)) (List.mem_of_getElem? (i := 3) rfl) (inR_i (by omega) (by omega) (by omega) (by omega)))
            have c248 : CT U11 v1 v2 := C241.mv (fun k _ _ i _ => by rw [eU11]; rfl)
            refine l_aload_n rfl rfl ?_
            refine l_gfr rfl rfl rfl rfl rfl (hHU11.r 904 4 907 rfl) ?_
            refine l_iload_n rfl rfl ?_
            refine l_iload rfl rfl ?_
            refine l_iload_n rfl rfl ?_
            refine l_isub rfl ?_
            refine l_bipush rfl rfl ?_
            refine l_icmp_le rfl rfl (by unfold rg; omega) (by unfold rg; omega) (fun w114 => ?_) (fun w115 => ?_)
            · refine l_iconst rfl ?_
              refine l_iastore (n := 5002) rfl rfl (by omega) (by omega) (by unfold rg; omega) ?_
              obtain ⟨U12, eU12⟩ : ∃ T : sS, T = uI U11 907 ((v1).toNat) (Int32.ofInt 4) := ⟨_, rfl⟩
              rw [← eU12]
              have hHU12 : HI U12 := by rw [eU12]; exact HI_w hHU11 (show 0 ≤ 4 by omega) (show 4 ≤ 154 by omega)
              have hFU12 : FR md_mo_cut S U12 := by rw [eU12]; exact FR.wI hFU11 (mdf_i (r := (907, 908, 0, 100000)) (List.mem_of_getElem? (i := 0) rfl) (inR_i (by omega) (by omega) (by omega) (by omega)))
              have w116 : Xi U12 907 ((v1).toNat) = 4 := by rw [eU12]; exact Xi_same (by unfold rg; omega)
              have c268 : CT U12 v1 v2 := c248.w eU12 (by omega)
              refine l_goto rfl rfl ?_
              have w117 : Xi U12 908 (v1).toNat = Xi T10 908 (v1).toNat := (show Xi U12 908 (v1).toNat = Xi U11 908 (v1).toNat from by rw [eU12]; exact Xi_ne (by omega)).trans ((show Xi U11 908 (v1).toNat = Xi T10 908 (v1).toNat from by rw [eU11]; rfl))
              have w118 : Xi U12 909 (v1).toNat = Xi T10 909 (v1).toNat := (show Xi U12 909 (v1).toNat = Xi U11 909 (v1).toNat from by rw [eU12]; exact Xi_ne (by omega)).trans ((show Xi U11 909 (v1).toNat = Xi T10 909 (v1).toNat from by rw [eU11]; rfl))
              have w119 : Xi U12 904 3 = Xi T10 904 3 := (show Xi U12 904 3 = Xi U11 904 3 from by rw [eU12]; exact Xi_ne (by omega)).trans ((show Xi U11 904 3 = Xi T10 904 3 from by rw [eU11]; rfl))
              have w120 : 0 ≤ Xi T10 904 3 ∧ Xi T10 904 3 ≤ 5000 := hHT10.c _ _
              exact Rl_weak (C426 U12 hHU12 hFU12 (v1) (v4) (by omega) (by omega) (by rw [show Xi U12 908 (v1).toNat = v2 by omega]; assumption) (by omega) (by omega) (by omega) (by omega) (by omega) (by omega) (by omega) (by first | exact fun q => ⟨by have := k153 q; omega, by have := k153 q; omega⟩ | exact fun q => absurd q (by unfold K3; omega)) (by omega)) (And.intro rfl (And.intro rfl (And.intro rfl (True.intro))))
            · refine l_iconst rfl ?_
              refine l_goto rfl rfl ?_
              refine l_iastore (n := 5002) rfl rfl (by omega) (by omega) (by unfold rg; omega) ?_
              obtain ⟨U13, eU13⟩ : ∃ T : sS, T = uI U11 907 ((v1).toNat) (Int32.ofInt 2) := ⟨_, rfl⟩
              rw [← eU13]
              have hHU13 : HI U13 := by rw [eU13]; exact HI_w hHU11 (show 0 ≤ 2 by omega) (show 2 ≤ 154 by omega)
              have hFU13 : FR md_mo_cut S U13 := by rw [eU13]; exact FR.wI hFU11 (mdf_i (r := (907, 908, 0, 100000)) (List.mem_of_getElem? (i := 0) rfl) (inR_i (by omega) (by omega) (by omega) (by omega)))
              have w121 : Xi U13 907 ((v1).toNat) = 2 := by rw [eU13]; exact Xi_same (by unfold rg; omega)
              have c268 : CT U13 v1 v2 := c248.w eU13 (by omega)
              refine l_goto rfl rfl ?_
              have w122 : Xi U13 908 (v1).toNat = Xi T10 908 (v1).toNat := (show Xi U13 908 (v1).toNat = Xi U11 908 (v1).toNat from by rw [eU13]; exact Xi_ne (by omega)).trans ((show Xi U11 908 (v1).toNat = Xi T10 908 (v1).toNat from by rw [eU11]; rfl))
              have w123 : Xi U13 909 (v1).toNat = Xi T10 909 (v1).toNat := (show Xi U13 909 (v1).toNat = Xi U11 909 (v1).toNat from by rw [eU13]; exact Xi_ne (by omega)).trans ((show Xi U11 909 (v1).toNat = Xi T10 909 (v1).toNat from by rw [eU11]; rfl))
              have w124 : Xi U13 904 3 = Xi T10 904 3 := (show Xi U13 904 3 = Xi U11 904 3 from by rw [eU13]; exact Xi_ne (by omega)).trans ((show Xi U11 904 3 = Xi T10 904 3 from by rw [eU11]; rfl))
              have w125 : 0 ≤ Xi T10 904 3 ∧ Xi T10 904 3 ≤ 5000 := hHT10.c _ _
              exact Rl_weak (C426 U13 hHU13 hFU13 (v1) (v4) (by omega) (by omega) (by rw [show Xi U13 908 (v1).toNat = v2 by omega]; assumption) (by omega) (by omega) (by omega) (by omega) (by omega) (by omega) (by omega) (by first | exact fun q => ⟨by have := k153 q; omega, by have := k153 q; omega⟩ | exact fun q => absurd q (by unfold K3; omega)) (by omega)) (And.intro rfl (And.intro rfl (And.intro rfl (True.intro))))
          refine l_iload rfl rfl ?_
          refine l_aload_n rfl rfl ?_
          refine l_gfi rfl rfl rfl rfl rfl ?_
          refine l_icmp_ge rfl rfl (by unfold rg; omega) (by unfold rg; omega) (fun w126 => ?_) (fun w127 => ?_)
          · have w128 : 0 ≤ Xi T9 904 3 ∧ Xi T9 904 3 ≤ 5000 := hHT9.c _ _
            exact Rl_weak (C241 T9 hHT9 hFT9 (v1) (v2) (v4) (v5) (by omega) (by omega) (by omega) (C174) (by omega) (by omega) (by omega) (by omega) (by omega) (by omega) (by omega)) (And.intro rfl (And.intro rfl (And.intro rfl (And.intro rfl (And.intro rfl (True.intro))))))
          · refine l_aload_n rfl rfl ?_
            refine l_gfr rfl rfl rfl rfl rfl (hHT9.r 904 2 906 rfl) ?_
            refine l_iload rfl rfl ?_
            refine l_baload (n := 5000) rfl rfl rfl (by decide) (by omega) (by omega) (by unfold rg; omega) ?_
            have w129 : -128 ≤ (Xi T9 906 ((v4).toNat)) ∧ (Xi T9 906 ((v4).toNat)) ≤ 127 := hHT9.c _ _
            have e189 : (Xi T9 906 ((v4).toNat)) = Xi S 906 (v4).toNat := by first | rfl | exact (hFT9.cx 906 rfl _).1
            refine l_bipush rfl rfl ?_
            refine l_bipush rfl rfl ?_
            have w130 : 0 ≤ Xi T9 904 3 ∧ Xi T9 904 3 ≤ 5000 := hHT9.c _ _
            refine l_callS rfl rfl (by decide) rfl (t_mo_in hHT9 (Xi T9 906 ((v4).toNat)) 48 57 ⟨by omega, by omega⟩ ⟨by omega, by omega⟩ ⟨by omega, by omega⟩ _) ?_
            rintro _ _ ⟨rfl, z132, rfl, w132, w131⟩
            show Rl _ _ _ _ _ [iv z132] _ _
            refine l_if_eq rfl rfl (by unfold rg; omega) (fun w133 => ?_) (fun w134 => ?_)
            · have w135 : 0 ≤ Xi T9 904 3 ∧ Xi T9 904 3 ≤ 5000 := hHT9.c _ _
              exact Rl_weak (C241 T9 hHT9 hFT9 (v1) (v2) (v4) (v5) (by omega) (by omega) (by omega) (C174) (by omega) (by omega) (by omega) (by omega) (by omega) (by omega) (by omega)) (And.intro rfl (And.intro rfl (And.intro rfl (And.intro rfl (And.intro rfl (True.intro))))))
            · refine l_iload rfl rfl ?_
              refine l_iload_n rfl rfl ?_
              refine l_isub rfl ?_
              refine l_bipush rfl rfl ?_
              refine l_icmp_ge rfl rfl (by unfold rg; omega) (by unfold rg; omega) (fun w136 => ?_) (fun w137 => ?_)
              · refine l_lload rfl rfl ?_
                refine l_lstore rfl rfl rfl rfl ?_
                refine l_iinc rfl rfl rfl rfl ?_
                refine l_goto rfl rfl ?_
                have w138 : 0 ≤ Xi T9 904 3 ∧ Xi T9 904 3 ≤ 5000 := hHT9.c _ _
                exact Rl_weak (ih174 _ (by omega) T9 hHT9 hFT9 (v1) (v2) ((v4 + 1)) (v5) (by omega) (by omega) (by omega) (by first | exact C174 | exact c50) (by omega) (by omega) (by omega) (by omega) (by omega) (by omega) (by omega) (by omega) rfl) (And.intro rfl (And.intro rfl (And.intro rfl (And.intro rfl (And.intro rfl (True.intro))))))
              · refine l_ldc2 (z := 10) rfl rfl ?_
                refine l_lload rfl rfl ?_
                refine l_lmul rfl ?_
                refine l_aload_n rfl rfl ?_
                refine l_gfr rfl rfl rfl rfl rfl (hHT9.r 904 2 906 rfl) ?_
                refine l_iload rfl rfl ?_
                refine l_baload (n := 5000) rfl rfl rfl (by decide) (by omega) (by omega) (by unfold rg; omega) ?_
                refine l_i2l rfl (by unfold rg; omega) ?_
                refine l_ladd rfl ?_
                refine l_ldc2 (z := 48) rfl rfl ?_
                refine l_lsub rfl ?_
                refine l_goto rfl rfl ?_
                refine l_lstore rfl rfl rfl rfl ?_
                refine l_iinc rfl rfl rfl rfl ?_
                refine l_goto rfl rfl ?_
                have w139 : 0 ≤ Xi T9 904 3 ∧ Xi T9 904 3 ≤ 5000 := hHT9.c _ _
                exact Rl_weak (ih174 _ (by omega) T9 hHT9 hFT9 (v1) (v2) ((v4 + 1)) ((((10 * v5) + (Xi T9 906 ((v4).toNat))) - 48)) (by omega) (by omega) (by omega) (by first | exact C174 | exact c50) (by omega) (by omega) (by omega) (by omega) (by omega) (by omega) (by omega) (by omega) rfl) (And.intro rfl (And.intro rfl (And.intro rfl (And.intro rfl (And.intro rfl (True.intro))))))
      have C281 : ∀ (n281 : Nat) (T14 : sS) (_ : HI T14) (_ : FR md_mo_cut S T14) (v1 : Int) (v2 : Int) (v4 : Int) (v5 : Int), (0 ≤ v1 ∧ v1 ≤ 5000) → (0 ≤ v2 ∧ v2 ≤ 4999) → (1 ≤ v4 ∧ v4 ≤ 5000) → (0 ≤ v5 ∧ v5 ≤ 1) → (CT T14 v1 v2) → (v1 ≤ v2) → (v2 < Xi S 904 3) → (Xi T14 904 3 = Xi S 904 3) → (v2 < v4) → (v4 ≤ Xi S 904 3) → (Xi T14 908 (v1).toNat = v2) → ((5002 - v2).toNat ≤ n8) → n281 = (5002 - v4).toNat → Rl lay0 (d + 3) m_mo_cut 281 [(0, .ref 904), (1, iv v1), (2, iv v2), (4, iv v4), (5, iv v5)] [] T14 (Q_mo_cut S) := by
        intro n281
        induction n281 using Nat.strongRecOn with
        | ind n281 ih281 =>
          intro T14 hHT14 hFT14 v1 v2 v4 v5 w140 w141 w142 w143 C281 w144 w145 w146 w147 w148 w149 w150 hm281
          have w151 : Xi T14 904 3 = Xi S 904 3 := hFT14.x _ _ rfl
          have w152 : 0 ≤ Xi T14 904 3 ∧ Xi T14 904 3 ≤ 5000 := hHT14.c _ _
          have C337 : ∀  (T15 : sS) (_ : HI T15) (_ : FR md_mo_cut S T15) (v1 : Int) (v2 : Int) (v4 : Int) (v5 : Int), (0 ≤ v1 ∧ v1 ≤ 5000) → (0 ≤ v2 ∧ v2 ≤ 4999) → (1 ≤ v4 ∧ v4 ≤ 5000) → (0 ≤ v5 ∧ v5 ≤ 1) → (CT T15 v1 v2) → (v1 ≤ v2) → (v2 < Xi S 904 3) → (Xi T15 904 3 = Xi S 904 3) → (v2 < v4) → (v4 ≤ Xi S 904 3) → (Xi T15 908 (v1).toNat = v2) → ((5002 - v2).toNat ≤ n8) → Rl lay0 (d + 3) m_mo_cut 337 [(0, .ref 904), (1, iv v1), (2, iv v2), (4, iv v4), (5, iv v5)] [] T15 (Q_mo_cut S) := by
            intro T15 hHT15 hFT15 v1 v2 v4 v5 w153 w154 w155 w156 C337 w157 w158 w159 w160 w161 w162 w163
            have w164 : Xi T15 904 3 = Xi S 904 3 := hFT15.x _ _ rfl
            have w165 : 0 ≤ Xi T15 904 3 ∧ Xi T15 904 3 ≤ 5000 := hHT15.c _ _
            refine l_aload_n rfl rfl ?_
            refine l_gfr rfl rfl rfl rfl rfl (hHT15.r 904 4 907 rfl) ?_
            refine l_iload_n rfl rfl ?_
            refine l_iload rfl rfl ?_
            refine l_if_eq rfl rfl (by unfold rg; omega) (fun w166 => ?_) (fun w167 => ?_)
            · refine l_iconst rfl ?_
              refine l_iastore (n := 5002) rfl rfl (by omega) (by omega) (by unfold rg; omega) ?_
              obtain ⟨U16, eU16⟩ : ∃ T : sS, T = uI T15 907 ((v1).toNat) (Int32.ofInt 2) := ⟨_, rfl⟩
              rw [← eU16]
              have hHU16 : HI U16 := by rw [eU16]; exact HI_w hHT15 (show 0 ≤ 2 by omega) (show 2 ≤ 154 by omega)
              have hFU16 : FR md_mo_cut S U16 := by rw [eU16]; exact FR.wI hFT15 (mdf_i (r := (907, 908, 0, 100000)) (List.mem_of_getElem? (i := 0) rfl) (inR_i (by omega) (by omega) (by omega) (by omega)))
              have w168 : Xi U16 907 ((v1).toNat) = 2 := by rw [eU16]; exact Xi_same (by unfold rg; omega)
              have c372 : CT U16 v1 v2 := C337.w eU16 (by omega)
              refine l_aload_n rfl rfl ?_
              refine l_gfr rfl rfl rfl rfl rfl (hHU16.r 904 6 909 rfl) ?_
              refine l_iload_n rfl rfl ?_
              refine l_iload rfl rfl ?_
              refine l_iload_n rfl rfl ?_
              refine l_isub rfl ?_
              refine l_iconst rfl ?_
              refine l_isub rfl ?_
              refine l_iastore (n := 5002) rfl rfl (by omega) (by omega) (by unfold rg; omega) ?_
              obtain ⟨U17, eU17⟩ : ∃ T : sS, T = uI U16 909 ((v1).toNat) (Int32.ofInt ((v4 - v2) - 1)) := ⟨_, rfl⟩
              rw [← eU17]
              have hHU17 : HI U17 := by rw [eU17]; exact HI_w hHU16 (show 0 ≤ ((v4 - v2) - 1) by omega) (show ((v4 - v2) - 1) ≤ 5000 by omega)
              have hFU17 : FR md_mo_cut S U17 := by rw [eU17]; exact FR.wI hFU16 (mdf_i (r := (909, 910, 0, 100000)) (List.mem_of_getElem? (i := 2) rfl) (inR_i (by omega) (by omega) (by omega) (by omega)))
              have w169 : Xi U17 909 ((v1).toNat) = ((v4 - v2) - 1) := by rw [eU17]; exact Xi_same (by unfold rg; omega)
              have c384 : CT U17 v1 v2 := c372.w eU17 (by omega)
              refine l_iinc rfl rfl rfl rfl ?_
              refine l_goto rfl rfl ?_
              have w170 : Xi U17 908 (v1).toNat = Xi T15 908 (v1).toNat := (show Xi U17 908 (v1).toNat = Xi U16 908 (v1).toNat from by rw [eU17]; exact Xi_ne (by omega)).trans ((show Xi U16 908 (v1).toNat = Xi T15 908 (v1).toNat from by rw [eU16]; exact Xi_ne (by omega)))
              have w171 : Xi U17 907 (v1).toNat = Xi U16 907 (v1).toNat := (show Xi U17 907 (v1).toNat = Xi U16 907 (v1).toNat from by rw [eU17]; exact Xi_ne (by omega))
              have w172 : Xi U17 904 3 = Xi T15 904 3 := (show Xi U17 904 3 = Xi U16 904 3 from by rw [eU17]; exact Xi_ne (by omega)).trans ((show Xi U16 904 3 = Xi T15 904 3 from by rw [eU16]; exact Xi_ne (by omega)))
              have w173 : 0 ≤ Xi T15 904 3 ∧ Xi T15 904 3 ≤ 5000 := hHT15.c _ _
              exact Rl_weak (C426 U17 hHU17 hFU17 (v1) ((v4 + 1)) (by omega) (by omega) (by rw [show Xi U17 908 (v1).toNat = v2 by omega]; assumption) (by omega) (by omega) (by omega) (by omega) (by omega) (by omega) (by omega) (by first | exact fun q => ⟨by have := k153 q; omega, by have := k153 q; omega⟩ | exact fun q => absurd q (by unfold K3; omega)) (by omega)) (And.intro rfl (And.intro rfl (And.intro rfl (True.intro))))
            · refine l_iload rfl rfl ?_
              refine l_aload_n rfl rfl ?_
              refine l_gfi rfl rfl rfl rfl rfl ?_
              refine l_icmp_ge rfl rfl (by unfold rg; omega) (by unfold rg; omega) (fun w174 => ?_) (fun w175 => ?_)
              · refine l_iconst rfl ?_
                refine l_iastore (n := 5002) rfl rfl (by omega) (by omega) (by unfold rg; omega) ?_
                obtain ⟨U18, eU18⟩ : ∃ T : sS, T = uI T15 907 ((v1).toNat) (Int32.ofInt 2) := ⟨_, rfl⟩
                rw [← eU18]
                have hHU18 : HI U18 := by rw [eU18]; exact HI_w hHT15 (show 0 ≤ 2 by omega) (show 2 ≤ 154 by omega)
                have hFU18 : FR md_mo_cut S U18 := by rw [eU18]; exact FR.wI hFT15 (mdf_i (r := (907, 908, 0, 100000)) (List.mem_of_getElem? (i := 0) rfl) (inR_i (by omega) (by omega) (by omega) (by omega)))
                have w176 : Xi U18 907 ((v1).toNat) = 2 := by rw [eU18]; exact Xi_same (by unfold rg; omega)
                have c372 : CT U18 v1 v2 := C337.w eU18 (by omega)
                refine l_aload_n rfl rfl ?_
                refine l_gfr rfl rfl rfl rfl rfl (hHU18.r 904 6 909 rfl) ?_
                refine l_iload_n rfl rfl ?_
                refine l_iload rfl rfl ?_
                refine l_iload_n rfl rfl ?_
                refine l_isub rfl ?_
                refine l_iconst rfl ?_
                refine l_isub rfl ?_
                refine l_iastore (n := 5002) rfl rfl (by omega) (by omega) (by unfold rg; omega) ?_
                obtain ⟨U19, eU19⟩ : ∃ T : sS, T = uI U18 909 ((v1).toNat) (Int32.ofInt ((v4 - v2) - 1)) := ⟨_, rfl⟩
                rw [← eU19]
                have hHU19 : HI U19 := by rw [eU19]; exact HI_w hHU18 (show 0 ≤ ((v4 - v2) - 1) by omega) (show ((v4 - v2) - 1) ≤ 5000 by omega)
                have hFU19 : FR md_mo_cut S U19 := by rw [eU19]; exact FR.wI hFU18 (mdf_i (r := (909, 910, 0, 100000)) (List.mem_of_getElem? (i := 2) rfl) (inR_i (by omega) (by omega) (by omega) (by omega)))
                have w177 : Xi U19 909 ((v1).toNat) = ((v4 - v2) - 1) := by rw [eU19]; exact Xi_same (by unfold rg; omega)
                have c384 : CT U19 v1 v2 := c372.w eU19 (by omega)
                refine l_iinc rfl rfl rfl rfl ?_
                refine l_goto rfl rfl ?_
                have w178 : Xi U19 908 (v1).toNat = Xi T15 908 (v1).toNat := (show Xi U19 908 (v1).toNat = Xi U18 908 (v1).toNat from by rw [eU19]; exact Xi_ne (by omega)).trans ((show Xi U18 908 (v1).toNat = Xi T15 908 (v1).toNat from by rw [eU18]; exact Xi_ne (by omega)))
                have w179 : Xi U19 907 (v1).toNat = Xi U18 907 (v1).toNat := (show Xi U19 907 (v1).toNat = Xi U18 907 (v1).toNat from by rw [eU19]; exact Xi_ne (by omega))
                have w180 : Xi U19 904 3 = Xi T15 904 3 := (show Xi U19 904 3 = Xi U18 904 3 from by rw [eU19]; exact Xi_ne (by omega)).trans ((show Xi U18 904 3 = Xi T15 904 3 from by rw [eU18]; exact Xi_ne (by omega)))
                have w181 : 0 ≤ Xi T15 904 3 ∧ Xi T15 904 3 ≤ 5000 := hHT15.c _ _
                exact Rl_weak (C426 U19 hHU19 hFU19 (v1) ((v4 + 1)) (by omega) (by omega) (by rw [show Xi U19 908 (v1).toNat = v2 by omega]; assumption) (by omega) (by omega) (by omega) (by omega) (by omega) (by omega) (by omega) (by first | exact fun q => ⟨by have := k153 q; omega, by have := k153 q; omega⟩ | exact fun q => absurd q (by unfold K3; omega)) (by omega)) (And.intro rfl (And.intro rfl (And.intro rfl (True.intro))))
              · refine l_iload rfl rfl ?_
                refine l_iload_n rfl rfl ?_
                refine l_isub rfl ?_
                refine l_iconst rfl ?_
                refine l_isub rfl ?_
                refine l_bipush rfl rfl ?_
                refine l_icmp_gt rfl rfl (by unfold rg; omega) (by unfold rg; omega) (fun w182 => ?_) (fun w183 => ?_)
                · refine l_iconst rfl ?_
                  refine l_iastore (n := 5002) rfl rfl (by omega) (by omega) (by unfold rg; omega) ?_
                  obtain ⟨U20, eU20⟩ : ∃ T : sS, T = uI T15 907 ((v1).toNat) (Int32.ofInt 2) := ⟨_, rfl⟩
                  rw [← eU20]
                  have hHU20 : HI U20 := by rw [eU20]; exact HI_w hHT15 (show 0 ≤ 2 by omega) (show 2 ≤ 154 by omega)
                  have hFU20 : FR md_mo_cut S U20 := by rw [eU20]; exact FR.wI hFT15 (mdf_i (r := (907, 908, 0, 100000)) (List.mem_of_getElem? (i := 0) rfl) (inR_i (by omega) (by omega) (by omega) (by omega)))
                  have w184 : Xi U20 907 ((v1).toNat) = 2 := by rw [eU20]; exact Xi_same (by unfold rg; omega)
                  have c372 : CT U20 v1 v2 := C337.w eU20 (by omega)
                  refine l_aload_n rfl rfl ?_
                  refine l_gfr rfl rfl rfl rfl rfl (hHU20.r 904 6 909 rfl) ?_
                  refine l_iload_n rfl rfl ?_
                  refine l_iload rfl rfl ?_
                  refine l_iload_n rfl rfl ?_
                  refine l_isub rfl ?_
                  refine l_iconst rfl ?_
                  refine l_isub rfl ?_
                  refine l_iastore (n := 5002) rfl rfl (by omega) (by omega) (by unfold rg; omega) ?_
                  obtain ⟨U21, eU21⟩ : ∃ T : sS, T = uI U20 909 ((v1).toNat) (Int32.ofInt ((v4 - v2) - 1)) := ⟨_, rfl⟩
                  rw [← eU21]
                  have hHU21 : HI U21 := by rw [eU21]; exact HI_w hHU20 (show 0 ≤ ((v4 - v2) - 1) by omega) (show ((v4 - v2) - 1) ≤ 5000 by omega)
                  have hFU21 : FR md_mo_cut S U21 := by rw [eU21]; exact FR.wI hFU20 (mdf_i (r := (909, 910, 0, 100000)) (List.mem_of_getElem? (i := 2) rfl) (inR_i (by omega) (by omega) (by omega) (by omega)))
                  have w185 : Xi U21 909 ((v1).toNat) = ((v4 - v2) - 1) := by rw [eU21]; exact Xi_same (by unfold rg; omega)
                  have c384 : CT U21 v1 v2 := c372.w eU21 (by omega)
                  refine l_iinc rfl rfl rfl rfl ?_
                  refine l_goto rfl rfl ?_
                  have w186 : Xi U21 908 (v1).toNat = Xi T15 908 (v1).toNat := (show Xi U21 908 (v1).toNat = Xi U20 908 (v1).toNat from by rw [eU21]; exact Xi_ne (by omega)).trans ((show Xi U20 908 (v1).toNat = Xi T15 908 (v1).toNat from by rw [eU20]; exact Xi_ne (by omega)))
                  have w187 : Xi U21 907 (v1).toNat = Xi U20 907 (v1).toNat := (show Xi U21 907 (v1).toNat = Xi U20 907 (v1).toNat from by rw [eU21]; exact Xi_ne (by omega))
                  have w188 : Xi U21 904 3 = Xi T15 904 3 := (show Xi U21 904 3 = Xi U20 904 3 from by rw [eU21]; exact Xi_ne (by omega)).trans ((show Xi U20 904 3 = Xi T15 904 3 from by rw [eU20]; exact Xi_ne (by omega)))
                  have w189 : 0 ≤ Xi T15 904 3 ∧ Xi T15 904 3 ≤ 5000 := hHT15.c _ _
                  exact Rl_weak (C426 U21 hHU21 hFU21 (v1) ((v4 + 1)) (by omega) (by omega) (by rw [show Xi U21 908 (v1).toNat = v2 by omega]; assumption) (by omega) (by omega) (by omega) (by omega) (by omega) (by omega) (by omega) (by first | exact fun q => ⟨by have := k153 q; omega, by have := k153 q; omega⟩ | exact fun q => absurd q (by unfold K3; omega)) (by omega)) (And.intro rfl (And.intro rfl (And.intro rfl (True.intro))))
                · refine l_iconst rfl ?_
                  refine l_goto rfl rfl ?_
                  refine l_iastore (n := 5002) rfl rfl (by omega) (by omega) (by unfold rg; omega) ?_
                  obtain ⟨U22, eU22⟩ : ∃ T : sS, T = uI T15 907 ((v1).toNat) (Int32.ofInt 5) := ⟨_, rfl⟩
                  rw [← eU22]
                  have hHU22 : HI U22 := by rw [eU22]; exact HI_w hHT15 (show 0 ≤ 5 by omega) (show 5 ≤ 154 by omega)
                  have hFU22 : FR md_mo_cut S U22 := by rw [eU22]; exact FR.wI hFT15 (mdf_i (r := (907, 908, 0, 100000)) (List.mem_of_getElem? (i := 0) rfl) (inR_i (by omega) (by omega) (by omega) (by omega)))
                  have w190 : Xi U22 907 ((v1).toNat) = 5 := by rw [eU22]; exact Xi_same (by unfold rg; omega)
                  have c372 : CT U22 v1 v2 := C337.w eU22 (by omega)
                  refine l_aload_n rfl rfl ?_
                  refine l_gfr rfl rfl rfl rfl rfl (hHU22.r 904 6 909 rfl) ?_
                  refine l_iload_n rfl rfl ?_
                  refine l_iload rfl rfl ?_
                  refine l_iload_n rfl rfl ?_
                  refine l_isub rfl ?_
                  refine l_iconst rfl ?_
                  refine l_isub rfl ?_
                  refine l_iastore (n := 5002) rfl rfl (by omega) (by omega) (by unfold rg; omega) ?_
                  obtain ⟨U23, eU23⟩ : ∃ T : sS, T = uI U22 909 ((v1).toNat) (Int32.ofInt ((v4 - v2) - 1)) := ⟨_, rfl⟩
                  rw [← eU23]
                  have hHU23 : HI U23 := by rw [eU23]; exact HI_w hHU22 (show 0 ≤ ((v4 - v2) - 1) by omega) (show ((v4 - v2) - 1) ≤ 5000 by omega)
                  have hFU23 : FR md_mo_cut S U23 := by rw [eU23]; exact FR.wI hFU22 (mdf_i (r := (909, 910, 0, 100000)) (List.mem_of_getElem? (i := 2) rfl) (inR_i (by omega) (by omega) (by omega) (by omega)))
                  have w191 : Xi U23 909 ((v1).toNat) = ((v4 - v2) - 1) := by rw [eU23]; exact Xi_same (by unfold rg; omega)
                  have c384 : CT U23 v1 v2 := c372.w eU23 (by omega)
                  refine l_iinc rfl rfl rfl rfl ?_
                  refine l_goto rfl rfl ?_
                  have w192 : Xi U23 908 (v1).toNat = Xi T15 908 (v1).toNat := (show Xi U23 908 (v1).toNat = Xi U22 908 (v1).toNat from by rw [eU23]; exact Xi_ne (by omega)).trans ((show Xi U22 908 (v1).toNat = Xi T15 908 (v1).toNat from by rw [eU22]; exact Xi_ne (by omega)))
                  have w193 : Xi U23 907 (v1).toNat = Xi U22 907 (v1).toNat := (show Xi U23 907 (v1).toNat = Xi U22 907 (v1).toNat from by rw [eU23]; exact Xi_ne (by omega))
                  have w194 : Xi U23 904 3 = Xi T15 904 3 := (show Xi U23 904 3 = Xi U22 904 3 from by rw [eU23]; exact Xi_ne (by omega)).trans ((show Xi U22 904 3 = Xi T15 904 3 from by rw [eU22]; exact Xi_ne (by omega)))
                  have w195 : 0 ≤ Xi T15 904 3 ∧ Xi T15 904 3 ≤ 5000 := hHT15.c _ _
                  exact Rl_weak (C426 U23 hHU23 hFU23 (v1) ((v4 + 1)) (by omega) (by omega) (by rw [show Xi U23 908 (v1).toNat = v2 by omega]; assumption) (by omega) (by omega) (by omega) (by omega) (by omega) (by omega) (by omega) (by first | exact fun q => ⟨by have := k153 q; omega, by have := k153 q; omega⟩ | exact fun q => absurd q (by unfold K3; omega)) (by omega)) (And.intro rfl (And.intro rfl (And.intro rfl (True.intro))))
          refine l_iload rfl rfl ?_
          refine l_aload_n rfl rfl ?_
          refine l_gfi rfl rfl rfl rfl rfl ?_
          refine l_icmp_ge rfl rfl (by unfold rg; omega) (by unfold rg; omega) (fun w196 => ?_) (fun w197 => ?_)
          · have w198 : 0 ≤ Xi T14 904 3 ∧ Xi T14 904 3 ≤ 5000 := hHT14.c _ _
            exact Rl_weak (C337 T14 hHT14 hFT14 (v1) (v2) (v4) (v5) (by omega) (by omega) (by omega) (by omega) (C281) (by omega) (by omega) (by omega) (by omega) (by omega) (by omega) (by omega)) (And.intro rfl (And.intro rfl (And.intro rfl (And.intro rfl (And.intro rfl (True.intro))))))
          · refine l_aload_n rfl rfl ?_
            refine l_gfr rfl rfl rfl rfl rfl (hHT14.r 904 2 906 rfl) ?_
            refine l_iload rfl rfl ?_
            refine l_baload (n := 5000) rfl rfl rfl (by decide) (by omega) (by omega) (by unfold rg; omega) ?_
            have w199 : -128 ≤ (Xi T14 906 ((v4).toNat)) ∧ (Xi T14 906 ((v4).toNat)) ≤ 127 := hHT14.c _ _
            refine l_bipush rfl rfl ?_
            refine l_icmp_eq rfl rfl (by unfold rg; omega) (by unfold rg; omega) (fun w200 => ?_) (fun w201 => ?_)
            · have w202 : 0 ≤ Xi T14 904 3 ∧ Xi T14 904 3 ≤ 5000 := hHT14.c _ _
              exact Rl_weak (C337 T14 hHT14 hFT14 (v1) (v2) (v4) (v5) (by omega) (by omega) (by omega) (by omega) (C281) (by omega) (by omega) (by omega) (by omega) (by omega) (by omega) (by omega)) (And.intro rfl (And.intro rfl (And.intro rfl (And.intro rfl (And.intro rfl (True.intro))))))
            · refine l_iload rfl rfl ?_
              refine l_if_eq rfl rfl (by unfold rg; omega) (fun w203 => ?_) (fun w204 => ?_)
              · refine l_iconst rfl ?_
                refine l_istore rfl rfl rfl ?_
                refine l_iinc rfl rfl rfl rfl ?_
                refine l_goto rfl rfl ?_
                have w205 : 0 ≤ Xi T14 904 3 ∧ Xi T14 904 3 ≤ 5000 := hHT14.c _ _
                exact Rl_weak (ih281 _ (by omega) T14 hHT14 hFT14 (v1) (v2) ((v4 + 1)) (0) (by omega) (by omega) (by omega) (by omega) (by first | exact C281 | exact c50) (by omega) (by omega) (by omega) (by omega) (by omega) (by omega) (by omega) rfl) (And.intro rfl (And.intro rfl (And.intro rfl (And.intro rfl (And.intro rfl (True.intro))))))
              · refine l_aload_n rfl rfl ?_
                refine l_gfr rfl rfl rfl rfl rfl (hHT14.r 904 2 906 rfl) ?_
                refine l_iload rfl rfl ?_
                refine l_baload (n := 5000) rfl rfl rfl (by decide) (by omega) (by omega) (by unfold rg; omega) ?_
                refine l_bipush rfl rfl ?_
                refine l_bipush rfl rfl ?_
                have w206 : 0 ≤ Xi T14 904 3 ∧ Xi T14 904 3 ≤ 5000 := hHT14.c _ _
                refine l_callS rfl rfl (by decide) rfl (t_mo_in hHT14 (Xi T14 906 ((v4).toNat)) 32 126 ⟨by omega, by omega⟩ ⟨by omega, by omega⟩ ⟨by omega, by omega⟩ _) ?_
                rintro _ _ ⟨rfl, z208, rfl, w208, w207⟩
                show Rl _ _ _ _ _ [iv z208] _ _
                refine l_if_eq rfl rfl (by unfold rg; omega) (fun w209 => ?_) (fun w210 => ?_)
                · refine l_iconst rfl ?_
                  refine l_istore rfl rfl rfl ?_
                  refine l_iinc rfl rfl rfl rfl ?_
                  refine l_goto rfl rfl ?_
                  have w211 : 0 ≤ Xi T14 904 3 ∧ Xi T14 904 3 ≤ 5000 := hHT14.c _ _
                  exact Rl_weak (ih281 _ (by omega) T14 hHT14 hFT14 (v1) (v2) ((v4 + 1)) (0) (by omega) (by omega) (by omega) (by omega) (by first | exact C281 | exact c50) (by omega) (by omega) (by omega) (by omega) (by omega) (by omega) (by omega) rfl) (And.intro rfl (And.intro rfl (And.intro rfl (And.intro rfl (And.intro rfl (True.intro))))))
                · refine l_iconst rfl ?_
                  refine l_goto rfl rfl ?_
                  refine l_istore rfl rfl rfl ?_
                  refine l_iinc rfl rfl rfl rfl ?_
                  refine l_goto rfl rfl ?_
                  have w212 : 0 ≤ Xi T14 904 3 ∧ Xi T14 904 3 ≤ 5000 := hHT14.c _ _
                  exact Rl_weak (ih281 _ (by omega) T14 hHT14 hFT14 (v1) (v2) ((v4 + 1)) (1) (by omega) (by omega) (by omega) (by omega) (by first | exact C281 | exact c50) (by omega) (by omega) (by omega) (by omega) (by omega) (by omega) (by omega) rfl) (And.intro rfl (And.intro rfl (And.intro rfl (And.intro rfl (And.intro rfl (True.intro))))))
      have C439 : ∀  (T24 : sS) (_ : HI T24) (_ : FR md_mo_cut S T24) (v1 : Int), (0 ≤ v1 ∧ v1 ≤ 5000) → (CT T24 v1 (Xi S 904 3)) → (v1 ≤ 5000) → (Xi T24 904 3 = Xi S 904 3) → Rl lay0 (d + 3) m_mo_cut 439 [(0, .ref 904), (1, iv v1)] [] T24 (Q_mo_cut S) := by
        intro T24 hHT24 hFT24 v1 w213 D439 w214 w215
        have w216 : Xi T24 904 3 = Xi S 904 3 := hFT24.x _ _ rfl
        have w217 : 0 ≤ Xi T24 904 3 ∧ Xi T24 904 3 ≤ 5000 := hHT24.c _ _
        refine l_aload_n rfl rfl ?_
        refine l_gfr rfl rfl rfl rfl rfl (hHT24.r 904 4 907 rfl) ?_
        refine l_iload_n rfl rfl ?_
        refine l_iconst rfl ?_
        refine l_iastore (n := 5002) rfl rfl (by omega) (by omega) (by unfold rg; omega) ?_
        obtain ⟨U25, eU25⟩ : ∃ T : sS, T = uI T24 907 ((v1).toNat) (Int32.ofInt 1) := ⟨_, rfl⟩
        rw [← eU25]
        have hHU25 : HI U25 := by rw [eU25]; exact HI_w hHT24 (show 0 ≤ 1 by omega) (show 1 ≤ 154 by omega)
        have hFU25 : FR md_mo_cut S U25 := by rw [eU25]; exact FR.wI hFT24 (mdf_i (r := (907, 908, 0, 100000)) (List.mem_of_getElem? (i := 0) rfl) (inR_i (by omega) (by omega) (by omega) (by omega)))
        have w218 : Xi U25 907 ((v1).toNat) = 1 := by rw [eU25]; exact Xi_same (by unfold rg; omega)
        refine l_aload_n rfl rfl ?_
        refine l_gfr rfl rfl rfl rfl rfl (hHU25.r 904 5 908 rfl) ?_
        refine l_iload_n rfl rfl ?_
        refine l_aload_n rfl rfl ?_
        refine l_gfi rfl rfl rfl rfl rfl ?_
        have w219 : (Xi U25 904 3) = (Xi T24 904 3) := (show Xi U25 904 3 = Xi T24 904 3 from by rw [eU25]; exact Xi_ne (by omega))
        rw [w219]
        refine l_iastore (n := 5002) rfl rfl (by omega) (by omega) (by unfold rg; omega) ?_
        obtain ⟨U26, eU26⟩ : ∃ T : sS, T = uI U25 908 ((v1).toNat) (Int32.ofInt (Xi T24 904 3)) := ⟨_, rfl⟩
        rw [← eU26]
        have hHU26 : HI U26 := by rw [eU26]; exact HI_w hHU25 (show 0 ≤ (Xi T24 904 3) by omega) (show (Xi T24 904 3) ≤ 5000 by omega)
        have hFU26 : FR md_mo_cut S U26 := by rw [eU26]; exact FR.wI hFU25 (mdf_i (r := (908, 909, 0, 100000)) (List.mem_of_getElem? (i := 1) rfl) (inR_i (by omega) (by omega) (by omega) (by omega)))
        have w220 : Xi U26 908 ((v1).toNat) = (Xi T24 904 3) := by rw [eU26]; exact Xi_same (by unfold rg; omega)
        refine l_return rfl rfl ?_
        have w221 : Xi U26 907 (v1).toNat = Xi U25 907 (v1).toNat := (show Xi U26 907 (v1).toNat = Xi U25 907 (v1).toNat from by rw [eU26]; exact Xi_ne (by omega))
        have w222 : Xi U26 909 (v1).toNat = Xi T24 909 (v1).toNat := (show Xi U26 909 (v1).toNat = Xi U25 909 (v1).toNat from by rw [eU26]; exact Xi_ne (by omega)).trans ((show Xi U25 909 (v1).toNat = Xi T24 909 (v1).toNat from by rw [eU25]; exact Xi_ne (by omega)))
        have w223 : Xi U26 904 3 = Xi T24 904 3 := (show Xi U26 904 3 = Xi U25 904 3 from by rw [eU26]; exact Xi_ne (by omega)).trans ((show Xi U25 904 3 = Xi T24 904 3 from by rw [eU25]; exact Xi_ne (by omega)))
        have w224 : 0 ≤ Xi T24 904 3 ∧ Xi T24 904 3 ≤ 5000 := hHT24.c _ _
        exact ⟨hHU26, hFU26, rfl, (⟨_, ct_tk D439 (by omega) (by omega) eU25 eU26 rfl rfl (by omega) (by omega)⟩)⟩
      refine l_iload_n rfl rfl ?_
      refine l_aload_n rfl rfl ?_
      refine l_gfi rfl rfl rfl rfl rfl ?_
      refine l_icmp_ge rfl rfl (by unfold rg; omega) (by unfold rg; omega) (fun w225 => ?_) (fun w226 => ?_)
      · have w227 : 0 ≤ Xi T1 904 3 ∧ Xi T1 904 3 ≤ 5000 := hHT1.c _ _
        exact Rl_weak (C439 T1 hHT1 hFT1 (v1) (by omega) (D8) (by omega) (by omega)) (And.intro rfl (And.intro rfl (True.intro)))
      · refine l_iload_n rfl rfl ?_
        refine l_if_eq rfl rfl (by unfold rg; omega) (fun w228 => ?_) (fun w229 => ?_)
        · refine l_aload_n rfl rfl ?_
          refine l_gfr rfl rfl rfl rfl rfl (hHT1.r 904 2 906 rfl) ?_
          refine l_iload_n rfl rfl ?_
          refine l_baload (n := 5000) rfl rfl rfl (by decide) (by omega) (by omega) (by unfold rg; omega) ?_
          have w230 : -128 ≤ (Xi T1 906 ((v2).toNat)) ∧ (Xi T1 906 ((v2).toNat)) ≤ 127 := hHT1.c _ _
          have e37 : (Xi T1 906 ((v2).toNat)) = Xi S 906 (v2).toNat := by first | rfl | exact (hFT1.cx 906 rfl _).1
          refine l_istore_n rfl rfl rfl ?_
          refine l_iload_n rfl rfl ?_
          refine l_iconst rfl ?_
          refine l_iadd rfl ?_
          refine l_istore rfl rfl rfl ?_
          refine l_aload_n rfl rfl ?_
          refine l_gfr rfl rfl rfl rfl rfl (hHT1.r 904 5 908 rfl) ?_
          refine l_iload_n rfl rfl ?_
          refine l_iload_n rfl rfl ?_
          refine l_iastore (n := 5002) rfl rfl (by omega) (by omega) (by unfold rg; omega) ?_
          obtain ⟨U27, eU27⟩ : ∃ T : sS, T = uI T1 908 ((v1).toNat) (Int32.ofInt v2) := ⟨_, rfl⟩
          rw [← eU27]
          have hHU27 : HI U27 := by rw [eU27]; exact HI_w hHT1 (show 0 ≤ v2 by omega) (show v2 ≤ 5000 by omega)
          have hFU27 : FR md_mo_cut S U27 := by rw [eU27]; exact FR.wI hFT1 (mdf_i (r := (908, 909, 0, 100000)) (List.mem_of_getElem? (i := 1) rfl) (inR_i (by omega) (by omega) (by omega) (by omega)))
          have w231 : Xi U27 908 ((v1).toNat) = v2 := by rw [eU27]; exact Xi_same (by unfold rg; omega)
          have c50 : CT U27 v1 v2 := C8.w eU27 (by omega)
          refine l_iload_n rfl rfl ?_
          have w232 : Xi U27 904 3 = Xi T1 904 3 := (show Xi U27 904 3 = Xi T1 904 3 from by rw [eU27]; exact Xi_ne (by omega))
          have w233 : 0 ≤ Xi T1 904 3 ∧ Xi T1 904 3 ≤ 5000 := hHT1.c _ _
          refine l_callS rfl rfl (by decide) rfl (t_mo_isLetter hHU27 (Xi T1 906 ((v2).toNat)) ⟨by omega, by omega⟩ _) ?_
          rintro _ _ ⟨rfl, z235, rfl, w235, w234⟩
          show Rl _ _ _ _ _ [iv z235] _ _
          have l52 : z235 = 1 → ltr (Xi S 906 (v2).toNat) = 1 := fun q => by rw [← e37, ← (by assumption : z235 = ltr _)]; exact q
          refine l_if_eq rfl rfl (by unfold rg; omega) (fun w236 => ?_) (fun w237 => ?_)
          · refine l_iload_n rfl rfl ?_
            refine l_bipush rfl rfl ?_
            refine l_bipush rfl rfl ?_
            have w238 : Xi U27 904 3 = Xi T1 904 3 := (show Xi U27 904 3 = Xi T1 904 3 from by rw [eU27]; exact Xi_ne (by omega))
            have w239 : 0 ≤ Xi T1 904 3 ∧ Xi T1 904 3 ≤ 5000 := hHT1.c _ _
            refine l_callS rfl rfl (by decide) rfl (t_mo_in hHU27 (Xi T1 906 ((v2).toNat)) 48 57 ⟨by omega, by omega⟩ ⟨by omega, by omega⟩ ⟨by omega, by omega⟩ _) ?_
            rintro _ _ ⟨rfl, z241, rfl, w241, w240⟩
            show Rl _ _ _ _ _ [iv z241] _ _
            refine l_if_eq rfl rfl (by unfold rg; omega) (fun w242 => ?_) (fun w243 => ?_)
            · refine l_iload_n rfl rfl ?_
              refine l_bipush rfl rfl ?_
              refine l_icmp_ne rfl rfl (by unfold rg; omega) (by unfold rg; omega) (fun w244 => ?_) (fun w245 => ?_)
              · refine l_aload_n rfl rfl ?_
                refine l_gfr rfl rfl rfl rfl rfl (hHU27.r 904 4 907 rfl) ?_
                refine l_iload_n rfl rfl ?_
                refine l_iload_n rfl rfl ?_
                refine l_bipush rfl rfl ?_
                refine l_icmp_eq rfl rfl (by unfold rg; omega) (by unfold rg; omega) (fun w246 => ?_) (fun w247 => ?_)
                · refine l_iload_n rfl rfl ?_
                  refine l_goto rfl rfl ?_
                  refine l_iastore (n := 5002) rfl rfl (by omega) (by omega) (by unfold rg; omega) ?_
                  obtain ⟨U28, eU28⟩ : ∃ T : sS, T = uI U27 907 ((v1).toNat) (Int32.ofInt (Xi T1 906 ((v2).toNat))) := ⟨_, rfl⟩
                  rw [← eU28]
                  have hHU28 : HI U28 := by rw [eU28]; exact HI_w hHU27 (show 0 ≤ (Xi T1 906 ((v2).toNat)) by omega) (show (Xi T1 906 ((v2).toNat)) ≤ 154 by omega)
                  have hFU28 : FR md_mo_cut S U28 := by rw [eU28]; exact FR.wI hFU27 (mdf_i (r := (907, 908, 0, 100000)) (List.mem_of_getElem? (i := 0) rfl) (inR_i (by omega) (by omega) (by omega) (by omega)))
                  have w248 : Xi U28 907 ((v1).toNat) = (Xi T1 906 ((v2).toNat)) := by rw [eU28]; exact Xi_same (by unfold rg; omega)
                  have c425 : CT U28 v1 v2 := c50.w eU28 (by omega)
                  have w249 : Xi U28 908 (v1).toNat = Xi U27 908 (v1).toNat := (show Xi U28 908 (v1).toNat = Xi U27 908 (v1).toNat from by rw [eU28]; exact Xi_ne (by omega))
                  have w250 : Xi U28 909 (v1).toNat = Xi T1 909 (v1).toNat := (show Xi U28 909 (v1).toNat = Xi U27 909 (v1).toNat from by rw [eU28]; exact Xi_ne (by omega)).trans ((show Xi U27 909 (v1).toNat = Xi T1 909 (v1).toNat from by rw [eU27]; exact Xi_ne (by omega)))
                  have w251 : Xi U28 904 3 = Xi T1 904 3 := (show Xi U28 904 3 = Xi U27 904 3 from by rw [eU28]; exact Xi_ne (by omega)).trans ((show Xi U27 904 3 = Xi T1 904 3 from by rw [eU27]; exact Xi_ne (by omega)))
                  have w252 : 0 ≤ Xi T1 904 3 ∧ Xi T1 904 3 ≤ 5000 := hHT1.c _ _
                  exact Rl_weak (C426 U28 hHU28 hFU28 (v1) ((v2 + 1)) (by omega) (by omega) (by rw [show Xi U28 908 (v1).toNat = v2 by omega]; assumption) (by omega) (by omega) (by omega) (by omega) (by omega) (by omega) (by omega) (by first | exact fun q => ⟨by have := k153 q; omega, by have := k153 q; omega⟩ | exact fun q => absurd q (by unfold K3; omega)) (by omega)) (And.intro rfl (And.intro rfl (And.intro rfl (True.intro))))
                · refine l_iload_n rfl rfl ?_
                  refine l_bipush rfl rfl ?_
                  refine l_icmp_eq rfl rfl (by unfold rg; omega) (by unfold rg; omega) (fun w253 => ?_) (fun w254 => ?_)
                  · refine l_iload_n rfl rfl ?_
                    refine l_goto rfl rfl ?_
                    refine l_iastore (n := 5002) rfl rfl (by omega) (by omega) (by unfold rg; omega) ?_
                    obtain ⟨U29, eU29⟩ : ∃ T : sS, T = uI U27 907 ((v1).toNat) (Int32.ofInt (Xi T1 906 ((v2).toNat))) := ⟨_, rfl⟩
                    rw [← eU29]
                    have hHU29 : HI U29 := by rw [eU29]; exact HI_w hHU27 (show 0 ≤ (Xi T1 906 ((v2).toNat)) by omega) (show (Xi T1 906 ((v2).toNat)) ≤ 154 by omega)
                    have hFU29 : FR md_mo_cut S U29 := by rw [eU29]; exact FR.wI hFU27 (mdf_i (r := (907, 908, 0, 100000)) (List.mem_of_getElem? (i := 0) rfl) (inR_i (by omega) (by omega) (by omega) (by omega)))
                    have w255 : Xi U29 907 ((v1).toNat) = (Xi T1 906 ((v2).toNat)) := by rw [eU29]; exact Xi_same (by unfold rg; omega)
                    have c425 : CT U29 v1 v2 := c50.w eU29 (by omega)
                    have w256 : Xi U29 908 (v1).toNat = Xi U27 908 (v1).toNat := (show Xi U29 908 (v1).toNat = Xi U27 908 (v1).toNat from by rw [eU29]; exact Xi_ne (by omega))
                    have w257 : Xi U29 909 (v1).toNat = Xi T1 909 (v1).toNat := (show Xi U29 909 (v1).toNat = Xi U27 909 (v1).toNat from by rw [eU29]; exact Xi_ne (by omega)).trans ((show Xi U27 909 (v1).toNat = Xi T1 909 (v1).toNat from by rw [eU27]; exact Xi_ne (by omega)))
                    have w258 : Xi U29 904 3 = Xi T1 904 3 := (show Xi U29 904 3 = Xi U27 904 3 from by rw [eU29]; exact Xi_ne (by omega)).trans ((show Xi U27 904 3 = Xi T1 904 3 from by rw [eU27]; exact Xi_ne (by omega)))
                    have w259 : 0 ≤ Xi T1 904 3 ∧ Xi T1 904 3 ≤ 5000 := hHT1.c _ _
                    exact Rl_weak (C426 U29 hHU29 hFU29 (v1) ((v2 + 1)) (by omega) (by omega) (by rw [show Xi U29 908 (v1).toNat = v2 by omega]; assumption) (by omega) (by omega) (by omega) (by omega) (by omega) (by omega) (by omega) (by first | exact fun q => ⟨by have := k153 q; omega, by have := k153 q; omega⟩ | exact fun q => absurd q (by unfold K3; omega)) (by omega)) (And.intro rfl (And.intro rfl (And.intro rfl (True.intro))))
                  · refine l_iload_n rfl rfl ?_
                    refine l_bipush rfl rfl ?_
                    refine l_icmp_eq rfl rfl (by unfold rg; omega) (by unfold rg; omega) (fun w260 => ?_) (fun w261 => ?_)
                    · refine l_iload_n rfl rfl ?_
                      refine l_goto rfl rfl ?_
                      refine l_iastore (n := 5002) rfl rfl (by omega) (by omega) (by unfold rg; omega) ?_
                      obtain ⟨U30, eU30⟩ : ∃ T : sS, T = uI U27 907 ((v1).toNat) (Int32.ofInt (Xi T1 906 ((v2).toNat))) := ⟨_, rfl⟩
                      rw [← eU30]
                      have hHU30 : HI U30 := by rw [eU30]; exact HI_w hHU27 (show 0 ≤ (Xi T1 906 ((v2).toNat)) by omega) (show (Xi T1 906 ((v2).toNat)) ≤ 154 by omega)
                      have hFU30 : FR md_mo_cut S U30 := by rw [eU30]; exact FR.wI hFU27 (mdf_i (r := (907, 908, 0, 100000)) (List.mem_of_getElem? (i := 0) rfl) (inR_i (by omega) (by omega) (by omega) (by omega)))
                      have w262 : Xi U30 907 ((v1).toNat) = (Xi T1 906 ((v2).toNat)) := by rw [eU30]; exact Xi_same (by unfold rg; omega)
                      have c425 : CT U30 v1 v2 := c50.w eU30 (by omega)
                      have w263 : Xi U30 908 (v1).toNat = Xi U27 908 (v1).toNat := (show Xi U30 908 (v1).toNat = Xi U27 908 (v1).toNat from by rw [eU30]; exact Xi_ne (by omega))
                      have w264 : Xi U30 909 (v1).toNat = Xi T1 909 (v1).toNat := (show Xi U30 909 (v1).toNat = Xi U27 909 (v1).toNat from by rw [eU30]; exact Xi_ne (by omega)).trans ((show Xi U27 909 (v1).toNat = Xi T1 909 (v1).toNat from by rw [eU27]; exact Xi_ne (by omega)))
                      have w265 : Xi U30 904 3 = Xi T1 904 3 := (show Xi U30 904 3 = Xi U27 904 3 from by rw [eU30]; exact Xi_ne (by omega)).trans ((show Xi U27 904 3 = Xi T1 904 3 from by rw [eU27]; exact Xi_ne (by omega)))
                      have w266 : 0 ≤ Xi T1 904 3 ∧ Xi T1 904 3 ≤ 5000 := hHT1.c _ _
                      exact Rl_weak (C426 U30 hHU30 hFU30 (v1) ((v2 + 1)) (by omega) (by omega) (by rw [show Xi U30 908 (v1).toNat = v2 by omega]; assumption) (by omega) (by omega) (by omega) (by omega) (by omega) (by omega) (by omega) (by first | exact fun q => ⟨by have := k153 q; omega, by have := k153 q; omega⟩ | exact fun q => absurd q (by unfold K3; omega)) (by omega)) (And.intro rfl (And.intro rfl (And.intro rfl (True.intro))))
                    · refine l_iload_n rfl rfl ?_
                      refine l_bipush rfl rfl ?_
                      refine l_icmp_ne rfl rfl (by unfold rg; omega) (by unfold rg; omega) (fun w267 => ?_) (fun w268 => ?_)
                      · refine l_iconst rfl ?_
                        refine l_iastore (n := 5002) rfl rfl (by omega) (by omega) (by unfold rg; omega) ?_
                        obtain ⟨U31, eU31⟩ : ∃ T : sS, T = uI U27 907 ((v1).toNat) (Int32.ofInt 2) := ⟨_, rfl⟩
                        rw [← eU31]
                        have hHU31 : HI U31 := by rw [eU31]; exact HI_w hHU27 (show 0 ≤ 2 by omega) (show 2 ≤ 154 by omega)
                        have hFU31 : FR md_mo_cut S U31 := by rw [eU31]; exact FR.wI hFU27 (mdf_i (r := (907, 908, 0, 100000)) (List.mem_of_getElem? (i := 0) rfl) (inR_i (by omega) (by omega) (by omega) (by omega)))
                        have w269 : Xi U31 907 ((v1).toNat) = 2 := by rw [eU31]; exact Xi_same (by unfold rg; omega)
                        have c425 : CT U31 v1 v2 := c50.w eU31 (by omega)
                        have w270 : Xi U31 908 (v1).toNat = Xi U27 908 (v1).toNat := (show Xi U31 908 (v1).toNat = Xi U27 908 (v1).toNat from by rw [eU31]; exact Xi_ne (by omega))
                        have w271 : Xi U31 909 (v1).toNat = Xi T1 909 (v1).toNat := (show Xi U31 909 (v1).toNat = Xi U27 909 (v1).toNat from by rw [eU31]; exact Xi_ne (by omega)).trans ((show Xi U27 909 (v1).toNat = Xi T1 909 (v1).toNat from by rw [eU27]; exact Xi_ne (by omega)))
                        have w272 : Xi U31 904 3 = Xi T1 904 3 := (show Xi U31 904 3 = Xi U27 904 3 from by rw [eU31]; exact Xi_ne (by omega)).trans ((show Xi U27 904 3 = Xi T1 904 3 from by rw [eU27]; exact Xi_ne (by omega)))
                        have w273 : 0 ≤ Xi T1 904 3 ∧ Xi T1 904 3 ≤ 5000 := hHT1.c _ _
                        exact Rl_weak (C426 U31 hHU31 hFU31 (v1) ((v2 + 1)) (by omega) (by omega) (by rw [show Xi U31 908 (v1).toNat = v2 by omega]; assumption) (by omega) (by omega) (by omega) (by omega) (by omega) (by omega) (by omega) (by first | exact fun q => ⟨by have := k153 q; omega, by have := k153 q; omega⟩ | exact fun q => absurd q (by unfold K3; omega)) (by omega)) (And.intro rfl (And.intro rfl (And.intro rfl (True.intro))))
                      · refine l_iload_n rfl rfl ?_
                        refine l_goto rfl rfl ?_
                        refine l_iastore (n := 5002) rfl rfl (by omega) (by omega) (by unfold rg; omega) ?_
                        obtain ⟨U32, eU32⟩ : ∃ T : sS, T = uI U27 907 ((v1).toNat) (Int32.ofInt (Xi T1 906 ((v2).toNat))) := ⟨_, rfl⟩
                        rw [← eU32]
                        have hHU32 : HI U32 := by rw [eU32]; exact HI_w hHU27 (show 0 ≤ (Xi T1 906 ((v2).toNat)) by omega) (show (Xi T1 906 ((v2).toNat)) ≤ 154 by omega)
                        have hFU32 : FR md_mo_cut S U32 := by rw [eU32]; exact FR.wI hFU27 (mdf_i (r := (907, 908, 0, 100000)) (List.mem_of_getElem? (i := 0) rfl) (inR_i (by omega) (by omega) (by omega) (by omega)))
                        have w274 : Xi U32 907 ((v1).toNat) = (Xi T1 906 ((v2).toNat)) := by rw [eU32]; exact Xi_same (by unfold rg; omega)
                        have c425 : CT U32 v1 v2 := c50.w eU32 (by omega)
                        have w275 : Xi U32 908 (v1).toNat = Xi U27 908 (v1).toNat := (show Xi U32 908 (v1).toNat = Xi U27 908 (v1).toNat from by rw [eU32]; exact Xi_ne (by omega))
                        have w276 : Xi U32 909 (v1).toNat = Xi T1 909 (v1).toNat := (show Xi U32 909 (v1).toNat = Xi U27 909 (v1).toNat from by rw [eU32]; exact Xi_ne (by omega)).trans ((show Xi U27 909 (v1).toNat = Xi T1 909 (v1).toNat from by rw [eU27]; exact Xi_ne (by omega)))
                        have w277 : Xi U32 904 3 = Xi T1 904 3 := (show Xi U32 904 3 = Xi U27 904 3 from by rw [eU32]; exact Xi_ne (by omega)).trans ((show Xi U27 904 3 = Xi T1 904 3 from by rw [eU27]; exact Xi_ne (by omega)))
                        have w278 : 0 ≤ Xi T1 904 3 ∧ Xi T1 904 3 ≤ 5000 := hHT1.c _ _
                        exact Rl_weak (C426 U32 hHU32 hFU32 (v1) ((v2 + 1)) (by omega) (by omega) (by rw [show Xi U32 908 (v1).toNat = v2 by omega]; assumption) (by omega) (by omega) (by omega) (by omega) (by omega) (by omega) (by omega) (by first | exact fun q => ⟨by have := k153 q; omega, by have := k153 q; omega⟩ | exact fun q => absurd q (by unfold K3; omega)) (by omega)) (And.intro rfl (And.intro rfl (And.intro rfl (True.intro))))
              · refine l_iconst rfl ?_
                refine l_istore rfl rfl rfl ?_
                have w279 : Xi U27 907 (v1).toNat = Xi T1 907 (v1).toNat := (show Xi U27 907 (v1).toNat = Xi T1 907 (v1).toNat from by rw [eU27]; exact Xi_ne (by omega))
                have w280 : Xi U27 909 (v1).toNat = Xi T1 909 (v1).toNat := (show Xi U27 909 (v1).toNat = Xi T1 909 (v1).toNat from by rw [eU27]; exact Xi_ne (by omega))
                have w281 : Xi U27 904 3 = Xi T1 904 3 := (show Xi U27 904 3 = Xi T1 904 3 from by rw [eU27]; exact Xi_ne (by omega))
                have w282 : 0 ≤ Xi T1 904 3 ∧ Xi T1 904 3 ≤ 5000 := hHT1.c _ _
                exact Rl_weak (C281 _ U27 hHU27 hFU27 (v1) (v2) ((v2 + 1)) (1) (by omega) (by omega) (by omega) (by omega) (by first | exact C281 | exact c50) (by omega) (by omega) (by omega) (by omega) (by omega) (by omega) (by omega) rfl) (And.intro rfl (And.intro rfl (And.intro rfl (And.intro rfl (And.intro rfl (True.intro))))))
            · refine l_lconst (z := 0) rfl rfl ?_
              refine l_lstore rfl rfl rfl rfl ?_
              refine l_iload_n rfl rfl ?_
              refine l_istore rfl rfl rfl ?_
              have w283 : Xi U27 907 (v1).toNat = Xi T1 907 (v1).toNat := (show Xi U27 907 (v1).toNat = Xi T1 907 (v1).toNat from by rw [eU27]; exact Xi_ne (by omega))
              have w284 : Xi U27 909 (v1).toNat = Xi T1 909 (v1).toNat := (show Xi U27 909 (v1).toNat = Xi T1 909 (v1).toNat from by rw [eU27]; exact Xi_ne (by omega))
              have w285 : Xi U27 904 3 = Xi T1 904 3 := (show Xi U27 904 3 = Xi T1 904 3 from by rw [eU27]; exact Xi_ne (by omega))
              have w286 : 0 ≤ Xi T1 904 3 ∧ Xi T1 904 3 ≤ 5000 := hHT1.c _ _
              exact Rl_weak (C174 _ U27 hHU27 hFU27 (v1) (v2) (v2) (0) (by omega) (by omega) (by omega) (by first | exact C174 | exact c50) (by omega) (by omega) (by omega) (by omega) (by omega) (by omega) (by omega) (by omega) rfl) (And.intro rfl (And.intro rfl (And.intro rfl (And.intro rfl (And.intro rfl (True.intro))))))
          · have w287 : Xi U27 907 (v1).toNat = Xi T1 907 (v1).toNat := (show Xi U27 907 (v1).toNat = Xi T1 907 (v1).toNat from by rw [eU27]; exact Xi_ne (by omega))
            have w288 : Xi U27 909 (v1).toNat = Xi T1 909 (v1).toNat := (show Xi U27 909 (v1).toNat = Xi T1 909 (v1).toNat from by rw [eU27]; exact Xi_ne (by omega))
            have w289 : Xi U27 904 3 = Xi T1 904 3 := (show Xi U27 904 3 = Xi T1 904 3 from by rw [eU27]; exact Xi_ne (by omega))
            have w290 : 0 ≤ Xi T1 904 3 ∧ Xi T1 904 3 ≤ 5000 := hHT1.c _ _
            exact Rl_weak (C58 _ U27 hHU27 hFU27 (v1) (v2) ((v2 + 1)) (by omega) (by omega) (by omega) (by first | exact C58 | exact c50) (by omega) (by omega) (by omega) (by omega) (by omega) (by omega) (by first | exact (fun i a b => (Int.lt_or_le (i : Int) v4).elim (fun q => L58 i a q) (fun q => by rw [show i = (v4).toNat by omega]; exact l74 (by omega))) | exact (fun i a b => by rw [show i = (v2).toNat by omega]; exact l52 (by omega))) (by omega) rfl) (And.intro rfl (And.intro rfl (And.intro rfl (And.intro rfl (True.intro)))))
        · refine l_aload_n rfl rfl ?_
          refine l_gfr rfl rfl rfl rfl rfl (hHT1.r 904 4 907 rfl) ?_
          refine l_iload_n rfl rfl ?_
          refine l_iconst rfl ?_
          refine l_isub rfl ?_
          refine l_iaload (n := 5002) rfl rfl (by omega) (by omega) (by unfold rg; omega) ?_
          have w291 : 0 ≤ (Xi T1 907 (((v1 - 1)).toNat)) ∧ (Xi T1 907 (((v1 - 1)).toNat)) ≤ 154 := hHT1.c _ _
          refine l_iconst rfl ?_
          refine l_icmp_eq rfl rfl (by unfold rg; omega) (by unfold rg; omega) (fun w292 => ?_) (fun w293 => ?_)
          · have w294 : 0 ≤ Xi T1 904 3 ∧ Xi T1 904 3 ≤ 5000 := hHT1.c _ _
            exact Rl_weak (C439 T1 hHT1 hFT1 (v1) (by omega) (D8) (by omega) (by omega)) (And.intro rfl (And.intro rfl (True.intro)))
          · refine l_aload_n rfl rfl ?_
            refine l_gfr rfl rfl rfl rfl rfl (hHT1.r 904 2 906 rfl) ?_
            refine l_iload_n rfl rfl ?_
            refine l_baload (n := 5000) rfl rfl rfl (by decide) (by omega) (by omega) (by unfold rg; omega) ?_
            have w295 : -128 ≤ (Xi T1 906 ((v2).toNat)) ∧ (Xi T1 906 ((v2).toNat)) ≤ 127 := hHT1.c _ _
            have e37 : (Xi T1 906 ((v2).toNat)) = Xi S 906 (v2).toNat := by first | rfl | exact (hFT1.cx 906 rfl _).1
            refine l_istore_n rfl rfl rfl ?_
            refine l_iload_n rfl rfl ?_
            refine l_iconst rfl ?_
            refine l_iadd rfl ?_
            refine l_istore rfl rfl rfl ?_
            refine l_aload_n rfl rfl ?_
            refine l_gfr rfl rfl rfl rfl rfl (hHT1.r 904 5 908 rfl) ?_
            refine l_iload_n rfl rfl ?_
            refine l_iload_n rfl rfl ?_
            refine l_iastore (n := 5002) rfl rfl (by omega) (by omega) (by unfold rg; omega) ?_
            obtain ⟨U33, eU33⟩ : ∃ T : sS, T = uI T1 908 ((v1).toNat) (Int32.ofInt v2) := ⟨_, rfl⟩
            rw [← eU33]
            have hHU33 : HI U33 := by rw [eU33]; exact HI_w hHT1 (show 0 ≤ v2 by omega) (show v2 ≤ 5000 by omega)
            have hFU33 : FR md_mo_cut S U33 := by rw [eU33]; exact FR.wI hFT1 (mdf_i (r := (908, 909, 0, 100000)) (List.mem_of_getElem? (i := 1) rfl) (inR_i (by omega) (by omega) (by omega) (by omega)))
            have w296 : Xi U33 908 ((v1).toNat) = v2 := by rw [eU33]; exact Xi_same (by unfold rg; omega)
            have c50 : CT U33 v1 v2 := C8.w eU33 (by omega)
            refine l_iload_n rfl rfl ?_
            have w297 : Xi U33 904 3 = Xi T1 904 3 := (show Xi U33 904 3 = Xi T1 904 3 from by rw [eU33]; exact Xi_ne (by omega))
            have w298 : 0 ≤ Xi T1 904 3 ∧ Xi T1 904 3 ≤ 5000 := hHT1.c _ _
            refine l_callS rfl rfl (by decide) rfl (t_mo_isLetter hHU33 (Xi T1 906 ((v2).toNat)) ⟨by omega, by omega⟩ _) ?_
            rintro _ _ ⟨rfl, z300, rfl, w300, w299⟩
            show Rl _ _ _ _ _ [iv z300] _ _
            have l52 : z300 = 1 → ltr (Xi S 906 (v2).toNat) = 1 := fun q => by rw [← e37, ← (by assumption : z300 = ltr _)]; exact q
            refine l_if_eq rfl rfl (by unfold rg; omega) (fun w301 => ?_) (fun w302 => ?_)
            · refine l_iload_n rfl rfl ?_
              refine l_bipush rfl rfl ?_
              refine l_bipush rfl rfl ?_
              have w303 : Xi U33 904 3 = Xi T1 904 3 := (show Xi U33 904 3 = Xi T1 904 3 from by rw [eU33]; exact Xi_ne (by omega))
              have w304 : 0 ≤ Xi T1 904 3 ∧ Xi T1 904 3 ≤ 5000 := hHT1.c _ _
              refine l_callS rfl rfl (by decide) rfl (t_mo_in hHU33 (Xi T1 906 ((v2).toNat)) 48 57 ⟨by omega, by omega⟩ ⟨by omega, by omega⟩ ⟨by omega, by omega⟩ _) ?_
              rintro _ _ ⟨rfl, z306, rfl, w306, w305⟩
              show Rl _ _ _ _ _ [iv z306] _ _
              refine l_if_eq rfl rfl (by unfold rg; omega) (fun w307 => ?_) (fun w308 => ?_)
              · refine l_iload_n rfl rfl ?_
                refine l_bipush rfl rfl ?_
                refine l_icmp_ne rfl rfl (by unfold rg; omega) (by unfold rg; omega) (fun w309 => ?_) (fun w310 => ?_)
                · refine l_aload_n rfl rfl ?_
                  refine l_gfr rfl rfl rfl rfl rfl (hHU33.r 904 4 907 rfl) ?_
                  refine l_iload_n rfl rfl ?_
                  refine l_iload_n rfl rfl ?_
                  refine l_bipush rfl rfl ?_
                  refine l_icmp_eq rfl rfl (by unfold rg; omega) (by unfold rg; omega) (fun w311 => ?_) (fun w312 => ?_)
                  · refine l_iload_n rfl rfl ?_
                    refine l_goto rfl rfl ?_
                    refine l_iastore (n := 5002) rfl rfl (by omega) (by omega) (by unfold rg; omega) ?_
                    obtain ⟨U34, eU34⟩ : ∃ T : sS, T = uI U33 907 ((v1).toNat) (Int32.ofInt (Xi T1 906 ((v2).toNat))) := ⟨_, rfl⟩
                    rw [← eU34]
                    have hHU34 : HI U34 := by rw [eU34]; exact HI_w hHU33 (show 0 ≤ (Xi T1 906 ((v2).toNat)) by omega) (show (Xi T1 906 ((v2).toNat)) ≤ 154 by omega)
                    have hFU34 : FR md_mo_cut S U34 := by rw [eU34]; exact FR.wI hFU33 (mdf_i (r := (907, 908, 0, 100000)) (List.mem_of_getElem? (i := 0) rfl) (inR_i (by omega) (by omega) (by omega) (by omega)))
                    have w313 : Xi U34 907 ((v1).toNat) = (Xi T1 906 ((v2).toNat)) := by rw [eU34]; exact Xi_same (by unfold rg; omega)
                    have c425 : CT U34 v1 v2 := c50.w eU34 (by omega)
                    have w314 : Xi U34 908 (v1).toNat = Xi U33 908 (v1).toNat := (show Xi U34 908 (v1).toNat = Xi U33 908 (v1).toNat from by rw [eU34]; exact Xi_ne (by omega))
                    have w315 : Xi U34 909 (v1).toNat = Xi T1 909 (v1).toNat := (show Xi U34 909 (v1).toNat = Xi U33 909 (v1).toNat from by rw [eU34]; exact Xi_ne (by omega)).trans ((show Xi U33 909 (v1).toNat = Xi T1 909 (v1).toNat from by rw [eU33]; exact Xi_ne (by omega)))
                    have w316 : Xi U34 904 3 = Xi T1 904 3 := (show Xi U34 904 3 = Xi U33 904 3 from by rw [eU34]; exact Xi_ne (by omega)).trans ((show Xi U33 904 3 = Xi T1 904 3 from by rw [eU33]; exact Xi_ne (by omega)))
                    have w317 : 0 ≤ Xi T1 904 3 ∧ Xi T1 904 3 ≤ 5000 := hHT1.c _ _
                    exact Rl_weak (C426 U34 hHU34 hFU34 (v1) ((v2 + 1)) (by omega) (by omega) (by rw [show Xi U34 908 (v1).toNat = v2 by omega]; assumption) (by omega) (by omega) (by omega) (by omega) (by omega) (by omega) (by omega) (by first | exact fun q => ⟨by have := k153 q; omega, by have := k153 q; omega⟩ | exact fun q => absurd q (by unfold K3; omega)) (by omega)) (And.intro rfl (And.intro rfl (And.intro rfl (True.intro))))
                  · refine l_iload_n rfl rfl ?_
                    refine l_bipush rfl rfl ?_
                    refine l_icmp_eq rfl rfl (by unfold rg; omega) (by unfold rg; omega) (fun w318 => ?_) (fun w319 => ?_)
                    · refine l_iload_n rfl rfl ?_
                      refine l_goto rfl rfl ?_
                      refine l_iastore (n := 5002) rfl rfl (by omega) (by omega) (by unfold rg; omega) ?_
                      obtain ⟨U35, eU35⟩ : ∃ T : sS, T = uI U33 907 ((v1).toNat) (Int32.ofInt (Xi T1 906 ((v2).toNat))) := ⟨_, rfl⟩
                      rw [← eU35]
                      have hHU35 : HI U35 := by rw [eU35]; exact HI_w hHU33 (show 0 ≤ (Xi T1 906 ((v2).toNat)) by omega) (show (Xi T1 906 ((v2).toNat)) ≤ 154 by omega)
                      have hFU35 : FR md_mo_cut S U35 := by rw [eU35]; exact FR.wI hFU33 (mdf_i (r := (907, 908, 0, 100000)) (List.mem_of_getElem? (i := 0) rfl) (inR_i (by omega) (by omega) (by omega) (by omega)))
                      have w320 : Xi U35 907 ((v1).toNat) = (Xi T1 906 ((v2).toNat)) := by rw [eU35]; exact Xi_same (by unfold rg; omega)
                      have c425 : CT U35 v1 v2 := c50.w eU35 (by omega)
                      have w321 : Xi U35 908 (v1).toNat = Xi U33 908 (v1).toNat := (show Xi U35 908 (v1).toNat = Xi U33 908 (v1).toNat from by rw [eU35]; exact Xi_ne (by omega))
                      have w322 : Xi U35 909 (v1).toNat = Xi T1 909 (v1).toNat := (show Xi U35 909 (v1).toNat = Xi U33 909 (v1).toNat from by rw [eU35]; exact Xi_ne (by omega)).trans ((show Xi U33 909 (v1).toNat = Xi T1 909 (v1).toNat from by rw [eU33]; exact Xi_ne (by omega)))
                      have w323 : Xi U35 904 3 = Xi T1 904 3 := (show Xi U35 904 3 = Xi U33 904 3 from by rw [eU35]; exact Xi_ne (by omega)).trans ((show Xi U33 904 3 = Xi T1 904 3 from by rw [eU33]; exact Xi_ne (by omega)))
                      have w324 : 0 ≤ Xi T1 904 3 ∧ Xi T1 904 3 ≤ 5000 := hHT1.c _ _
                      exact Rl_weak (C426 U35 hHU35 hFU35 (v1) ((v2 + 1)) (by omega) (by omega) (by rw [show Xi U35 908 (v1).toNat = v2 by omega]; assumption) (by omega) (by omega) (by omega) (by omega) (by omega) (by omega) (by omega) (by first | exact fun q => ⟨by have := k153 q; omega, by have := k153 q; omega⟩ | exact fun q => absurd q (by unfold K3; omega)) (by omega)) (And.intro rfl (And.intro rfl (And.intro rfl (True.intro))))
                    · refine l_iload_n rfl rfl ?_
                      refine l_bipush rfl rfl ?_
                      refine l_icmp_eq rfl rfl (by unfold rg; omega) (by unfold rg; omega) (fun w325 => ?_) (fun w326 => ?_)
                      · refine l_iload_n rfl rfl ?_
                        refine l_goto rfl rfl ?_
                        refine l_iastore (n := 5002) rfl rfl (by omega) (by omega) (by unfold rg; omega) ?_
                        obtain ⟨U36, eU36⟩ : ∃ T : sS, T = uI U33 907 ((v1).toNat) (Int32.ofInt (Xi T1 906 ((v2).toNat))) := ⟨_, rfl⟩
                        rw [← eU36]
                        have hHU36 : HI U36 := by rw [eU36]; exact HI_w hHU33 (show 0 ≤ (Xi T1 906 ((v2).toNat)) by omega) (show (Xi T1 906 ((v2).toNat)) ≤ 154 by omega)
                        have hFU36 : FR md_mo_cut S U36 := by rw [eU36]; exact FR.wI hFU33 (mdf_i (r := (907, 908, 0, 100000)) (List.mem_of_getElem? (i := 0) rfl) (inR_i (by omega) (by omega) (by omega) (by omega)))
                        have w327 : Xi U36 907 ((v1).toNat) = (Xi T1 906 ((v2).toNat)) := by rw [eU36]; exact Xi_same (by unfold rg; omega)
                        have c425 : CT U36 v1 v2 := c50.w eU36 (by omega)
                        have w328 : Xi U36 908 (v1).toNat = Xi U33 908 (v1).toNat := (show Xi U36 908 (v1).toNat = Xi U33 908 (v1).toNat from by rw [eU36]; exact Xi_ne (by omega))
                        have w329 : Xi U36 909 (v1).toNat = Xi T1 909 (v1).toNat := (show Xi U36 909 (v1).toNat = Xi U33 909 (v1).toNat from by rw [eU36]; exact Xi_ne (by omega)).trans ((show Xi U33 909 (v1).toNat = Xi T1 909 (v1).toNat from by rw [eU33]; exact Xi_ne (by omega)))
                        have w330 : Xi U36 904 3 = Xi T1 904 3 := (show Xi U36 904 3 = Xi U33 904 3 from by rw [eU36]; exact Xi_ne (by omega)).trans ((show Xi U33 904 3 = Xi T1 904 3 from by rw [eU33]; exact Xi_ne (by omega)))
                        have w331 : 0 ≤ Xi T1 904 3 ∧ Xi T1 904 3 ≤ 5000 := hHT1.c _ _
                        exact Rl_weak (C426 U36 hHU36 hFU36 (v1) ((v2 + 1)) (by omega) (by omega) (by rw [show Xi U36 908 (v1).toNat = v2 by omega]; assumption) (by omega) (by omega) (by omega) (by omega) (by omega) (by omega) (by omega) (by first | exact fun q => ⟨by have := k153 q; omega, by have := k153 q; omega⟩ | exact fun q => absurd q (by unfold K3; omega)) (by omega)) (And.intro rfl (And.intro rfl (And.intro rfl (True.intro))))
                      · refine l_iload_n rfl rfl ?_
                        refine l_bipush rfl rfl ?_
                        refine l_icmp_ne rfl rfl (by unfold rg; omega) (by unfold rg; omega) (fun w332 => ?_) (fun w333 => ?_)
                        · refine l_iconst rfl ?_
                          refine l_iastore (n := 5002) rfl rfl (by omega) (by omega) (by unfold rg; omega) ?_
                          obtain ⟨U37, eU37⟩ : ∃ T : sS, T = uI U33 907 ((v1).toNat) (Int32.ofInt 2) := ⟨_, rfl⟩
                          rw [← eU37]
                          have hHU37 : HI U37 := by rw [eU37]; exact HI_w hHU33 (show 0 ≤ 2 by omega) (show 2 ≤ 154 by omega)
                          have hFU37 : FR md_mo_cut S U37 := by rw [eU37]; exact FR.wI hFU33 (mdf_i (r := (907, 908, 0, 100000)) (List.mem_of_getElem? (i := 0) rfl) (inR_i (by omega) (by omega) (by omega) (by omega)))
                          have w334 : Xi U37 907 ((v1).toNat) = 2 := by rw [eU37]; exact Xi_same (by unfold rg; omega)
                          have c425 : CT U37 v1 v2 := c50.w eU37 (by omega)
                          have w335 : Xi U37 908 (v1).toNat = Xi U33 908 (v1).toNat := (show Xi U37 908 (v1).toNat = Xi U33 908 (v1).toNat from by rw [eU37]; exact Xi_ne (by omega))
                          have w336 : Xi U37 909 (v1).toNat = Xi T1 909 (v1).toNat := (show Xi U37 909 (v1).toNat = Xi U33 909 (v1).toNat from by rw [eU37]; exact Xi_ne (by omega)).trans ((show Xi U33 909 (v1).toNat = Xi T1 909 (v1).toNat from by rw [eU33]; exact Xi_ne (by omega)))
                          have w337 : Xi U37 904 3 = Xi T1 904 3 := (show Xi U37 904 3 = Xi U33 904 3 from by rw [eU37]; exact Xi_ne (by omega)).trans ((show Xi U33 904 3 = Xi T1 904 3 from by rw [eU33]; exact Xi_ne (by omega)))
                          have w338 : 0 ≤ Xi T1 904 3 ∧ Xi T1 904 3 ≤ 5000 := hHT1.c _ _
                          exact Rl_weak (C426 U37 hHU37 hFU37 (v1) ((v2 + 1)) (by omega) (by omega) (by rw [show Xi U37 908 (v1).toNat = v2 by omega]; assumption) (by omega) (by omega) (by omega) (by omega) (by omega) (by omega) (by omega) (by first | exact fun q => ⟨by have := k153 q; omega, by have := k153 q; omega⟩ | exact fun q => absurd q (by unfold K3; omega)) (by omega)) (And.intro rfl (And.intro rfl (And.intro rfl (True.intro))))
                        · refine l_iload_n rfl rfl ?_
                          refine l_goto rfl rfl ?_
                          refine l_iastore (n := 5002) rfl rfl (by omega) (by omega) (by unfold rg; omega) ?_
                          obtain ⟨U38, eU38⟩ : ∃ T : sS, T = uI U33 907 ((v1).toNat) (Int32.ofInt (Xi T1 906 ((v2).toNat))) := ⟨_, rfl⟩
                          rw [← eU38]
                          have hHU38 : HI U38 := by rw [eU38]; exact HI_w hHU33 (show 0 ≤ (Xi T1 906 ((v2).toNat)) by omega) (show (Xi T1 906 ((v2).toNat)) ≤ 154 by omega)
                          have hFU38 : FR md_mo_cut S U38 := by rw [eU38]; exact FR.wI hFU33 (mdf_i (r := (907, 908, 0, 100000)) (List.mem_of_getElem? (i := 0) rfl) (inR_i (by omega) (by omega) (by omega) (by omega)))
                          have w339 : Xi U38 907 ((v1).toNat) = (Xi T1 906 ((v2).toNat)) := by rw [eU38]; exact Xi_same (by unfold rg; omega)
                          have c425 : CT U38 v1 v2 := c50.w eU38 (by omega)
                          have w340 : Xi U38 908 (v1).toNat = Xi U33 908 (v1).toNat := (show Xi U38 908 (v1).toNat = Xi U33 908 (v1).toNat from by rw [eU38]; exact Xi_ne (by omega))
                          have w341 : Xi U38 909 (v1).toNat = Xi T1 909 (v1).toNat := (show Xi U38 909 (v1).toNat = Xi U33 909 (v1).toNat from by rw [eU38]; exact Xi_ne (by omega)).trans ((show Xi U33 909 (v1).toNat = Xi T1 909 (v1).toNat from by rw [eU33]; exact Xi_ne (by omega)))
                          have w342 : Xi U38 904 3 = Xi T1 904 3 := (show Xi U38 904 3 = Xi U33 904 3 from by rw [eU38]; exact Xi_ne (by omega)).trans ((show Xi U33 904 3 = Xi T1 904 3 from by rw [eU33]; exact Xi_ne (by omega)))
                          have w343 : 0 ≤ Xi T1 904 3 ∧ Xi T1 904 3 ≤ 5000 := hHT1.c _ _
                          exact Rl_weak (C426 U38 hHU38 hFU38 (v1) ((v2 + 1)) (by omega) (by omega) (by rw [show Xi U38 908 (v1).toNat = v2 by omega]; assumption) (by omega) (by omega) (by omega) (by omega) (by omega) (by omega) (by omega) (by first | exact fun q => ⟨by have := k153 q; omega, by have := k153 q; omega⟩ | exact fun q => absurd q (by unfold K3; omega)) (by omega)) (And.intro rfl (And.intro rfl (And.intro rfl (True.intro))))
                · refine l_iconst rfl ?_
                  refine l_istore rfl rfl rfl ?_
                  have w344 : Xi U33 907 (v1).toNat = Xi T1 907 (v1).toNat := (show Xi U33 907 (v1).toNat = Xi T1 907 (v1).toNat from by rw [eU33]; exact Xi_ne (by omega))
                  have w345 : Xi U33 909 (v1).toNat = Xi T1 909 (v1).toNat := (show Xi U33 909 (v1).toNat = Xi T1 909 (v1).toNat from by rw [eU33]; exact Xi_ne (by omega))
                  have w346 : Xi U33 904 3 = Xi T1 904 3 := (show Xi U33 904 3 = Xi T1 904 3 from by rw [eU33]; exact Xi_ne (by omega))
                  have w347 : 0 ≤ Xi T1 904 3 ∧ Xi T1 904 3 ≤ 5000 := hHT1.c _ _
                  exact Rl_weak (C281 _ U33 hHU33 hFU33 (v1) (v2) ((v2 + 1)) (1) (by omega) (by omega) (by omega) (by omega) (by first | exact C281 | exact c50) (by omega) (by omega) (by omega) (by omega) (by omega) (by omega) (by omega) rfl) (And.intro rfl (And.intro rfl (And.intro rfl (And.intro rfl (And.intro rfl (True.intro))))))
              · refine l_lconst (z := 0) rfl rfl ?_
                refine l_lstore rfl rfl rfl rfl ?_
                refine l_iload_n rfl rfl ?_
                refine l_istore rfl rfl rfl ?_
                have w348 : Xi U33 907 (v1).toNat = Xi T1 907 (v1).toNat := (show Xi U33 907 (v1).toNat = Xi T1 907 (v1).toNat from by rw [eU33]; exact Xi_ne (by omega))
                have w349 : Xi U33 909 (v1).toNat = Xi T1 909 (v1).toNat := (show Xi U33 909 (v1).toNat = Xi T1 909 (v1).toNat from by rw [eU33]; exact Xi_ne (by omega))
                have w350 : Xi U33 904 3 = Xi T1 904 3 := (show Xi U33 904 3 = Xi T1 904 3 from by rw [eU33]; exact Xi_ne (by omega))
                have w351 : 0 ≤ Xi T1 904 3 ∧ Xi T1 904 3 ≤ 5000 := hHT1.c _ _
                exact Rl_weak (C174 _ U33 hHU33 hFU33 (v1) (v2) (v2) (0) (by omega) (by omega) (by omega) (by first | exact C174 | exact c50) (by omega) (by omega) (by omega) (by omega) (by omega) (by omega) (by omega) (by omega) rfl) (And.intro rfl (And.intro rfl (And.intro rfl (And.intro rfl (And.intro rfl (True.intro))))))
            · have w352 : Xi U33 907 (v1).toNat = Xi T1 907 (v1).toNat := (show Xi U33 907 (v1).toNat = Xi T1 907 (v1).toNat from by rw [eU33]; exact Xi_ne (by omega))
              have w353 : Xi U33 909 (v1).toNat = Xi T1 909 (v1).toNat := (show Xi U33 909 (v1).toNat = Xi T1 909 (v1).toNat from by rw [eU33]; exact Xi_ne (by omega))
              have w354 : Xi U33 904 3 = Xi T1 904 3 := (show Xi U33 904 3 = Xi T1 904 3 from by rw [eU33]; exact Xi_ne (by omega))
              have w355 : 0 ≤ Xi T1 904 3 ∧ Xi T1 904 3 ≤ 5000 := hHT1.c _ _
              exact Rl_weak (C58 _ U33 hHU33 hFU33 (v1) (v2) ((v2 + 1)) (by omega) (by omega) (by omega) (by first | exact C58 | exact c50) (by omega) (by omega) (by omega) (by omega) (by omega) (by omega) (by first | exact (fun i a b => (Int.lt_or_le (i : Int) v4).elim (fun q => L58 i a q) (fun q => by rw [show i = (v4).toNat by omega]; exact l74 (by omega))) | exact (fun i a b => by rw [show i = (v2).toNat by omega]; exact l52 (by omega))) (by omega) rfl) (And.intro rfl (And.intro rfl (And.intro rfl (And.intro rfl (True.intro)))))
  refine l_iconst rfl ?_
  refine l_istore_n rfl rfl rfl ?_
  refine l_aload_n rfl rfl ?_
  refine l_iconst rfl ?_
  have w356 : 0 ≤ Xi S 904 3 ∧ Xi S 904 3 ≤ 5000 := hH.c _ _
  refine l_callV rfl rfl rfl (t_mo_blanks hH 0 ⟨by omega, by omega⟩ _) ?_
  rintro _ _ ⟨rfl, z359, rfl, w359, w357, w358⟩
  show Rl _ _ _ _ _ [iv z359] _ _
  refine l_istore_n rfl rfl rfl ?_
  have w360 : 0 ≤ Xi S 904 3 ∧ Xi S 904 3 ≤ 5000 := hH.c _ _
  exact Rl_weak (C8 _ S hH hF (0) (z359) (by omega) (by omega) (by first | exact CT.rf | exact C426.add (by omega) (by omega) (by omega) (by omega) (by omega) (fun q => by have := K426 q; omega)) (by first | exact CT.rf | exact C426.add (by omega) (by omega) (by omega) (by omega) (by omega) (fun q => by have := K426 q; omega)) (by omega) (by omega) (by omega) rfl) (And.intro rfl (And.intro rfl (And.intro rfl (True.intro))))

