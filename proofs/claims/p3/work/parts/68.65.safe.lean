/-! SAFETY of methods: printed by wip/safe (vc.py, decl.py) -/
def md_mo_act : List rec := [(904, 905, 154, 155), (904, 905, 156, 157), (904, 905, 158, 159), (904, 905, 160, 161), (904, 905, 161, 162), (904, 905, 162, 163), (919, 920, 0, 100000), (920, 921, 0, 100000), (925, 926, 0, 100000), (930, 931, 0, 100000), (931, 932, 0, 100000), (932, 933, 0, 100000), (940, 941, 0, 100000), (993, 994, 0, 100000), (994, 995, 0, 100000)]
abbrev Q_mo_act (S : sS) (a : Int) (noun : Int) : pst := fun r S1 => HI S1 ∧ FR md_mo_act S S1 ∧ (∃ z : Int, r = some (iv z) ∧ (-1 ≤ z ∧ z ≤ 5) ∧ (TXM S1) ∧ (WYM S1))
set_option maxRecDepth 100000 in
theorem t_mo_act {S : sS} (hH : HI S) (a : Int) (noun : Int) (ha : -2147483648 ≤ a ∧ a ≤ 2147483647) (hnoun : -2147483648 ≤ noun ∧ noun ≤ 2147483647) (hX : TXM S) (hD : DEFM S) (hR : RULM S) (hB : ABV S) (hM : LXM S) (hW : WYM S) (hA : AKR S) (d : Nat) : Mt lay0 (d + 57) m_mo_act [.ref 904, iv a, iv noun] S (Q_mo_act S a noun) := by
  refine Mt_R rfl rfl ?_
  have hF : FR md_mo_act S S := FR.rf
  have w1 : 0 ≤ Xi S 904 19 ∧ Xi S 904 19 ≤ 24 := hH.c _ _
  have w2 : 0 ≤ Xi S 904 49 ∧ Xi S 904 49 ≤ 12 := hH.c _ _
  have hc3 : 0 ≤ Xi S 904 23 ∧ Xi S 904 23 ≤ 24 := hH.c _ _
  have hc19 : 0 ≤ Xi S 904 19 ∧ Xi S 904 19 ≤ 24 := hH.c _ _
  have hc32 : 0 ≤ Xi S 904 32 ∧ Xi S 904 32 ≤ 12 := hH.c _ _
  have hc49 : 0 ≤ Xi S 904 49 ∧ Xi S 904 49 ≤ 12 := hH.c _ _
  have C98 : (0 ≤ a ∧ a < Xi S 904 49) → (-1 ≤ noun ∧ noun ≤ 23) → (0 ≤ Xi S 942 a.toNat → 0 ≤ noun ∧ noun < Xi S 904 19) → Rl lay0 (d + 56) m_mo_act 98 [(0, .ref 904), (1, iv a), (2, iv noun)] [] S (Q_mo_act S a noun) := by
    intro w3 w4 hg98
    have C120 : ∀ (n120 : Nat) (T1 : sS) (_ : HI T1) (_ : FR md_mo_act S T1) (v5 : Int) (v6 : Int), (0 ≤ v5 ∧ v5 ≤ 5) → (0 ≤ v6 ∧ v6 ≤ 25) → (TXM T1) → (WYM T1) → n120 = (26 - v6).toNat → Rl lay0 (d + 56) m_mo_act 120 [(0, .ref 904), (1, iv a), (5, iv v5), (6, iv v6)] [] T1 (Q_mo_act S a noun) := by
      intro n120
      induction n120 using Nat.strongRecOn with
      | ind n120 ih120 =>
        intro T1 hHT1 hFT1 v5 v6 w5 w6 hX120 hW120 hm120
        have w7 : Xi T1 904 130 = Xi S 904 130 := hFT1.x _ _ rfl
        have w8 : Xi T1 904 19 = Xi S 904 19 := hFT1.x _ _ rfl
        have w9 : Xi T1 904 49 = Xi S 904 49 := hFT1.x _ _ rfl
        have C173 : ∀  (T2 : sS) (_ : HI T2) (_ : FR md_mo_act S T2) (v5 : Int), (0 ≤ v5 ∧ v5 ≤ 5) → (TXM T2) → (WYM T2) → Rl lay0 (d + 56) m_mo_act 173 [(0, .ref 904), (5, iv v5)] [] T2 (Q_mo_act S a noun) := by
          intro T2 hHT2 hFT2 v5 w10 hX173 hW173
          have w11 : Xi T2 904 130 = Xi S 904 130 := hFT2.x _ _ rfl
          have w12 : Xi T2 904 19 = Xi S 904 19 := hFT2.x _ _ rfl
          have w13 : Xi T2 904 49 = Xi S 904 49 := hFT2.x _ _ rfl
          refine l_aload_n rfl rfl ?_
          refine l_gfi rfl rfl rfl rfl rfl ?_
          have w14 : 0 ≤ (Xi T2 904 162) ∧ (Xi T2 904 162) ≤ 1 := hHT2.c _ _
          refine l_if_eq rfl rfl (by unfold rg; omega) (fun w15 => ?_) (fun w16 => ?_)
          · refine l_iload rfl rfl ?_
            refine l_ireturn rfl rfl ?_
            exact ⟨hHT2, hFT2, _, rfl, ⟨by omega, by omega⟩, (by first | assumption | exact (by assumption : TXM T2)), (by first | assumption | exact (by assumption : WYM T2))⟩
          · refine l_iconst rfl ?_
            refine l_goto rfl rfl ?_
            refine l_ireturn rfl rfl ?_
            exact ⟨hHT2, hFT2, _, rfl, ⟨by omega, by omega⟩, (by first | assumption | exact (by assumption : TXM T2)), (by first | assumption | exact (by assumption : WYM T2))⟩
        refine l_aload_n rfl rfl ?_
        refine l_iconst rfl ?_
        refine l_iload rfl rfl ?_
        have w17 : 0 ≤ Xi T1 904 130 ∧ Xi T1 904 130 ≤ 24 := hHT1.c _ _
        refine l_callV rfl rfl rfl (Mt_d (t_mo_ruleAt hHT1 3 v6 ⟨by omega, by omega⟩ ⟨by omega, by omega⟩ (by first | assumption | exact (ABV_FR hFT1 rfl (by assumption : ABV S))) _)) ?_
        rintro _ _ ⟨⟨rfl, z21, rfl, w21, w18, w19, w20⟩, hd124⟩
        show Rl _ _ _ _ _ [iv z21] _ _
        refine l_iconst rfl ?_
        refine l_icmp_eq rfl rfl (by unfold rg; omega) (by unfold rg; omega) (fun w22 => ?_) (fun w23 => ?_)
        · exact Rl_weak (C173 T1 hHT1 hFT1 (v5) (by omega) (by first | assumption | exact (by assumption : TXM T1)) (by first | assumption | exact (by assumption : WYM T1))) (And.intro rfl (And.intro rfl (True.intro)))
        · refine l_aload_n rfl rfl ?_
          refine l_gfi rfl rfl rfl rfl rfl ?_
          have w24 : 0 ≤ (Xi T1 904 162) ∧ (Xi T1 904 162) ≤ 1 := hHT1.c _ _
          refine l_if_ne rfl rfl (by unfold rg; omega) (fun w25 => ?_) (fun w26 => ?_)
          · exact Rl_weak (C173 T1 hHT1 hFT1 (v5) (by omega) (by first | assumption | exact (by assumption : TXM T1)) (by first | assumption | exact (by assumption : WYM T1))) (And.intro rfl (And.intro rfl (True.intro)))
          · refine l_aload_n rfl rfl ?_
            refine l_iconst rfl ?_
            refine l_iload rfl rfl ?_
            have w27 : 0 ≤ Xi T1 904 130 ∧ Xi T1 904 130 ≤ 24 := hHT1.c _ _
            refine l_callV rfl rfl rfl (Mt_d (t_mo_ruleAt hHT1 3 v6 ⟨by omega, by omega⟩ ⟨by omega, by omega⟩ (by first | assumption | exact (ABV_FR hFT1 rfl (by assumption : ABV S))) _)) ?_
            rintro _ _ ⟨⟨rfl, z31, rfl, w31, w28, w29, w30⟩, hd142⟩
            show Rl _ _ _ _ _ [iv z31] _ _
            have e142 := dv_i hd124 hd142 (by unfold rg; omega) (by unfold rg; omega)
            have s142 : z31 ≠ -1 → Xi S 978 (z31).toNat = 3 := fun q => by rw [← (hFT1.cx 978 rfl _).1]; exact (by assumption : z31 ≠ -1 → Xi T1 978 (z31).toNat = 3) q
            have p142 : Xi T1 904 130 = Xi S 904 130 := hFT1.x 904 130 rfl
            refine l_istore rfl rfl rfl ?_
            refine l_aload_n rfl rfl ?_
            refine l_iload rfl rfl ?_
            refine l_iload_n rfl rfl ?_
            refine l_iconst rfl ?_
            have w32 : 0 ≤ Xi T1 904 130 ∧ Xi T1 904 130 ≤ 24 := hHT1.c _ _
            have w33 : 0 ≤ Xi T1 904 19 ∧ Xi T1 904 19 ≤ 24 := hHT1.c _ _
            refine l_callV rfl rfl rfl (t_mo_applies hHT1 z31 a (-1) ⟨by omega, by omega⟩ ⟨by omega, by omega⟩ ⟨by omega, by omega⟩ (by first | assumption | omega) (by first | assumption | exact (RULM_FR hFT1 rfl (by assumption : RULM S))) (by first | assumption | exact (DEFM_FR hFT1 rfl (by assumption : DEFM S))) (by first | assumption | exact (ABV_FR hFT1 rfl (by assumption : ABV S))) (by first | assumption | exact (by assumption : TXM T1)) (fun q => absurd q (by omega)) (by omega) _) ?_
            rintro _ T3 ⟨hHT3, w36, z35, rfl, w35, w34⟩
            have hFT3 : FR md_mo_act S T3 := FR.tr hFT1 w36 rfl
            show Rl _ _ _ _ _ [iv z35] _ _
            have q152 : nM S (z31).toNat → 0 ≤ (-1 : Int) := fun h => absurd h.1 (by have t := (hR (z31).toNat (by omega)).1.2.2.2 (by omega); omega)
            refine l_if_eq rfl rfl (by unfold rg; omega) (fun w37 => ?_) (fun w38 => ?_)
            · refine l_iinc rfl rfl rfl rfl ?_
              refine l_goto rfl rfl ?_
              exact Rl_weak (ih120 _ (by omega) T3 hHT3 hFT3 (v5) ((v6 + 1)) (by omega) (by omega) (by first | assumption | exact (TXM_FR w36 rfl (by assumption : TXM T1))) (by first | assumption | exact (WYM_FR w36 rfl (by assumption : WYM T1))) rfl) (And.intro rfl (And.intro rfl (And.intro rfl (And.intro rfl (True.intro)))))
            · refine l_aload_n rfl rfl ?_
              refine l_iload rfl rfl ?_
              refine l_iconst rfl ?_
              refine l_iconst rfl ?_
              have w39 : Xi T3 904 130 = Xi T1 904 130 := (show Xi T3 904 130 = Xi T1 904 130 from w36.x _ _ rfl)
              have w40 : 0 ≤ Xi T1 904 130 ∧ Xi T1 904 130 ≤ 24 := hHT1.c _ _
              have w41 : Xi T3 904 19 = Xi T1 904 19 := (show Xi T3 904 19 = Xi T1 904 19 from w36.x _ _ rfl)
              have w42 : 0 ≤ Xi T1 904 19 ∧ Xi T1 904 19 ≤ 24 := hHT1.c _ _
              refine l_callV rfl rfl rfl (t_mo_runs hHT3 z31 (-1) 0 ⟨by omega, by omega⟩ ⟨by omega, by omega⟩ ⟨by omega, by omega⟩ (by first | assumption | omega) (fun h => q152 (nm_b hFT3 rfl h)) (by omega) (by first | assumption | exact (TXM_FR w36 rfl (by assumption : TXM T1))) (by first | assumption | exact (DEFM_FR hFT3 rfl (by assumption : DEFM S))) (by first | assumption | exact (RULM_FR hFT3 rfl (by assumption : RULM S))) (by first | assumption | exact (ABV_FR hFT3 rfl (by assumption : ABV S))) (by first | assumption | exact (LXM_FR hFT3 rfl (by assumption : LXM S))) (by first | assumption | exact (WYM_FR w36 rfl (by assumption : WYM T1))) (by first | assumption | exact (AKR_FR hFT3 rfl (by assumption : AKR S))) _) ?_
              rintro _ T4 ⟨hHT4, w46, z45, rfl, w45, w43, w44⟩
              have hFT4 : FR md_mo_act S T4 := FR.tr hFT3 w46 rfl
              show Rl _ _ _ _ _ [iv z45] _ _
              refine l_pop rfl rfl ?_
              refine l_iinc rfl rfl rfl rfl ?_
              refine l_goto rfl rfl ?_
              exact Rl_weak (ih120 _ (by omega) T4 hHT4 hFT4 (v5) ((v6 + 1)) (by omega) (by omega) (by first | assumption | exact (by assumption : TXM T4)) (by first | assumption | exact (by assumption : WYM T4)) rfl) (And.intro rfl (And.intro rfl (And.intro rfl (And.intro rfl (True.intro)))))
    refine l_aload_n rfl rfl ?_
    refine l_iconst rfl ?_
    refine l_pfi rfl rfl rfl rfl ?_
    obtain ⟨U5, eU5⟩ : ∃ T : sS, T = uI S 904 161 (Int32.ofInt 0) := ⟨_, rfl⟩
    rw [← eU5]
    have hHU5 : HI U5 := by rw [eU5]; exact HI_w hH (show 0 ≤ 0 by omega) (show 0 ≤ 300 by omega)
    have hFU5 : FR md_mo_act S U5 := by rw [eU5]; exact FR.wI hF (mdf_i (r := (904, 905, 161, 162)) (List.mem_of_getElem? (i := 4) rfl) (inR_i (by omega) (by omega) (by omega) (by omega)))
    have w47 : Xi U5 904 161 = 0 := by rw [eU5]; exact Xi_same (by unfold rg; omega)
    refine l_aload_n rfl rfl ?_
    refine l_iconst rfl ?_
    refine l_pfz rfl rfl rfl rfl (by omega) ?_
    obtain ⟨U6, eU6⟩ : ∃ T : sS, T = uI U5 904 162 (Int32.ofInt 0) := ⟨_, rfl⟩
    rw [← eU6]
    have hHU6 : HI U6 := by rw [eU6]; exact HI_w hHU5 (show 0 ≤ 0 by omega) (show 0 ≤ 1 by omega)
    have hFU6 : FR md_mo_act S U6 := by rw [eU6]; exact FR.wI hFU5 (mdf_i (r := (904, 905, 162, 163)) (List.mem_of_getElem? (i := 5) rfl) (inR_i (by omega) (by omega) (by omega) (by omega)))
    have w48 : Xi U6 904 162 = 0 := by rw [eU6]; exact Xi_same (by unfold rg; omega)
    refine l_aload_n rfl rfl ?_
    refine l_iload_n rfl rfl ?_
    refine l_iload_n rfl rfl ?_
    refine l_iconst rfl ?_
    have w49 : Xi U6 904 19 = Xi S 904 19 := (show Xi U6 904 19 = Xi U5 904 19 from by rw [eU6]; exact Xi_ne (by omega)).trans ((show Xi U5 904 19 = Xi S 904 19 from by rw [eU5]; exact Xi_ne (by omega)))
    have w50 : 0 ≤ Xi S 904 19 ∧ Xi S 904 19 ≤ 24 := hH.c _ _
    refine l_callV rfl rfl rfl (t_mo_action hHU6 a noun 1 ⟨by omega, by omega⟩ ⟨by omega, by omega⟩ ⟨by omega, by omega⟩ (fun q => by rw [(hFU6.cx 942 rfl _).1] at q; exact (hg98 q).1) (fun q => by rw [(hFU6.cx 942 rfl _).1] at q; have := (hg98 q).2; omega) (by first | assumption | exact (TXM_FR (FR_e eU6) rfl (TXM_FR (FR_e eU5) rfl (by assumption : TXM S)))) (by first | assumption | exact (DEFM_FR hFU6 rfl (by assumption : DEFM S))) (by first | assumption | exact (RULM_FR hFU6 rfl (by assumption : RULM S))) (by first | assumption | exact (ABV_FR hFU6 rfl (by assumption : ABV S))) (by first | assumption | exact (LXM_FR hFU6 rfl (by assumption : LXM S))) (by first | assumption | exact (WYM_FR (FR_e eU6) rfl (WYM_FR (FR_e eU5) rfl (by assumption : WYM S)))) (by first | assumption | exact (AKR_FR hFU6 rfl (by assumption : AKR S))) _) ?_
    rintro _ T7 ⟨hHT7, w54, z53, rfl, w53, w51, w52⟩
    have hFT7 : FR md_mo_act S T7 := FR.tr hFU6 w54 rfl
    show Rl _ _ _ _ _ [iv z53] _ _
    refine l_istore rfl rfl rfl ?_
    refine l_iconst rfl ?_
    refine l_istore rfl rfl rfl ?_
    exact Rl_weak (C120 _ T7 hHT7 hFT7 (z53) (0) (by omega) (by omega) (by first | assumption | exact (by assumption : TXM T7)) (by first | assumption | exact (by assumption : WYM T7)) rfl) (And.intro rfl (And.intro rfl (And.intro rfl (And.intro rfl (True.intro)))))
  refine l_iload_n rfl rfl ?_
  refine l_iconst rfl ?_
  refine l_aload_n rfl rfl ?_
  refine l_gfi rfl rfl rfl rfl rfl ?_
  refine l_iconst rfl ?_
  refine l_isub rfl ?_
  refine l_callS rfl rfl (by decide) rfl (t_mo_in hH a 0 ((Xi S 904 49) - 1) ⟨by omega, by omega⟩ ⟨by omega, by omega⟩ ⟨by omega, by omega⟩ _) ?_
  rintro _ _ ⟨rfl, z56, rfl, w56, w55⟩
  show Rl _ _ _ _ _ [iv z56] _ _
  refine l_if_ne rfl rfl (by unfold rg; omega) (fun w57 => ?_) (fun w58 => ?_)
  · refine l_aload_n rfl rfl ?_
    refine l_gfr rfl rfl rfl rfl rfl (hH.r 904 50 942 rfl) ?_
    refine l_iload_n rfl rfl ?_
    refine l_iaload (n := 12) rfl rfl (by omega) (by omega) (by unfold rg; omega) ?_
    have w59 : -2 ≤ (Xi S 942 ((a).toNat)) ∧ (Xi S 942 ((a).toNat)) ≤ 15 := hH.c _ _
    refine l_istore_n rfl rfl rfl ?_
    refine l_iload_n rfl rfl ?_
    refine l_iconst rfl ?_
    refine l_icmp_ne rfl rfl (by unfold rg; omega) (by unfold rg; omega) (fun w60 => ?_) (fun w61 => ?_)
    · refine l_iload_n rfl rfl ?_
      refine l_bipush rfl rfl ?_
      refine l_icmp_ne rfl rfl (by unfold rg; omega) (by unfold rg; omega) (fun w62 => ?_) (fun w63 => ?_)
      · refine l_iload_n rfl rfl ?_
        refine l_iconst rfl ?_
        refine l_aload_n rfl rfl ?_
        refine l_gfi rfl rfl rfl rfl rfl ?_
        refine l_iconst rfl ?_
        refine l_isub rfl ?_
        refine l_callS rfl rfl (by decide) rfl (t_mo_in hH noun 0 ((Xi S 904 19) - 1) ⟨by omega, by omega⟩ ⟨by omega, by omega⟩ ⟨by omega, by omega⟩ _) ?_
        rintro _ _ ⟨rfl, z65, rfl, w65, w64⟩
        show Rl _ _ _ _ _ [iv z65] _ _
        refine l_if_eq rfl rfl (by unfold rg; omega) (fun w66 => ?_) (fun w67 => ?_)
        · refine l_iconst rfl ?_
          refine l_istore rfl rfl rfl ?_
          refine l_iload rfl rfl ?_
          refine l_if_ne rfl rfl (by unfold rg; omega) (fun w68 => absurd w68 (by omega)) (fun w69 => ?_)
          · refine l_iconst rfl ?_
            refine l_ireturn rfl rfl ?_
            exact ⟨hH, hF, _, rfl, ⟨by omega, by omega⟩, (by first | assumption | exact (by assumption : TXM S)), (by first | assumption | exact (by assumption : WYM S))⟩
        · refine l_aload_n rfl rfl ?_
          refine l_aload_n rfl rfl ?_
          refine l_gfr rfl rfl rfl rfl rfl (hH.r 904 20 918 rfl) ?_
          refine l_iload_n rfl rfl ?_
          refine l_iaload (n := 24) rfl rfl (by omega) (by omega) (by unfold rg; omega) ?_
          have w70 : 0 ≤ (Xi S 918 ((noun).toNat)) ∧ (Xi S 918 ((noun).toNat)) ≤ 15 := hH.c _ _
          refine l_iload_n rfl rfl ?_
          refine l_callV rfl rfl rfl (t_mo_isBelow hH (Xi S 918 ((noun).toNat)) (Xi S 942 ((a).toNat)) ⟨by omega, by omega⟩ ⟨by omega, by omega⟩ (by first | assumption | exact (ABV_FR hF rfl (by assumption : ABV S))) _) ?_
          rintro _ _ ⟨rfl, z72, rfl, w72, w71⟩
          show Rl _ _ _ _ _ [iv z72] _ _
          refine l_if_eq rfl rfl (by unfold rg; omega) (fun w73 => ?_) (fun w74 => ?_)
          · refine l_iconst rfl ?_
            refine l_istore rfl rfl rfl ?_
            refine l_iload rfl rfl ?_
            refine l_if_ne rfl rfl (by unfold rg; omega) (fun w75 => absurd w75 (by omega)) (fun w76 => ?_)
            · refine l_iconst rfl ?_
              refine l_ireturn rfl rfl ?_
              exact ⟨hH, hF, _, rfl, ⟨by omega, by omega⟩, (by first | assumption | exact (by assumption : TXM S)), (by first | assumption | exact (by assumption : WYM S))⟩
          · refine l_iconst rfl ?_
            refine l_goto rfl rfl ?_
            refine l_istore rfl rfl rfl ?_
            refine l_iload rfl rfl ?_
            refine l_if_ne rfl rfl (by unfold rg; omega) (fun w77 => ?_) (fun w78 => absurd w78 (by omega))
            · exact Rl_weak (C98  (by omega) (by omega) (by first | assumption | omega)) (And.intro rfl (And.intro rfl (And.intro rfl (True.intro))))
      · refine l_iload_n rfl rfl ?_
        refine l_iconst rfl ?_
        refine l_iconst rfl ?_
        refine l_callS rfl rfl (by decide) rfl (t_mo_in hH noun 0 5 ⟨by omega, by omega⟩ ⟨by omega, by omega⟩ ⟨by omega, by omega⟩ _) ?_
        rintro _ _ ⟨rfl, z80, rfl, w80, w79⟩
        show Rl _ _ _ _ _ [iv z80] _ _
        refine l_goto rfl rfl ?_
        refine l_istore rfl rfl rfl ?_
        refine l_iload rfl rfl ?_
        refine l_if_ne rfl rfl (by unfold rg; omega) (fun w81 => ?_) (fun w82 => ?_)
        · exact Rl_weak (C98  (by omega) (by omega) (by first | assumption | omega)) (And.intro rfl (And.intro rfl (And.intro rfl (True.intro))))
        · refine l_iconst rfl ?_
          refine l_ireturn rfl rfl ?_
          exact ⟨hH, hF, _, rfl, ⟨by omega, by omega⟩, (by first | assumption | exact (by assumption : TXM S)), (by first | assumption | exact (by assumption : WYM S))⟩
    · refine l_iload_n rfl rfl ?_
      refine l_iconst rfl ?_
      refine l_icmp_ne rfl rfl (by unfold rg; omega) (by unfold rg; omega) (fun w83 => ?_) (fun w84 => ?_)
      · refine l_iconst rfl ?_
        refine l_goto rfl rfl ?_
        refine l_istore rfl rfl rfl ?_
        refine l_iload rfl rfl ?_
        refine l_if_ne rfl rfl (by unfold rg; omega) (fun w85 => absurd w85 (by omega)) (fun w86 => ?_)
        · refine l_iconst rfl ?_
          refine l_ireturn rfl rfl ?_
          exact ⟨hH, hF, _, rfl, ⟨by omega, by omega⟩, (by first | assumption | exact (by assumption : TXM S)), (by first | assumption | exact (by assumption : WYM S))⟩
      · refine l_iconst rfl ?_
        refine l_goto rfl rfl ?_
        refine l_istore rfl rfl rfl ?_
        refine l_iload rfl rfl ?_
        refine l_if_ne rfl rfl (by unfold rg; omega) (fun w87 => ?_) (fun w88 => absurd w88 (by omega))
        · exact Rl_weak (C98  (by omega) (by omega) (by first | assumption | omega)) (And.intro rfl (And.intro rfl (And.intro rfl (True.intro))))
  · refine l_iconst rfl ?_
    refine l_ireturn rfl rfl ?_
    exact ⟨hH, hF, _, rfl, ⟨by omega, by omega⟩, (by first | assumption | exact (by assumption : TXM S)), (by first | assumption | exact (by assumption : WYM S))⟩
/-! SAFETY of the reference: its tokens and where it reads -/
def K3 (t : Int) : Prop := t = 116 ∨ t = 135 ∨ (137 ≤ t ∧ t ≤ 141) ∨ (143 ≤ t ∧ t ≤ 149)
def TK (S : sS) (n : Nat) : Prop := n ≤ 5000 ∧ Xi S 907 n = 1 ∧ (∀ i : Nat, i < n → Xi S 907 i ≠ 1) ∧ ∀ i : Nat, i < n → Xi S 908 i < Xi S 908 (i + 1) ∧ (K3 (Xi S 907 i) → Xi S 908 i + 3 ≤ Xi S 908 (i + 1))
theorem TK_FR {l : List rec} {S T : sS} {n : Nat} (h : FR l S T) (e : kdis l [(907, 909)] = true) (hT : TK S n) : TK T n := by
  have k := h.smk e
  unfold TK
  simp only [k.x 907 rfl, k.x 908 rfl]
  exact hT
def AT (S : sS) (n c : Nat) : Prop := Xi S 904 65 = 0 → Xi S 904 8 ≤ n ∧ 2 * Xi S 904 69 ≤ Xi S 904 8 + 1 ∧ (Xi S 907 (Xi S 904 8).toNat = 3 → 2 * Xi S 904 69 ≤ Xi S 904 8) ∧ 3 * (Xi S 904 93 + c) ≤ Xi S 908 (Xi S 904 8).toNat
theorem AT_FR {l : List rec} {S T : sS} {n c : Nat} (h : FR l S T) (e : (kdis l [(907, 909)] && mD l [8, 65, 69, 93]) = true) (hA : AT S n c) : AT T n c := by
  rw [Bool.and_eq_true] at e
  have k := h.smk e.1
  unfold AT
  rw [mD_x h e.2 8 (by decide), mD_x h e.2 65 (by decide), mD_x h e.2 69 (by decide), mD_x h e.2 93 (by decide), k.x 907 rfl, k.x 908 rfl]
  exact hA
theorem AT_bad {S : sS} {n c : Nat} (h : Xi S 904 65 ≠ 0) : AT S n c := fun q => absurd q h
theorem AT.le {S : sS} {n c c2 : Nat} (h : AT S n c) (hc : c2 ≤ c) : AT S n c2 := fun q => by
  obtain ⟨a, b, e, f⟩ := h q
  exact ⟨a, b, e, by omega⟩
theorem tk_lt {S : sS} {n : Nat} {a : Int} (hT : TK S n) (h0 : 0 ≤ a) (ha : a ≤ n) (h : Xi S 907 a.toNat ≠ 1) : a < n := by
  rcases (by omega : a < n ∨ a.toNat = n) with q | q
  · exact q
  · rw [q] at h; exact absurd hT.2.1 h
theorem at_up {S U : sS} {n c c2 : Nat} {v : Int} (hT : TK S n) (hA : AT S n c) (e : U = uI S 904 8 (Int32.ofInt v)) (hv : v = Xi S 904 8 + 1) (h0 : 0 ≤ Xi S 904 8) (hb : Xi S 904 65 = 0) (h1 : Xi S 907 (Xi S 904 8).toNat ≠ 1) (hc : c2 = c ∨ (c2 = c + 1 ∧ K3 (Xi S 907 (Xi S 904 8).toNat))) : AT U n c2 := fun _ => by
  obtain ⟨a, b, d, f⟩ := hA hb
  have hn := hT.1
  have lt := tk_lt hT h0 a h1
  have x8 : Xi U 904 8 = Xi S 904 8 + 1 := by rw [e, hv]; exact Xi_same ⟨by omega, by omega⟩
  have x69 : Xi U 904 69 = Xi S 904 69 := by rw [e, Xi_ne (by omega)]
  have x93 : Xi U 904 93 = Xi S 904 93 := by rw [e, Xi_ne (by omega)]
  have x7 : ∀ j, Xi U 907 j = Xi S 907 j := fun j => by rw [e, Xi_ne (by omega)]
  have x908 : ∀ j, Xi U 908 j = Xi S 908 j := fun j => by rw [e, Xi_ne (by omega)]
  have p := hT.2.2.2 (Xi S 904 8).toNat (by omega)
  rw [x8, x69, x93, x7, x908, show (Xi S 904 8 + 1).toNat = (Xi S 904 8).toNat + 1 by omega]
  have r2 : 2 * Xi S 904 69 ≤ Xi S 904 8 + 1 := b
  refine ⟨by omega, by omega, fun _ => by omega, ?_⟩
  rcases hc with q | ⟨q, k⟩
  · have := p.1; omega
  · have := p.2 k; omega
/-- the runs of the sentence lie within its tokens -/
def RNV (S : sS) (n : Nat) : Prop := ∀ r : Nat, (r : Int) < Xi S 904 69 → Xi S 950 r + Xi S 951 r ≤ n ∧ 1 ≤ Xi S 951 r
theorem RNV_FR {l : List rec} {S T : sS} {n : Nat} (h : FR l S T) (e : (kdis l [(950, 952)] && mD l [69]) = true) (hv : RNV S n) : RNV T n := by
  rw [Bool.and_eq_true] at e
  have k := h.smk e.1
  unfold RNV
  rw [mD_x h e.2 69 (by decide)]
  simp only [k.x 950 rfl, k.x 951 rfl]
  exact hv
theorem rnv_add {S T U2 U3 : sS} {n i : Nat} {m x y : Int} (hv : RNV S n) (k : ∀ r : Nat, (r : Int) < m → Xi T 950 r = Xi S 950 r) (l : ∀ r, Xi T 951 r = Xi S 951 r) (hm : m = Xi S 904 69) (e2 : U2 = uI T 951 i (Int32.ofInt x)) (hi : i = m.toNat) (e3 : U3 = uI U2 904 69 (Int32.ofInt y)) (hy : y = m + 1) (hx : 1 ≤ x) (hf : Xi T 950 m.toNat + x ≤ n) (h0 : 0 ≤ m ∧ m ≤ 2599) (hg : 0 ≤ Xi T 950 m.toNat) (hn : n ≤ 5000) : RNV U3 n := fun r hr => by
  have x69 : Xi U3 904 69 = m + 1 := by rw [e3, hy]; exact Xi_same ⟨by omega, by omega⟩
  have y0 : Xi U3 950 r = Xi T 950 r := by rw [e3, Xi_ne (by omega), e2, Xi_ne (by omega)]
  rw [x69] at hr
  by_cases q : r = i
  · have y1 : Xi U3 951 r = x := by rw [e3, Xi_ne (by omega), e2, q]; exact Xi_same ⟨by omega, by omega⟩
    rw [y0, y1, q, hi]
    exact ⟨hf, hx⟩
  · have y1 : Xi U3 951 r = Xi S 951 r := by rw [e3, Xi_ne (by omega), e2, Xi_ne (by omega)]; exact l r
    rw [y0, y1, k r (by omega)]
    exact hv r (by omega)
theorem at_run {S B U : sS} {n c : Nat} (x8 : Xi U 904 8 = Xi B 904 8) (hn : Xi B 904 8 ≤ n) (hr : 2 * Xi U 904 69 ≤ Xi B 904 8 + 1) (x7 : ∀ j, Xi U 907 j = Xi S 907 j) (x9 : ∀ j, Xi U 908 j = Xi S 908 j) (h3 : Xi S 907 (Xi B 904 8).toNat ≠ 3) (x93 : Xi U 904 93 = Xi S 904 93) (hp : 3 * (Xi S 904 93 + c) ≤ Xi S 908 (Xi B 904 8).toNat) : AT U n c := fun _ => by
  rw [x8, x7, x9, x93]
  exact ⟨hn, hr, fun q => absurd q h3, hp⟩
theorem pl_up {S : sS} {n : Nat} {a x : Int} (hT : TK S n) (h0 : 0 ≤ a) (ha : a < n) (h : x ≤ Xi S 908 a.toNat) : x ≤ Xi S 908 (a + 1).toNat := by
  have p := (hT.2.2.2 a.toNat (by omega)).1
  rw [show (a + 1).toNat = a.toNat + 1 by omega]
  omega
theorem at_same {S U : sS} {n c : Nat} {v : Int} (hA : AT S n c) (e : U = uI S 904 8 (Int32.ofInt v)) (hv : v = Xi S 904 8) (h8 : 0 ≤ Xi S 904 8 ∧ Xi S 904 8 ≤ 5010) : AT U n c := by
  have x8 : Xi U 904 8 = Xi S 904 8 := by rw [e, hv]; exact Xi_same ⟨by omega, by omega⟩
  have x : ∀ j, j ≠ 8 → Xi U 904 j = Xi S 904 j := fun j hj => by rw [e, Xi_ne (by omega)]
  have x7 : ∀ j, Xi U 907 j = Xi S 907 j := fun j => by rw [e, Xi_ne (by omega)]
  have x9 : ∀ j, Xi U 908 j = Xi S 908 j := fun j => by rw [e, Xi_ne (by omega)]
  unfold AT
  rw [x8, x 65 (by decide), x 69 (by decide), x 93 (by decide), x7, x9]
  exact hA
theorem at_up2 {S U : sS} {n c : Nat} {v : Int} (hT : TK S n) (hA : AT S n c) (e : U = uI S 904 8 (Int32.ofInt v)) (hv : v = Xi S 904 8 + 2) (h0 : 0 ≤ Xi S 904 8) (hb : Xi S 904 65 = 0) (h1 : Xi S 907 (Xi S 904 8).toNat ≠ 1) (h2 : Xi S 907 (Xi S 904 8 + 1).toNat ≠ 1) : AT U n c ∧ Xi U 904 8 ≤ n := by
  obtain ⟨a, b, d, f⟩ := hA hb
  have hn := hT.1
  have lt := tk_lt hT h0 a h1
  have lt2 := tk_lt hT (a := Xi S 904 8 + 1) (by omega) (by omega) h2
  have x8 : Xi U 904 8 = Xi S 904 8 + 2 := by rw [e, hv]; exact Xi_same ⟨by omega, by omega⟩
  have x69 : Xi U 904 69 = Xi S 904 69 := by rw [e, Xi_ne (by omega)]
  have x93 : Xi U 904 93 = Xi S 904 93 := by rw [e, Xi_ne (by omega)]
  have x908 : ∀ j, Xi U 908 j = Xi S 908 j := fun j => by rw [e, Xi_ne (by omega)]
  have p := (hT.2.2.2 (Xi S 904 8).toNat (by omega)).1
  have p2 := (hT.2.2.2 ((Xi S 904 8).toNat + 1) (by omega)).1
  refine ⟨fun _ => ?_, by omega⟩
  rw [x8, x69, x93, x908, show (Xi S 904 8 + 2).toNat = (Xi S 904 8).toNat + 1 + 1 by omega]
  exact ⟨by omega, by omega, fun _ => by omega, by omega⟩
abbrev Q_mo_look (S : sS) (n : Nat) (c : Nat) : pst := fun r S1 => S = S1 ∧ (∃ z : Int, r = some (iv z) ∧ (0 ≤ z ∧ z ≤ 154) ∧ (z ≠ 1 → Xi S 904 65 = 0 ∧ Xi S 907 (Xi S 904 8).toNat = z))
set_option maxRecDepth 100000 in
theorem t_mo_look {S : sS} (hH : HI S) (n : Nat) (c : Nat) (hT : TK S n) (hA : AT S n c) (d : Nat) : Mt lay0 (d + 1) m_mo_look [.ref 904] S (Q_mo_look S n c) := by
  refine Mt_R rfl rfl ?_
  have w1 : 0 ≤ Xi S 904 65 ∧ Xi S 904 65 ≤ 1 := hH.c _ _
  have w2 : 0 ≤ Xi S 904 8 ∧ Xi S 904 8 ≤ 5010 := hH.c _ _
  have hn5 := hT.1
  have hat := hA
  have h8 : 0 ≤ Xi S 904 8 ∧ Xi S 904 8 ≤ 5010 := hH.c _ _
  have h69 : 0 ≤ Xi S 904 69 ∧ Xi S 904 69 ≤ 2600 := hH.c _ _
  have ha0 : Xi S 904 65 = 0 → Xi S 904 8 ≤ n := fun q => (hA q).1
  have ha3 : Xi S 904 65 = 0 → 2 * Xi S 904 69 ≤ Xi S 904 8 + 1 := fun q => (hA q).2.1
  clear hat
  refine l_aload_n rfl rfl ?_
  refine l_gfi rfl rfl rfl rfl rfl ?_
  refine l_if_eq rfl rfl (by unfold rg; omega) (fun w3 => ?_) (fun w4 => ?_)
  · refine l_aload_n rfl rfl ?_
    refine l_gfr rfl rfl rfl rfl rfl (hH.r 904 4 907 rfl) ?_
    refine l_aload_n rfl rfl ?_
    refine l_gfi rfl rfl rfl rfl rfl ?_
    refine l_iaload (n := 5002) rfl rfl (by omega) (by omega) (by unfold rg; omega) ?_
    have w5 : 0 ≤ (Xi S 907 (((Xi S 904 8)).toNat)) ∧ (Xi S 907 (((Xi S 904 8)).toNat)) ≤ 154 := hH.c _ _
    refine l_ireturn rfl rfl ?_
    exact ⟨rfl, _, rfl, ⟨by omega, by omega⟩, (by first | assumption | omega)⟩
  · refine l_iconst rfl ?_
    refine l_goto rfl rfl ?_
    refine l_ireturn rfl rfl ?_
    exact ⟨rfl, _, rfl, ⟨by omega, by omega⟩, (by first | assumption | omega)⟩
abbrev Q_mo_isNext (S : sS) (n : Nat) (c : Nat) (k : Int) : pst := fun r S1 => S = S1 ∧ (∃ z : Int, r = some (iv z) ∧ (0 ≤ z ∧ z ≤ 1) ∧ (z = 1 → Xi S 904 65 = 0 ∧ Xi S 907 (Xi S 904 8).toNat = k) ∧ (z = 0 → Xi S 904 65 = 0 → Xi S 907 (Xi S 904 8).toNat ≠ k))
set_option maxRecDepth 100000 in
theorem t_mo_isNext {S : sS} (hH : HI S) (n : Nat) (c : Nat) (k : Int) (hk : -2147483648 ≤ k ∧ k ≤ 2147483647) (hT : TK S n) (hA : AT S n c) (d : Nat) : Mt lay0 (d + 1) m_mo_isNext [.ref 904, iv k] S (Q_mo_isNext S n c k) := by
  refine Mt_R rfl rfl ?_
  have w1 : 0 ≤ Xi S 904 65 ∧ Xi S 904 65 ≤ 1 := hH.c _ _
  have w2 : 0 ≤ Xi S 904 8 ∧ Xi S 904 8 ≤ 5010 := hH.c _ _
  have hn5 := hT.1
  have hat := hA
  have h8 : 0 ≤ Xi S 904 8 ∧ Xi S 904 8 ≤ 5010 := hH.c _ _
  have h69 : 0 ≤ Xi S 904 69 ∧ Xi S 904 69 ≤ 2600 := hH.c _ _
  have ha0 : Xi S 904 65 = 0 → Xi S 904 8 ≤ n := fun q => (hA q).1
  have ha3 : Xi S 904 65 = 0 → 2 * Xi S 904 69 ≤ Xi S 904 8 + 1 := fun q => (hA q).2.1
  clear hat
  refine l_aload_n rfl rfl ?_
  refine l_gfi rfl rfl rfl rfl rfl ?_
  refine l_if_ne rfl rfl (by unfold rg; omega) (fun w3 => ?_) (fun w4 => ?_)
  · refine l_iconst rfl ?_
    refine l_ireturn rfl rfl ?_
    exact ⟨rfl, _, rfl, ⟨by omega, by omega⟩, (by first | assumption | omega), (by first | assumption | omega)⟩
  · refine l_aload_n rfl rfl ?_
    refine l_gfr rfl rfl rfl rfl rfl (hH.r 904 4 907 rfl) ?_
    refine l_aload_n rfl rfl ?_
    refine l_gfi rfl rfl rfl rfl rfl ?_
    refine l_iaload (n := 5002) rfl rfl (by omega) (by omega) (by unfold rg; omega) ?_
    have w5 : 0 ≤ (Xi S 907 (((Xi S 904 8)).toNat)) ∧ (Xi S 907 (((Xi S 904 8)).toNat)) ≤ 154 := hH.c _ _
    refine l_iload_n rfl rfl ?_
    refine l_icmp_ne rfl rfl (by unfold rg; omega) (by unfold rg; omega) (fun w6 => ?_) (fun w7 => ?_)
    · refine l_iconst rfl ?_
      refine l_ireturn rfl rfl ?_
      exact ⟨rfl, _, rfl, ⟨by omega, by omega⟩, (by first | assumption | omega), (by first | assumption | omega)⟩
    · refine l_iconst rfl ?_
      refine l_goto rfl rfl ?_
      refine l_ireturn rfl rfl ?_
      exact ⟨rfl, _, rfl, ⟨by omega, by omega⟩, (by first | assumption | omega), (by first | assumption | omega)⟩
def md_mo_odd : List rec := [(904, 905, 65, 66), (904, 905, 66, 67)]
def md_mo_take : List rec := [(904, 905, 8, 9), (904, 905, 65, 66), (904, 905, 66, 67)]
def md_mo_run : List rec := [(904, 905, 8, 9), (904, 905, 65, 66), (904, 905, 66, 67), (904, 905, 69, 70), (950, 951, 0, 100000), (951, 952, 0, 100000)]
def md_mo_name : List rec := [(904, 905, 8, 9), (904, 905, 65, 66), (904, 905, 66, 67), (904, 905, 69, 70), (950, 951, 0, 100000), (951, 952, 0, 100000)]
def md_mo_isMore : List rec := [(904, 905, 8, 9)]
abbrev Q_mo_isMore (S : sS) (n : Nat) (c : Nat) : pst := fun r S1 => HI S1 ∧ FR md_mo_isMore S S1 ∧ (∃ z : Int, r = some (iv z) ∧ (0 ≤ z ∧ z ≤ 1) ∧ (AT S1 n c) ∧ (Xi S 904 8 ≤ Xi S1 904 8 ∧ (Xi S1 904 8 ≤ n ∨ Xi S1 904 8 = Xi S 904 8)) ∧ (z = 1 → Xi S 904 8 < Xi S1 904 8) ∧ (Xi S1 904 65 = Xi S 904 65))
set_option maxRecDepth 100000 in
theorem t_mo_isMore {S : sS} (hH : HI S) (n : Nat) (c : Nat) (hT : TK S n) (hA : AT S n c) (d : Nat) : Mt lay0 (d + 2) m_mo_isMore [.ref 904] S (Q_mo_isMore S n c) := by
  refine Mt_R rfl rfl ?_
  have hF : FR md_mo_isMore S S := FR.rf
  have w1 : 0 ≤ Xi S 904 65 ∧ Xi S 904 65 ≤ 1 := hH.c _ _
  have w2 : 0 ≤ Xi S 904 8 ∧ Xi S 904 8 ≤ 5010 := hH.c _ _
  have hn5 := hT.1
  have hat := hA
  have h8 : 0 ≤ Xi S 904 8 ∧ Xi S 904 8 ≤ 5010 := hH.c _ _
  have h69 : 0 ≤ Xi S 904 69 ∧ Xi S 904 69 ≤ 2600 := hH.c _ _
  have ha0 : Xi S 904 65 = 0 → Xi S 904 8 ≤ n := fun q => (hA q).1
  have ha3 : Xi S 904 65 = 0 → 2 * Xi S 904 69 ≤ Xi S 904 8 + 1 := fun q => (hA q).2.1
  clear hat
  refine l_aload_n rfl rfl ?_
  refine l_bipush rfl rfl ?_
  have w3 : 0 ≤ Xi S 904 65 ∧ Xi S 904 65 ≤ 1 := hH.c _ _
  have w4 : 0 ≤ Xi S 904 8 ∧ Xi S 904 8 ≤ 5010 := hH.c _ _
  refine l_callV rfl rfl rfl (t_mo_isNext hH n c 44 ⟨by omega, by omega⟩ (by first | assumption | exact (TK_FR hF rfl (by assumption : TK S _))) (by first | assumption | exact (by assumption : AT S _ _)) _) ?_
  rintro _ _ ⟨rfl, z7, rfl, w7, w5, w6⟩
  show Rl _ _ _ _ _ [iv z7] _ _
  refine l_if_eq rfl rfl (by unfold rg; omega) (fun w8 => ?_) (fun w9 => ?_)
  · refine l_aload_n rfl rfl ?_
    refine l_bipush rfl rfl ?_
    have w10 : 0 ≤ Xi S 904 65 ∧ Xi S 904 65 ≤ 1 := hH.c _ _
    have w11 : 0 ≤ Xi S 904 8 ∧ Xi S 904 8 ≤ 5010 := hH.c _ _
    refine l_callV rfl rfl rfl (t_mo_isNext hH n c 116 ⟨by omega, by omega⟩ (by first | assumption | exact (TK_FR hF rfl (by assumption : TK S _))) (by first | assumption | exact (by assumption : AT S _ _)) _) ?_
    rintro _ _ ⟨rfl, z14, rfl, w14, w12, w13⟩
    show Rl _ _ _ _ _ [iv z14] _ _
    refine l_if_eq rfl rfl (by unfold rg; omega) (fun w15 => ?_) (fun w16 => ?_)
    · refine l_iconst rfl ?_
      refine l_ireturn rfl rfl ?_
      have w17 : 0 ≤ Xi S 904 65 ∧ Xi S 904 65 ≤ 1 := hH.c _ _
      have w18 : 0 ≤ Xi S 904 8 ∧ Xi S 904 8 ≤ 5010 := hH.c _ _
      exact ⟨hH, hF, _, rfl, ⟨by omega, by omega⟩, (by first | exact t44 | exact t65 | exact hA), (by omega), (by omega), (by omega)⟩
    · refine l_aload_n rfl rfl ?_
      refine l_dup rfl rfl ?_
      refine l_gfi rfl rfl rfl rfl rfl ?_
      refine l_iconst rfl ?_
      refine l_iadd rfl ?_
      refine l_pfi rfl rfl rfl rfl ?_
      obtain ⟨U1, eU1⟩ : ∃ T : sS, T = uI S 904 8 (Int32.ofInt ((Xi S 904 8) + 1)) := ⟨_, rfl⟩
      rw [← eU1]
      have hHU1 : HI U1 := by rw [eU1]; exact HI_w hH (show 0 ≤ ((Xi S 904 8) + 1) by omega) (show ((Xi S 904 8) + 1) ≤ 5010 by omega)
      have hFU1 : FR md_mo_isMore S U1 := by rw [eU1]; exact FR.wI hF (mdf_i (r := (904, 905, 8, 9)) (List.mem_of_getElem? (i := 0) rfl) (inR_i (by omega) (by omega) (by omega) (by omega)))
      have w19 : Xi U1 904 8 = ((Xi S 904 8) + 1) := by rw [eU1]; exact Xi_same (by unfold rg; omega)
      have t65 : AT U1 n c := at_up hT hA eU1 (by omega) (by omega) (by omega) (by omega) (Or.inl rfl)
      have l65 : Xi U1 904 8 ≤ n := by have q := tk_lt hT (by omega) (ha0 (by omega)) (by omega); omega
      refine l_iconst rfl ?_
      refine l_ireturn rfl rfl ?_
      have w20 : Xi U1 904 65 = Xi S 904 65 := (show Xi U1 904 65 = Xi S 904 65 from by rw [eU1]; exact Xi_ne (by omega))
      have w21 : 0 ≤ Xi S 904 65 ∧ Xi S 904 65 ≤ 1 := hH.c _ _
      have w22 : 0 ≤ Xi U1 904 8 ∧ Xi U1 904 8 ≤ 5010 := hHU1.c _ _
      exact ⟨hHU1, hFU1, _, rfl, ⟨by omega, by omega⟩, (by first | exact t44 | exact t65 | exact hA), (by omega), (by omega), (by omega)⟩
  · refine l_aload_n rfl rfl ?_
    refine l_dup rfl rfl ?_
    refine l_gfi rfl rfl rfl rfl rfl ?_
    refine l_iconst rfl ?_
    refine l_iadd rfl ?_
    refine l_pfi rfl rfl rfl rfl ?_
    obtain ⟨U2, eU2⟩ : ∃ T : sS, T = uI S 904 8 (Int32.ofInt ((Xi S 904 8) + 1)) := ⟨_, rfl⟩
    rw [← eU2]
    have hHU2 : HI U2 := by rw [eU2]; exact HI_w hH (show 0 ≤ ((Xi S 904 8) + 1) by omega) (show ((Xi S 904 8) + 1) ≤ 5010 by omega)
    have hFU2 : FR md_mo_isMore S U2 := by rw [eU2]; exact FR.wI hF (mdf_i (r := (904, 905, 8, 9)) (List.mem_of_getElem? (i := 0) rfl) (inR_i (by omega) (by omega) (by omega) (by omega)))
    have w23 : Xi U2 904 8 = ((Xi S 904 8) + 1) := by rw [eU2]; exact Xi_same (by unfold rg; omega)
    have s16 : Xi U2 904 8 = Xi S 904 8 + 1 ∧ Xi U2 904 65 = Xi S 904 65 := ⟨by omega, by rw [eU2, Xi_ne (by omega)]⟩
    have t16 : AT U2 n c := at_up hT hA eU2 (by omega) (by omega) (by omega) (by omega) (Or.inl rfl)
    have l16 : Xi U2 904 8 ≤ n := by have q := tk_lt hT (by omega) (ha0 (by omega)) (by omega); omega
    have T16 : TK U2 n := TK_FR (FR_e eU2) rfl hT
    refine l_aload_n rfl rfl ?_
    refine l_dup rfl rfl ?_
    refine l_gfi rfl rfl rfl rfl rfl ?_
    refine l_aload_n rfl rfl ?_
    refine l_gfr rfl rfl rfl rfl rfl (hHU2.r 904 4 907 rfl) ?_
    refine l_aload_n rfl rfl ?_
    refine l_gfi rfl rfl rfl rfl rfl ?_
    refine l_iaload (n := 5002) rfl rfl (by omega) (by omega) (by unfold rg; omega) ?_
    have w24 : 0 ≤ (Xi U2 907 (((Xi U2 904 8)).toNat)) ∧ (Xi U2 907 (((Xi U2 904 8)).toNat)) ≤ 154 := hHU2.c _ _
    refine l_bipush rfl rfl ?_
    refine l_icmp_ne rfl rfl (by unfold rg; omega) (by unfold rg; omega) (fun w25 => ?_) (fun w26 => ?_)
    · refine l_iconst rfl ?_
      refine l_iadd rfl ?_
      refine l_pfi rfl rfl rfl rfl ?_
      obtain ⟨U3, eU3⟩ : ∃ T : sS, T = uI U2 904 8 (Int32.ofInt ((Xi U2 904 8) + 0)) := ⟨_, rfl⟩
      rw [← eU3]
      have hHU3 : HI U3 := by rw [eU3]; exact HI_w hHU2 (show 0 ≤ ((Xi U2 904 8) + 0) by omega) (show ((Xi U2 904 8) + 0) ≤ 5010 by omega)
      have hFU3 : FR md_mo_isMore S U3 := by rw [eU3]; exact FR.wI hFU2 (mdf_i (r := (904, 905, 8, 9)) (List.mem_of_getElem? (i := 0) rfl) (inR_i (by omega) (by omega) (by omega) (by omega)))
      have w27 : Xi U3 904 8 = ((Xi U2 904 8) + 0) := by rw [eU3]; exact Xi_same (by unfold rg; omega)
      have t44 : AT U3 n c := by first | exact at_same t16 eU3 (by omega) (by omega) | exact at_up T16 t16 eU3 (by omega) (by omega) (by omega) (by omega) (Or.inl rfl)
      have l44 : Xi U3 904 8 ≤ n := by first | omega | (have q := tk_lt T16 (by omega) l16 (by omega); omega)
      refine l_iconst rfl ?_
      refine l_ireturn rfl rfl ?_
      have w28 : Xi U3 904 65 = Xi S 904 65 := (show Xi U3 904 65 = Xi U2 904 65 from by rw [eU3]; exact Xi_ne (by omega)).trans ((show Xi U2 904 65 = Xi S 904 65 from by rw [eU2]; exact Xi_ne (by omega)))
      have w29 : 0 ≤ Xi S 904 65 ∧ Xi S 904 65 ≤ 1 := hH.c _ _
      have w30 : 0 ≤ Xi U3 904 8 ∧ Xi U3 904 8 ≤ 5010 := hHU3.c _ _
      exact ⟨hHU3, hFU3, _, rfl, ⟨by omega, by omega⟩, (by first | exact t44 | exact t65 | exact hA), (by omega), (by omega), (by omega)⟩
    · refine l_iconst rfl ?_
      refine l_goto rfl rfl ?_
      refine l_iadd rfl ?_
      refine l_pfi rfl rfl rfl rfl ?_
      obtain ⟨U4, eU4⟩ : ∃ T : sS, T = uI U2 904 8 (Int32.ofInt ((Xi U2 904 8) + 1)) := ⟨_, rfl⟩
      rw [← eU4]
      have hHU4 : HI U4 := by rw [eU4]; exact HI_w hHU2 (show 0 ≤ ((Xi U2 904 8) + 1) by omega) (show ((Xi U2 904 8) + 1) ≤ 5010 by omega)
      have hFU4 : FR md_mo_isMore S U4 := by rw [eU4]; exact FR.wI hFU2 (mdf_i (r := (904, 905, 8, 9)) (List.mem_of_getElem? (i := 0) rfl) (inR_i (by omega) (by omega) (by omega) (by omega)))
      have w31 : Xi U4 904 8 = ((Xi U2 904 8) + 1) := by rw [eU4]; exact Xi_same (by unfold rg; omega)
      have t44 : AT U4 n c := by first | exact at_same t16 eU4 (by omega) (by omega) | exact at_up T16 t16 eU4 (by omega) (by omega) (by omega) (by omega) (Or.inl rfl)
      have l44 : Xi U4 904 8 ≤ n := by first | omega | (have q := tk_lt T16 (by omega) l16 (by omega); omega)
      refine l_iconst rfl ?_
      refine l_ireturn rfl rfl ?_
      have w32 : Xi U4 904 65 = Xi S 904 65 := (show Xi U4 904 65 = Xi U2 904 65 from by rw [eU4]; exact Xi_ne (by omega)).trans ((show Xi U2 904 65 = Xi S 904 65 from by rw [eU2]; exact Xi_ne (by omega)))
      have w33 : 0 ≤ Xi S 904 65 ∧ Xi S 904 65 ≤ 1 := hH.c _ _
      have w34 : 0 ≤ Xi U4 904 8 ∧ Xi U4 904 8 ≤ 5010 := hHU4.c _ _
      exact ⟨hHU4, hFU4, _, rfl, ⟨by omega, by omega⟩, (by first | exact t44 | exact t65 | exact hA), (by omega), (by omega), (by omega)⟩
def md_mo_placing : List rec := [(904, 905, 8, 9), (904, 905, 65, 66), (904, 905, 66, 67)]
def md_mo_be : List rec := [(904, 905, 8, 9), (904, 905, 65, 66), (904, 905, 66, 67), (904, 905, 77, 78)]
