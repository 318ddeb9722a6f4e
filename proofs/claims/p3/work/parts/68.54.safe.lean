/-! SAFETY of methods: printed by wip/safe (vc.py, decl.py) -/
theorem tok_cl {S U : sS} {c j : Nat} {v : Int32} (e : U = uI S (276 + c) j v) (hc : c < 600) (h : TOK S) : TOK U := fun i hi => by
  rw [e, Xi_ne (by omega)] at hi
  have t := h i hi
  have x7 : Xi U 877 i = Xi S 877 i := by rw [e, Xi_ne (by omega)]
  have x8 : Xi U 878 i = Xi S 878 i := by rw [e, Xi_ne (by omega)]
  have x5 : Xi U 876 5 = Xi S 876 5 := by rw [e, Xi_ne (by omega)]
  have x9 : Xj U 879 i = Xj S 879 i := by rw [e]; rfl
  rw [x7, x8, x5, x9]
  exact t
def md_rr_sayText : List rec := [(246, 247, 8, 9), (274, 275, 0, 100000), (275, 276, 0, 100000), (276, 876, 0, 1), (276, 876, 3, 4), (276, 876, 4, 5), (276, 876, 5, 6), (876, 877, 7, 8), (876, 877, 8, 9), (876, 877, 9, 10), (877, 878, 0, 100000), (878, 879, 0, 100000), (879, 880, 0, 100000), (895, 896, 5, 6), (895, 896, 6, 7), (895, 896, 7, 8)]
abbrev Q_rr_sayText (S : sS) (ts : Nat) (row : Int) (cl : Nat) : pst := fun r S1 => HI S1 ∧ FR md_rr_sayText S S1 ∧ (∃ z : Int, r = some (iv z) ∧ (0 ≤ z ∧ z ≤ 1) ∧ (KCL S S1 cl) ∧ (z = 1 → CLok S1 (0 ≤ Xi S 895 4) cl) ∧ (z = 1 → IGR S S1 (0 ≤ Xi S 895 4)) ∧ (z = 1 → KTK S S1 (Xi S 876 6)) ∧ (z = 1 → TOK S1) ∧ (z = 1 → Xi S 876 6 ≤ Xi S1 876 7) ∧ (z = 0 → Xi S1 876 8 ≠ 0))
set_option maxRecDepth 100000 in
theorem t_rr_sayText {S : sS} (hH : HI S) (ts : Nat) (row : Int) (cl : Nat) (hrow : 0 ≤ row ∧ row ≤ 5130) (hcl : cl < 600) (hts : S.2.2 876 4 = some ts) (htp : tp ts) (hL : LEX S) (hT : TOK S) (hS : SRX S) (hx : ts = txr S) (hcr : Xi S 876 6 ≤ Xi S 876 7) (ht : row < Xi S 876 6 ∧ Xi S 877 row.toNat = 102) (d : Nat) : Mt lay0 (d + 5) m_rr_sayText [.ref 899, iv row, .ref (276 + cl)] S (Q_rr_sayText S ts row cl) := by
  refine Mt_R rfl rfl ?_
  have hF : FR md_rr_sayText S S := FR.rf
  have w1 : 0 ≤ Xi S 246 8 ∧ Xi S 246 8 ≤ 1666 := hH.c _ _
  have w2 : 0 ≤ Xi S 876 6 ∧ Xi S 876 6 ≤ 5002 := hH.c _ _
  have w3 : 0 ≤ Xi S 876 7 ∧ Xi S 876 7 ≤ 5125 := hH.c _ _
  have w4 : -1 ≤ Xi S 895 4 ∧ Xi S 895 4 ≤ 15 := hH.c _ _
  have htk := hT row.toNat (by omega) ht.2
  have he5 : 0 ≤ Xi S 876 5 ∧ Xi S 876 5 ≤ 5000 := hH.c _ _
  have hp0 : 0 ≤ Xi S 878 row.toNat := (hH.c 878 row.toNat).1
  have C59 : ∀ (n59 : Nat) (T1 : sS) (_ : HI T1) (_ : FR md_rr_sayText S T1) (v4 : Int) (v5 : Int) (v6 : Int), (0 ≤ v4 ∧ v4 ≤ 5000) → (-1 ≤ v5 ∧ v5 ≤ 4999) → (1 ≤ v6 ∧ v6 ≤ 5000) → (KCL S T1 cl) → (Xi T1 (276 + cl) 0 = 7 ∧ Xi T1 (276 + cl) 3 = Xi S 246 8 ∧ Xi T1 (276 + cl) 4 = (Xi S 878 row.toNat + 1) ∧ Xi T1 (276 + cl) 5 = v4 - (Xi S 878 row.toNat + 1)) → (v4 = (Xi S 878 row.toNat + 1) + Xj S 879 row.toNat) → ((Xi S 878 row.toNat + 1) ≤ v6 ∧ v6 ≤ v4) → (v5 ≠ -1 → (Xi S 878 row.toNat + 1) ≤ v5 ∧ v5 < v6) → (TOK T1) → (Xi S 876 6 ≤ Xi T1 876 7) → (KTK S T1 (Xi S 876 6)) → (IGR S T1 (0 ≤ Xi S 895 4)) → (NB S T1 ts (Xi S 246 8) (Xi S 878 row.toNat + 1) (v6 - (Xi S 878 row.toNat + 1)) v5) → n59 = (5001 - v6).toNat → Rl lay0 (d + 4) m_rr_sayText 59 [(0, .ref 899), (1, iv row), (4, iv v4), (5, iv v5), (6, iv v6)] [] T1 (Q_rr_sayText S ts row cl) := by
    intro n59
    induction n59 using Nat.strongRecOn with
    | ind n59 ih59 =>
      intro T1 hHT1 hFT1 v4 v5 v6 w5 w6 w7 hc59 w8 w9 w10 w11 hT59 w12 hk59 hi59 hn59 hm59
      have w13 : Xi T1 876 6 = Xi S 876 6 := hFT1.x _ _ rfl
      have w14 : Xi T1 895 4 = Xi S 895 4 := hFT1.x _ _ rfl
      have w15 : 0 ≤ Xi T1 876 7 ∧ Xi T1 876 7 ≤ 5125 := hHT1.c _ _
      refine l_iload rfl rfl ?_
      refine l_iload rfl rfl ?_
      refine l_icmp_ge rfl rfl (by unfold rg; omega) (by unfold rg; omega) (fun w16 => ?_) (fun w17 => ?_)
      · refine l_iload rfl rfl ?_
        refine l_iconst rfl ?_
        refine l_icmp_eq rfl rfl (by unfold rg; omega) (by unfold rg; omega) (fun w18 => ?_) (fun w19 => ?_)
        · refine l_iconst rfl ?_
          refine l_goto rfl rfl ?_
          refine l_ireturn rfl rfl ?_
          have w20 : 0 ≤ Xi T1 246 8 ∧ Xi T1 246 8 ≤ 1666 := hHT1.c _ _
          have w21 : 0 ≤ Xi T1 876 7 ∧ Xi T1 876 7 ≤ 5125 := hHT1.c _ _
          have w22 : 0 ≤ Xi T1 876 8 ∧ Xi T1 876 8 ≤ 9 := hHT1.c _ _
          have w23 : -1 ≤ Xi T1 895 4 ∧ Xi T1 895 4 ≤ 15 := hHT1.c _ _
          exact ⟨hHT1, hFT1, _, rfl, ⟨by omega, by omega⟩, (hc59), (fun q => by first | (exfalso; omega) | exact cl_7 (by omega) (w := Xi S 246 8) (by omega) (v := (Xi S 878 row.toNat + 1)) (by omega) (n := v4 - (Xi S 878 row.toNat + 1)) (by omega) (tx_mk (SRX_FR hFT1 rfl hS) (by omega) (by omega)) (ins_mk hx (hFT1 20 1 rfl).2.2 (fun j => (hFT1.smk (ks := [(902, 904)]) rfl).x ts (tp_kC htp) j) (by rw [show v6 - (Xi S 878 row.toNat + 1) = v4 - (Xi S 878 row.toNat + 1) by omega, show v5 = -1 by omega] at hn59; exact hn59) hi59 rfl)), (fun q => by first | (exfalso; omega) | exact hi59), (fun q => by first | (exfalso; omega) | exact hk59), (fun q => by first | (exfalso; omega) | exact hT59), (by omega), (fun q => by first | omega | (exfalso; omega))⟩
        · refine l_aload_n rfl rfl ?_
          refine l_gfr rfl rfl rfl rfl rfl (hHT1.r 899 0 876 rfl) ?_
          refine l_bipush rfl rfl ?_
          refine l_iload_n rfl rfl ?_
          have w24 : 0 ≤ Xi T1 246 8 ∧ Xi T1 246 8 ≤ 1666 := hHT1.c _ _
          have w25 : 0 ≤ Xi T1 876 7 ∧ Xi T1 876 7 ≤ 5125 := hHT1.c _ _
          have w26 : -1 ≤ Xi T1 895 4 ∧ Xi T1 895 4 ≤ 15 := hHT1.c _ _
          refine l_callV rfl rfl rfl (t_to_wrong hHT1 8 row ⟨by omega, by omega⟩ ⟨by omega, by omega⟩ _) ?_
          rintro _ T2 ⟨hHT2, w30, z29, rfl, w29, w27, w28⟩
          have hFT2 : FR md_rr_sayText S T2 := FR.tr hFT1 w30 rfl
          show Rl _ _ _ _ _ [iv z29] _ _
          refine l_if_eq rfl rfl (by unfold rg; omega) (fun w31 => ?_) (fun w32 => ?_)
          · refine l_iconst rfl ?_
            refine l_ireturn rfl rfl ?_
            have w33 : Xi T2 (276 + cl) 0 = Xi T1 (276 + cl) 0 := (show Xi T2 (276 + cl) 0 = Xi T1 (276 + cl) 0 from FR_cl w30 rfl (by omega))
            have w34 : Xi T2 (276 + cl) 3 = Xi T1 (276 + cl) 3 := (show Xi T2 (276 + cl) 3 = Xi T1 (276 + cl) 3 from FR_cl w30 rfl (by omega))
            have w35 : Xi T2 (276 + cl) 4 = Xi T1 (276 + cl) 4 := (show Xi T2 (276 + cl) 4 = Xi T1 (276 + cl) 4 from FR_cl w30 rfl (by omega))
            have w36 : Xi T2 (276 + cl) 5 = Xi T1 (276 + cl) 5 := (show Xi T2 (276 + cl) 5 = Xi T1 (276 + cl) 5 from FR_cl w30 rfl (by omega))
            have w37 : Xi T2 246 8 = Xi T1 246 8 := (show Xi T2 246 8 = Xi T1 246 8 from w30.x _ _ rfl)
            have w38 : 0 ≤ Xi T1 246 8 ∧ Xi T1 246 8 ≤ 1666 := hHT1.c _ _
            have w39 : Xi T2 876 7 = Xi T1 876 7 := (show Xi T2 876 7 = Xi T1 876 7 from w30.x _ _ rfl)
            have w40 : 0 ≤ Xi T1 876 7 ∧ Xi T1 876 7 ≤ 5125 := hHT1.c _ _
            have w41 : 0 ≤ Xi T2 876 8 ∧ Xi T2 876 8 ≤ 9 := hHT2.c _ _
            have w42 : Xi T2 895 4 = Xi T1 895 4 := (show Xi T2 895 4 = Xi T1 895 4 from w30.x _ _ rfl)
            have w43 : -1 ≤ Xi T1 895 4 ∧ Xi T1 895 4 ≤ 15 := hHT1.c _ _
            exact ⟨hHT2, hFT2, _, rfl, ⟨by omega, by omega⟩, ((kcl_f w30 rfl hc59)), (fun q => by first | (exfalso; omega) | exact cl_7 (by omega) (w := Xi S 246 8) (by omega) (v := (Xi S 878 row.toNat + 1)) (by omega) (n := v4 - (Xi S 878 row.toNat + 1)) (by omega) (tx_mk (SRX_FR hFT2 rfl hS) (by omega) (by omega)) (ins_mk hx (hFT2 20 1 rfl).2.2 (fun j => (hFT2.smk (ks := [(902, 904)]) rfl).x ts (tp_kC htp) j) (by rw [show v6 - (Xi S 878 row.toNat + 1) = v4 - (Xi S 878 row.toNat + 1) by omega, show v5 = -1 by omega] at hn59; exact hn59) hi59 rfl)), (fun q => by first | (exfalso; omega) | exact hi59), (fun q => by first | (exfalso; omega) | exact hk59), (fun q => by first | (exfalso; omega) | exact hT59), (by omega), (fun q => by first | omega | (exfalso; omega))⟩
          · refine l_iconst rfl ?_
            refine l_goto rfl rfl ?_
            refine l_ireturn rfl rfl ?_
            have w44 : Xi T2 (276 + cl) 0 = Xi T1 (276 + cl) 0 := (show Xi T2 (276 + cl) 0 = Xi T1 (276 + cl) 0 from FR_cl w30 rfl (by omega))
            have w45 : Xi T2 (276 + cl) 3 = Xi T1 (276 + cl) 3 := (show Xi T2 (276 + cl) 3 = Xi T1 (276 + cl) 3 from FR_cl w30 rfl (by omega))
            have w46 : Xi T2 (276 + cl) 4 = Xi T1 (276 + cl) 4 := (show Xi T2 (276 + cl) 4 = Xi T1 (276 + cl) 4 from FR_cl w30 rfl (by omega))
            have w47 : Xi T2 (276 + cl) 5 = Xi T1 (276 + cl) 5 := (show Xi T2 (276 + cl) 5 = Xi T1 (276 + cl) 5 from FR_cl w30 rfl (by omega))
            have w48 : Xi T2 246 8 = Xi T1 246 8 := (show Xi T2 246 8 = Xi T1 246 8 from w30.x _ _ rfl)
            have w49 : 0 ≤ Xi T1 246 8 ∧ Xi T1 246 8 ≤ 1666 := hHT1.c _ _
            have w50 : Xi T2 876 7 = Xi T1 876 7 := (show Xi T2 876 7 = Xi T1 876 7 from w30.x _ _ rfl)
            have w51 : 0 ≤ Xi T1 876 7 ∧ Xi T1 876 7 ≤ 5125 := hHT1.c _ _
            have w52 : 0 ≤ Xi T2 876 8 ∧ Xi T2 876 8 ≤ 9 := hHT2.c _ _
            have w53 : Xi T2 895 4 = Xi T1 895 4 := (show Xi T2 895 4 = Xi T1 895 4 from w30.x _ _ rfl)
            have w54 : -1 ≤ Xi T1 895 4 ∧ Xi T1 895 4 ≤ 15 := hHT1.c _ _
            exact ⟨hHT2, hFT2, _, rfl, ⟨by omega, by omega⟩, ((kcl_f w30 rfl hc59)), (fun q => by first | (exfalso; omega) | exact cl_7 (by omega) (w := Xi S 246 8) (by omega) (v := (Xi S 878 row.toNat + 1)) (by omega) (n := v4 - (Xi S 878 row.toNat + 1)) (by omega) (tx_mk (SRX_FR hFT2 rfl hS) (by omega) (by omega)) (ins_mk hx (hFT2 20 1 rfl).2.2 (fun j => (hFT2.smk (ks := [(902, 904)]) rfl).x ts (tp_kC htp) j) (by rw [show v6 - (Xi S 878 row.toNat + 1) = v4 - (Xi S 878 row.toNat + 1) by omega, show v5 = -1 by omega] at hn59; exact hn59) hi59 rfl)), (fun q => by first | (exfalso; omega) | exact hi59), (fun q => by first | (exfalso; omega) | exact hk59), (fun q => by first | (exfalso; omega) | exact hT59), (by omega), (fun q => by first | omega | (exfalso; omega))⟩
      · refine l_aload_n rfl rfl ?_
        refine l_gfr rfl rfl rfl rfl rfl (hHT1.r 899 0 876 rfl) ?_
        refine l_gfr rfl rfl rfl rfl rfl ((hFT1 876 4 rfl).2.2.trans hts) ?_
        refine l_iload rfl rfl ?_
        refine l_baload (n := 5000) rfl (tp_sv (by assumption)) (lay_tp (by assumption)) (by decide) (by omega) (by omega) (by unfold rg; omega) ?_
        have w56 : -128 ≤ (Xi T1 ts ((v6).toNat)) ∧ (Xi T1 ts ((v6).toNat)) ≤ 127 := tpc hHT1 (by assumption)
        have x75 : (Xi T1 ts ((v6).toNat)) = Xi S ts ((Xi S 878 row.toNat + 1) + (v6 - (Xi S 878 row.toNat + 1))).toNat := by rw [show (Xi S 878 row.toNat + 1) + (v6 - (Xi S 878 row.toNat + 1)) = v6 by omega]; exact (hFT1.smk (ks := [(902, 904)]) rfl).x ts (tp_kC htp) _
        refine l_istore rfl rfl rfl ?_
        refine l_iload rfl rfl ?_
        refine l_bipush rfl rfl ?_
        refine l_icmp_ne rfl rfl (by unfold rg; omega) (by unfold rg; omega) (fun w57 => ?_) (fun w58 => ?_)
        · refine l_iload rfl rfl ?_
          refine l_bipush rfl rfl ?_
          refine l_icmp_ne rfl rfl (by unfold rg; omega) (by unfold rg; omega) (fun w59 => ?_) (fun w60 => ?_)
          · refine l_iload rfl rfl ?_
            refine l_bipush rfl rfl ?_
            refine l_icmp_eq rfl rfl (by unfold rg; omega) (by unfold rg; omega) (fun w61 => ?_) (fun w62 => ?_)
            · refine l_iload rfl rfl ?_
              refine l_bipush rfl rfl ?_
              refine l_icmp_ne rfl rfl (by unfold rg; omega) (by unfold rg; omega) (fun w63 => ?_) (fun w64 => ?_)
              · refine l_iconst rfl ?_
                refine l_istore rfl rfl rfl ?_
                refine l_iinc rfl rfl rfl rfl ?_
                refine l_goto rfl rfl ?_
                have w65 : 0 ≤ Xi T1 246 8 ∧ Xi T1 246 8 ≤ 1666 := hHT1.c _ _
                have w66 : 0 ≤ Xi T1 876 7 ∧ Xi T1 876 7 ≤ 5125 := hHT1.c _ _
                have w67 : -1 ≤ Xi T1 895 4 ∧ Xi T1 895 4 ≤ 15 := hHT1.c _ _
                exact Rl_weak (ih59 _ (by omega) T1 hHT1 hFT1 (v4) ((-1)) ((v6 + 1)) (by omega) (by omega) (by omega) (hc59) (by omega) (by omega) (by omega) (by omega) (by first | assumption | exact t53) (by omega) (by first | exact k111 | exact hk59 | exact k53) (by first | exact i111 | exact hi59 | exact i53) (by first | exact nb_0 (by omega) (by omega) | exact nb_s hn59 (by omega) (by omega) x75 (by omega)) rfl) (And.intro rfl (And.intro rfl (And.intro rfl (And.intro rfl (And.intro rfl (True.intro))))))
              · refine l_iload rfl rfl ?_
                refine l_goto rfl rfl ?_
                refine l_istore rfl rfl rfl ?_
                refine l_iinc rfl rfl rfl rfl ?_
                refine l_goto rfl rfl ?_
                have w68 : 0 ≤ Xi T1 246 8 ∧ Xi T1 246 8 ≤ 1666 := hHT1.c _ _
                have w69 : 0 ≤ Xi T1 876 7 ∧ Xi T1 876 7 ≤ 5125 := hHT1.c _ _
                have w70 : -1 ≤ Xi T1 895 4 ∧ Xi T1 895 4 ≤ 15 := hHT1.c _ _
                exact Rl_weak (ih59 _ (by omega) T1 hHT1 hFT1 (v4) (v6) ((v6 + 1)) (by omega) (by omega) (by omega) (hc59) (by omega) (by omega) (by omega) (by omega) (by first | assumption | exact t53) (by omega) (by first | exact k111 | exact hk59 | exact k53) (by first | exact i111 | exact hi59 | exact i53) (by first | exact nb_0 (by omega) (by omega) | exact nb_s hn59 (by omega) (by omega) x75 (by omega)) rfl) (And.intro rfl (And.intro rfl (And.intro rfl (And.intro rfl (And.intro rfl (True.intro))))))
            · refine l_iload rfl rfl ?_
              refine l_bipush rfl rfl ?_
              refine l_icmp_ne rfl rfl (by unfold rg; omega) (by unfold rg; omega) (fun w71 => ?_) (fun w72 => ?_)
              · refine l_iinc rfl rfl rfl rfl ?_
                refine l_goto rfl rfl ?_
                have w73 : 0 ≤ Xi T1 246 8 ∧ Xi T1 246 8 ≤ 1666 := hHT1.c _ _
                have w74 : 0 ≤ Xi T1 876 7 ∧ Xi T1 876 7 ≤ 5125 := hHT1.c _ _
                have w75 : -1 ≤ Xi T1 895 4 ∧ Xi T1 895 4 ≤ 15 := hHT1.c _ _
                exact Rl_weak (ih59 _ (by omega) T1 hHT1 hFT1 (v4) (v5) ((v6 + 1)) (by omega) (by omega) (by omega) (hc59) (by omega) (by omega) (by omega) (by omega) (by first | assumption | exact t53) (by omega) (by first | exact k111 | exact hk59 | exact k53) (by first | exact i111 | exact hi59 | exact i53) (by first | exact nb_0 (by omega) (by omega) | exact nb_s hn59 (by omega) (by omega) x75 (by omega)) rfl) (And.intro rfl (And.intro rfl (And.intro rfl (And.intro rfl (And.intro rfl (True.intro))))))
              · refine l_iload rfl rfl ?_
                refine l_bipush rfl rfl ?_
                refine l_icmp_ne rfl rfl (by unfold rg; omega) (by unfold rg; omega) (fun w76 => ?_) (fun w77 => ?_)
                · refine l_iconst rfl ?_
                  refine l_istore rfl rfl rfl ?_
                  refine l_iinc rfl rfl rfl rfl ?_
                  refine l_goto rfl rfl ?_
                  have w78 : 0 ≤ Xi T1 246 8 ∧ Xi T1 246 8 ≤ 1666 := hHT1.c _ _
                  have w79 : 0 ≤ Xi T1 876 7 ∧ Xi T1 876 7 ≤ 5125 := hHT1.c _ _
                  have w80 : -1 ≤ Xi T1 895 4 ∧ Xi T1 895 4 ≤ 15 := hHT1.c _ _
                  exact Rl_weak (ih59 _ (by omega) T1 hHT1 hFT1 (v4) ((-1)) ((v6 + 1)) (by omega) (by omega) (by omega) (hc59) (by omega) (by omega) (by omega) (by omega) (by first | assumption | exact t53) (by omega) (by first | exact k111 | exact hk59 | exact k53) (by first | exact i111 | exact hi59 | exact i53) (by first | exact nb_0 (by omega) (by omega) | exact nb_s hn59 (by omega) (by omega) x75 (by omega)) rfl) (And.intro rfl (And.intro rfl (And.intro rfl (And.intro rfl (And.intro rfl (True.intro))))))
                · refine l_iload rfl rfl ?_
                  refine l_goto rfl rfl ?_
                  refine l_istore rfl rfl rfl ?_
                  refine l_iinc rfl rfl rfl rfl ?_
                  refine l_goto rfl rfl ?_
                  have w81 : 0 ≤ Xi T1 246 8 ∧ Xi T1 246 8 ≤ 1666 := hHT1.c _ _
                  have w82 : 0 ≤ Xi T1 876 7 ∧ Xi T1 876 7 ≤ 5125 := hHT1.c _ _
                  have w83 : -1 ≤ Xi T1 895 4 ∧ Xi T1 895 4 ≤ 15 := hHT1.c _ _
                  exact Rl_weak (ih59 _ (by omega) T1 hHT1 hFT1 (v4) (v6) ((v6 + 1)) (by omega) (by omega) (by omega) (hc59) (by omega) (by omega) (by omega) (by omega) (by first | assumption | exact t53) (by omega) (by first | exact k111 | exact hk59 | exact k53) (by first | exact i111 | exact hi59 | exact i53) (by first | exact nb_0 (by omega) (by omega) | exact nb_s hn59 (by omega) (by omega) x75 (by omega)) rfl) (And.intro rfl (And.intro rfl (And.intro rfl (And.intro rfl (And.intro rfl (True.intro))))))
          · refine l_iload rfl rfl ?_
            refine l_iconst rfl ?_
            refine l_icmp_eq rfl rfl (by unfold rg; omega) (by unfold rg; omega) (fun w84 => ?_) (fun w85 => ?_)
            · refine l_aload_n rfl rfl ?_
              refine l_gfr rfl rfl rfl rfl rfl (hHT1.r 899 0 876 rfl) ?_
              refine l_bipush rfl rfl ?_
              refine l_iload_n rfl rfl ?_
              have w86 : 0 ≤ Xi T1 246 8 ∧ Xi T1 246 8 ≤ 1666 := hHT1.c _ _
              have w87 : 0 ≤ Xi T1 876 7 ∧ Xi T1 876 7 ≤ 5125 := hHT1.c _ _
              have w88 : -1 ≤ Xi T1 895 4 ∧ Xi T1 895 4 ≤ 15 := hHT1.c _ _
              refine l_callV rfl rfl rfl (t_to_wrong hHT1 8 row ⟨by omega, by omega⟩ ⟨by omega, by omega⟩ _) ?_
              rintro _ T3 ⟨hHT3, w92, z91, rfl, w91, w89, w90⟩
              have hFT3 : FR md_rr_sayText S T3 := FR.tr hFT1 w92 rfl
              show Rl _ _ _ _ _ [iv z91] _ _
              refine l_ireturn rfl (retI_z (by omega)) ?_
              have w93 : Xi T3 (276 + cl) 0 = Xi T1 (276 + cl) 0 := (show Xi T3 (276 + cl) 0 = Xi T1 (276 + cl) 0 from FR_cl w92 rfl (by omega))
              have w94 : Xi T3 (276 + cl) 3 = Xi T1 (276 + cl) 3 := (show Xi T3 (276 + cl) 3 = Xi T1 (276 + cl) 3 from FR_cl w92 rfl (by omega))
              have w95 : Xi T3 (276 + cl) 4 = Xi T1 (276 + cl) 4 := (show Xi T3 (276 + cl) 4 = Xi T1 (276 + cl) 4 from FR_cl w92 rfl (by omega))
              have w96 : Xi T3 (276 + cl) 5 = Xi T1 (276 + cl) 5 := (show Xi T3 (276 + cl) 5 = Xi T1 (276 + cl) 5 from FR_cl w92 rfl (by omega))
              have w97 : Xi T3 246 8 = Xi T1 246 8 := (show Xi T3 246 8 = Xi T1 246 8 from w92.x _ _ rfl)
              have w98 : 0 ≤ Xi T1 246 8 ∧ Xi T1 246 8 ≤ 1666 := hHT1.c _ _
              have w99 : Xi T3 876 7 = Xi T1 876 7 := (show Xi T3 876 7 = Xi T1 876 7 from w92.x _ _ rfl)
              have w100 : 0 ≤ Xi T1 876 7 ∧ Xi T1 876 7 ≤ 5125 := hHT1.c _ _
              have w101 : 0 ≤ Xi T3 876 8 ∧ Xi T3 876 8 ≤ 9 := hHT3.c _ _
              have w102 : Xi T3 895 4 = Xi T1 895 4 := (show Xi T3 895 4 = Xi T1 895 4 from w92.x _ _ rfl)
              have w103 : -1 ≤ Xi T1 895 4 ∧ Xi T1 895 4 ≤ 15 := hHT1.c _ _
              exact ⟨hHT3, hFT3, _, rfl, ⟨by omega, by omega⟩, ((kcl_f w92 rfl hc59)), (fun q => by first | (exfalso; omega) | exact cl_7 (by omega) (w := Xi S 246 8) (by omega) (v := (Xi S 878 row.toNat + 1)) (by omega) (n := v4 - (Xi S 878 row.toNat + 1)) (by omega) (tx_mk (SRX_FR hFT3 rfl hS) (by omega) (by omega)) (ins_mk hx (hFT3 20 1 rfl).2.2 (fun j => (hFT3.smk (ks := [(902, 904)]) rfl).x ts (tp_kC htp) j) (by rw [show v6 - (Xi S 878 row.toNat + 1) = v4 - (Xi S 878 row.toNat + 1) by omega, show v5 = -1 by omega] at hn59; exact hn59) hi59 rfl)), (fun q => by first | (exfalso; omega) | exact hi59), (fun q => by first | (exfalso; omega) | exact hk59), (fun q => by first | (exfalso; omega) | exact hT59), (by omega), (fun q => by first | omega | (exfalso; omega))⟩
            · refine l_aload_n rfl rfl ?_
              refine l_iload rfl rfl ?_
              refine l_iconst rfl ?_
              refine l_iadd rfl ?_
              refine l_iload rfl rfl ?_
              have w104 : 0 ≤ Xi T1 246 8 ∧ Xi T1 246 8 ≤ 1666 := hHT1.c _ _
              have w105 : 0 ≤ Xi T1 876 6 ∧ Xi T1 876 6 ≤ 5002 := hHT1.c _ _
              have w106 : 0 ≤ Xi T1 876 7 ∧ Xi T1 876 7 ≤ 5125 := hHT1.c _ _
              have w107 : -1 ≤ Xi T1 895 4 ∧ Xi T1 895 4 ≤ 15 := hHT1.c _ _
              refine l_callV rfl rfl rfl (t_rr_insert hHT1 ts (v5 + 1) v6 ⟨by omega, by omega⟩ ⟨by omega, by omega⟩ ((hFT1 876 4 rfl).2.2.trans hts) htp (by first | assumption | exact (LEX_FR hFT1 rfl rfl (by assumption : LEX S))) (by assumption) (by first | assumption | omega) (by first | assumption | omega) _) ?_
              rintro _ T4 ⟨hHT4, w114, z113, rfl, w113, w108, w109, w110, w111, w112⟩
              have hFT4 : FR md_rr_sayText S T4 := FR.tr hFT1 w114 rfl
              show Rl _ _ _ _ _ [iv z113] _ _
              have i111 : IGR S T4 (0 ≤ Xi S 895 4) := IGR.tr hi59 (by assumption : IGR T1 T4 (0 ≤ Xi T1 895 4)) (fun x => by omega)
              have k111 : KTK S T4 (Xi S 876 6) := ktk_tr hk59 (by assumption : KTK T1 T4 (Xi T1 876 6)) (by omega)
              refine l_if_ne rfl rfl (by unfold rg; omega) (fun w115 => ?_) (fun w116 => ?_)
              · refine l_iload rfl rfl ?_
                refine l_bipush rfl rfl ?_
                refine l_icmp_eq rfl rfl (by unfold rg; omega) (by unfold rg; omega) (fun w117 => ?_) (fun w118 => ?_)
                · refine l_iload rfl rfl ?_
                  refine l_bipush rfl rfl ?_
                  refine l_icmp_ne rfl rfl (by unfold rg; omega) (by unfold rg; omega) (fun w119 => ?_) (fun w120 => ?_)
                  · refine l_iconst rfl ?_
                    refine l_istore rfl rfl rfl ?_
                    refine l_iinc rfl rfl rfl rfl ?_
                    refine l_goto rfl rfl ?_
                    have w121 : Xi T4 (276 + cl) 0 = Xi T1 (276 + cl) 0 := (show Xi T4 (276 + cl) 0 = Xi T1 (276 + cl) 0 from FR_cl w114 rfl (by omega))
                    have w122 : Xi T4 (276 + cl) 3 = Xi T1 (276 + cl) 3 := (show Xi T4 (276 + cl) 3 = Xi T1 (276 + cl) 3 from FR_cl w114 rfl (by omega))
                    have w123 : Xi T4 (276 + cl) 4 = Xi T1 (276 + cl) 4 := (show Xi T4 (276 + cl) 4 = Xi T1 (276 + cl) 4 from FR_cl w114 rfl (by omega))
                    have w124 : Xi T4 (276 + cl) 5 = Xi T1 (276 + cl) 5 := (show Xi T4 (276 + cl) 5 = Xi T1 (276 + cl) 5 from FR_cl w114 rfl (by omega))
                    have w125 : 0 ≤ Xi T4 246 8 ∧ Xi T4 246 8 ≤ 1666 := hHT4.c _ _
                    have w126 : 0 ≤ Xi T4 876 7 ∧ Xi T4 876 7 ≤ 5125 := hHT4.c _ _
                    have w127 : Xi T4 895 4 = Xi T1 895 4 := (show Xi T4 895 4 = Xi T1 895 4 from w114.x _ _ rfl)
                    have w128 : -1 ≤ Xi T1 895 4 ∧ Xi T1 895 4 ≤ 15 := hHT1.c _ _
                    exact Rl_weak (ih59 _ (by omega) T4 hHT4 hFT4 (v4) ((-1)) ((v6 + 1)) (by omega) (by omega) (by omega) ((kcl_f w114 rfl hc59)) (by omega) (by omega) (by omega) (by omega) (by first | assumption | exact t53) (by omega) (by first | exact k111 | exact hk59 | exact k53) (by first | exact i111 | exact hi59 | exact i53) (by first | exact nb_0 (by omega) (by omega) | exact nb_s hn59 (by omega) (by omega) x75 (by omega)) rfl) (And.intro rfl (And.intro rfl (And.intro rfl (And.intro rfl (And.intro rfl (True.intro))))))
                  · refine l_iload rfl rfl ?_
                    refine l_goto rfl rfl ?_
                    refine l_istore rfl rfl rfl ?_
                    refine l_iinc rfl rfl rfl rfl ?_
                    refine l_goto rfl rfl ?_
                    have w129 : Xi T4 (276 + cl) 0 = Xi T1 (276 + cl) 0 := (show Xi T4 (276 + cl) 0 = Xi T1 (276 + cl) 0 from FR_cl w114 rfl (by omega))
                    have w130 : Xi T4 (276 + cl) 3 = Xi T1 (276 + cl) 3 := (show Xi T4 (276 + cl) 3 = Xi T1 (276 + cl) 3 from FR_cl w114 rfl (by omega))
                    have w131 : Xi T4 (276 + cl) 4 = Xi T1 (276 + cl) 4 := (show Xi T4 (276 + cl) 4 = Xi T1 (276 + cl) 4 from FR_cl w114 rfl (by omega))
                    have w132 : Xi T4 (276 + cl) 5 = Xi T1 (276 + cl) 5 := (show Xi T4 (276 + cl) 5 = Xi T1 (276 + cl) 5 from FR_cl w114 rfl (by omega))
                    have w133 : 0 ≤ Xi T4 246 8 ∧ Xi T4 246 8 ≤ 1666 := hHT4.c _ _
                    have w134 : 0 ≤ Xi T4 876 7 ∧ Xi T4 876 7 ≤ 5125 := hHT4.c _ _
                    have w135 : Xi T4 895 4 = Xi T1 895 4 := (show Xi T4 895 4 = Xi T1 895 4 from w114.x _ _ rfl)
                    have w136 : -1 ≤ Xi T1 895 4 ∧ Xi T1 895 4 ≤ 15 := hHT1.c _ _
                    exact Rl_weak (ih59 _ (by omega) T4 hHT4 hFT4 (v4) (v6) ((v6 + 1)) (by omega) (by omega) (by omega) ((kcl_f w114 rfl hc59)) (by omega) (by omega) (by omega) (by omega) (by first | assumption | exact t53) (by omega) (by first | exact k111 | exact hk59 | exact k53) (by first | exact i111 | exact hi59 | exact i53) (by first | exact nb_0 (by omega) (by omega) | exact nb_s hn59 (by omega) (by omega) x75 (by omega)) rfl) (And.intro rfl (And.intro rfl (And.intro rfl (And.intro rfl (And.intro rfl (True.intro))))))
                · refine l_iload rfl rfl ?_
                  refine l_bipush rfl rfl ?_
                  refine l_icmp_ne rfl rfl (by unfold rg; omega) (by unfold rg; omega) (fun w137 => ?_) (fun w138 => ?_)
                  · refine l_iinc rfl rfl rfl rfl ?_
                    refine l_goto rfl rfl ?_
                    have w139 : Xi T4 (276 + cl) 0 = Xi T1 (276 + cl) 0 := (show Xi T4 (276 + cl) 0 = Xi T1 (276 + cl) 0 from FR_cl w114 rfl (by omega))
                    have w140 : Xi T4 (276 + cl) 3 = Xi T1 (276 + cl) 3 := (show Xi T4 (276 + cl) 3 = Xi T1 (276 + cl) 3 from FR_cl w114 rfl (by omega))
                    have w141 : Xi T4 (276 + cl) 4 = Xi T1 (276 + cl) 4 := (show Xi T4 (276 + cl) 4 = Xi T1 (276 + cl) 4 from FR_cl w114 rfl (by omega))
                    have w142 : Xi T4 (276 + cl) 5 = Xi T1 (276 + cl) 5 := (show Xi T4 (276 + cl) 5 = Xi T1 (276 + cl) 5 from FR_cl w114 rfl (by omega))
                    have w143 : 0 ≤ Xi T4 246 8 ∧ Xi T4 246 8 ≤ 1666 := hHT4.c _ _
                    have w144 : 0 ≤ Xi T4 876 7 ∧ Xi T4 876 7 ≤ 5125 := hHT4.c _ _
                    have w145 : Xi T4 895 4 = Xi T1 895 4 := (show Xi T4 895 4 = Xi T1 895 4 from w114.x _ _ rfl)
                    have w146 : -1 ≤ Xi T1 895 4 ∧ Xi T1 895 4 ≤ 15 := hHT1.c _ _
                    exact Rl_weak (ih59 _ (by omega) T4 hHT4 hFT4 (v4) (v5) ((v6 + 1)) (by omega) (by omega) (by omega) ((kcl_f w114 rfl hc59)) (by omega) (by omega) (by omega) (by omega) (by first | assumption | exact t53) (by omega) (by first | exact k111 | exact hk59 | exact k53) (by first | exact i111 | exact hi59 | exact i53) (by first | exact nb_0 (by omega) (by omega) | exact nb_s hn59 (by omega) (by omega) x75 (by omega)) rfl) (And.intro rfl (And.intro rfl (And.intro rfl (And.intro rfl (And.intro rfl (True.intro))))))
                  · refine l_iload rfl rfl ?_
                    refine l_bipush rfl rfl ?_
                    refine l_icmp_ne rfl rfl (by unfold rg; omega) (by unfold rg; omega) (fun w147 => ?_) (fun w148 => ?_)
                    · refine l_iconst rfl ?_
                      refine l_istore rfl rfl rfl ?_
                      refine l_iinc rfl rfl rfl rfl ?_
                      refine l_goto rfl rfl ?_
                      have w149 : Xi T4 (276 + cl) 0 = Xi T1 (276 + cl) 0 := (show Xi T4 (276 + cl) 0 = Xi T1 (276 + cl) 0 from FR_cl w114 rfl (by omega))
                      have w150 : Xi T4 (276 + cl) 3 = Xi T1 (276 + cl) 3 := (show Xi T4 (276 + cl) 3 = Xi T1 (276 + cl) 3 from FR_cl w114 rfl (by omega))
                      have w151 : Xi T4 (276 + cl) 4 = Xi T1 (276 + cl) 4 := (show Xi T4 (276 + cl) 4 = Xi T1 (276 + cl) 4 from FR_cl w114 rfl (by omega))
                      have w152 : Xi T4 (276 + cl) 5 = Xi T1 (276 + cl) 5 := (show Xi T4 (276 + cl) 5 = Xi T1 (276 + cl) 5 from FR_cl w114 rfl (by omega))
                      have w153 : 0 ≤ Xi T4 246 8 ∧ Xi T4 246 8 ≤ 1666 := hHT4.c _ _
                      have w154 : 0 ≤ Xi T4 876 7 ∧ Xi T4 876 7 ≤ 5125 := hHT4.c _ _
                      have w155 : Xi T4 895 4 = Xi T1 895 4 := (show Xi T4 895 4 = Xi T1 895 4 from w114.x _ _ rfl)
                      have w156 : -1 ≤ Xi T1 895 4 ∧ Xi T1 895 4 ≤ 15 := hHT1.c _ _
                      exact Rl_weak (ih59 _ (by omega) T4 hHT4 hFT4 (v4) ((-1)) ((v6 + 1)) (by omega) (by omega) (by omega) ((kcl_f w114 rfl hc59)) (by omega) (by omega) (by omega) (by omega) (by first | assumption | exact t53) (by omega) (by first | exact k111 | exact hk59 | exact k53) (by first | exact i111 | exact hi59 | exact i53) (by first | exact nb_0 (by omega) (by omega) | exact nb_s hn59 (by omega) (by omega) x75 (by omega)) rfl) (And.intro rfl (And.intro rfl (And.intro rfl (And.intro rfl (And.intro rfl (True.intro))))))
                    · refine l_iload rfl rfl ?_
                      refine l_goto rfl rfl ?_
                      refine l_istore rfl rfl rfl ?_
                      refine l_iinc rfl rfl rfl rfl ?_
                      refine l_goto rfl rfl ?_
                      have w157 : Xi T4 (276 + cl) 0 = Xi T1 (276 + cl) 0 := (show Xi T4 (276 + cl) 0 = Xi T1 (276 + cl) 0 from FR_cl w114 rfl (by omega))
                      have w158 : Xi T4 (276 + cl) 3 = Xi T1 (276 + cl) 3 := (show Xi T4 (276 + cl) 3 = Xi T1 (276 + cl) 3 from FR_cl w114 rfl (by omega))
                      have w159 : Xi T4 (276 + cl) 4 = Xi T1 (276 + cl) 4 := (show Xi T4 (276 + cl) 4 = Xi T1 (276 + cl) 4 from FR_cl w114 rfl (by omega))
                      have w160 : Xi T4 (276 + cl) 5 = Xi T1 (276 + cl) 5 := (show Xi T4 (276 + cl) 5 = Xi T1 (276 + cl) 5 from FR_cl w114 rfl (by omega))
                      have w161 : 0 ≤ Xi T4 246 8 ∧ Xi T4 246 8 ≤ 1666 := hHT4.c _ _
                      have w162 : 0 ≤ Xi T4 876 7 ∧ Xi T4 876 7 ≤ 5125 := hHT4.c _ _
                      have w163 : Xi T4 895 4 = Xi T1 895 4 := (show Xi T4 895 4 = Xi T1 895 4 from w114.x _ _ rfl)
                      have w164 : -1 ≤ Xi T1 895 4 ∧ Xi T1 895 4 ≤ 15 := hHT1.c _ _
                      exact Rl_weak (ih59 _ (by omega) T4 hHT4 hFT4 (v4) (v6) ((v6 + 1)) (by omega) (by omega) (by omega) ((kcl_f w114 rfl hc59)) (by omega) (by omega) (by omega) (by omega) (by first | assumption | exact t53) (by omega) (by first | exact k111 | exact hk59 | exact k53) (by first | exact i111 | exact hi59 | exact i53) (by first | exact nb_0 (by omega) (by omega) | exact nb_s hn59 (by omega) (by omega) x75 (by omega)) rfl) (And.intro rfl (And.intro rfl (And.intro rfl (And.intro rfl (And.intro rfl (True.intro))))))
              · refine l_aload_n rfl rfl ?_
                refine l_gfr rfl rfl rfl rfl rfl (hHT4.r 899 0 876 rfl) ?_
                refine l_bipush rfl rfl ?_
                refine l_iload_n rfl rfl ?_
                have w165 : Xi T4 (276 + cl) 0 = Xi T1 (276 + cl) 0 := (show Xi T4 (276 + cl) 0 = Xi T1 (276 + cl) 0 from FR_cl w114 rfl (by omega))
                have w166 : Xi T4 (276 + cl) 3 = Xi T1 (276 + cl) 3 := (show Xi T4 (276 + cl) 3 = Xi T1 (276 + cl) 3 from FR_cl w114 rfl (by omega))
                have w167 : Xi T4 (276 + cl) 4 = Xi T1 (276 + cl) 4 := (show Xi T4 (276 + cl) 4 = Xi T1 (276 + cl) 4 from FR_cl w114 rfl (by omega))
                have w168 : Xi T4 (276 + cl) 5 = Xi T1 (276 + cl) 5 := (show Xi T4 (276 + cl) 5 = Xi T1 (276 + cl) 5 from FR_cl w114 rfl (by omega))
                have w169 : 0 ≤ Xi T4 246 8 ∧ Xi T4 246 8 ≤ 1666 := hHT4.c _ _
                have w170 : 0 ≤ Xi T4 876 7 ∧ Xi T4 876 7 ≤ 5125 := hHT4.c _ _
                have w171 : Xi T4 895 4 = Xi T1 895 4 := (show Xi T4 895 4 = Xi T1 895 4 from w114.x _ _ rfl)
                have w172 : -1 ≤ Xi T1 895 4 ∧ Xi T1 895 4 ≤ 15 := hHT1.c _ _
                refine l_callV rfl rfl rfl (t_to_wrong hHT4 8 row ⟨by omega, by omega⟩ ⟨by omega, by omega⟩ _) ?_
                rintro _ T5 ⟨hHT5, w176, z175, rfl, w175, w173, w174⟩
                have hFT5 : FR md_rr_sayText S T5 := FR.tr hFT4 w176 rfl
                show Rl _ _ _ _ _ [iv z175] _ _
                refine l_ireturn rfl (retI_z (by omega)) ?_
                have w177 : Xi T5 (276 + cl) 0 = Xi T1 (276 + cl) 0 := (show Xi T5 (276 + cl) 0 = Xi T4 (276 + cl) 0 from FR_cl w176 rfl (by omega)).trans ((show Xi T4 (276 + cl) 0 = Xi T1 (276 + cl) 0 from FR_cl w114 rfl (by omega)))
                have w178 : Xi T5 (276 + cl) 3 = Xi T1 (276 + cl) 3 := (show Xi T5 (276 + cl) 3 = Xi T4 (276 + cl) 3 from FR_cl w176 rfl (by omega)).trans ((show Xi T4 (276 + cl) 3 = Xi T1 (276 + cl) 3 from FR_cl w114 rfl (by omega)))
                have w179 : Xi T5 (276 + cl) 4 = Xi T1 (276 + cl) 4 := (show Xi T5 (276 + cl) 4 = Xi T4 (276 + cl) 4 from FR_cl w176 rfl (by omega)).trans ((show Xi T4 (276 + cl) 4 = Xi T1 (276 + cl) 4 from FR_cl w114 rfl (by omega)))
                have w180 : Xi T5 (276 + cl) 5 = Xi T1 (276 + cl) 5 := (show Xi T5 (276 + cl) 5 = Xi T4 (276 + cl) 5 from FR_cl w176 rfl (by omega)).trans ((show Xi T4 (276 + cl) 5 = Xi T1 (276 + cl) 5 from FR_cl w114 rfl (by omega)))
                have w181 : Xi T5 246 8 = Xi T4 246 8 := (show Xi T5 246 8 = Xi T4 246 8 from w176.x _ _ rfl)
                have w182 : 0 ≤ Xi T4 246 8 ∧ Xi T4 246 8 ≤ 1666 := hHT4.c _ _
                have w183 : Xi T5 876 7 = Xi T4 876 7 := (show Xi T5 876 7 = Xi T4 876 7 from w176.x _ _ rfl)
                have w184 : 0 ≤ Xi T4 876 7 ∧ Xi T4 876 7 ≤ 5125 := hHT4.c _ _
                have w185 : 0 ≤ Xi T5 876 8 ∧ Xi T5 876 8 ≤ 9 := hHT5.c _ _
                have w186 : Xi T5 895 4 = Xi T1 895 4 := (show Xi T5 895 4 = Xi T4 895 4 from w176.x _ _ rfl).trans ((show Xi T4 895 4 = Xi T1 895 4 from w114.x _ _ rfl))
                have w187 : -1 ≤ Xi T1 895 4 ∧ Xi T1 895 4 ≤ 15 := hHT1.c _ _
                exact ⟨hHT5, hFT5, _, rfl, ⟨by omega, by omega⟩, ((kcl_f w176 rfl (kcl_f w114 rfl hc59))), (fun q => by first | (exfalso; omega) | exact cl_7 (by omega) (w := Xi S 246 8) (by omega) (v := (Xi S 878 row.toNat + 1)) (by omega) (n := v4 - (Xi S 878 row.toNat + 1)) (by omega) (tx_mk (SRX_FR hFT5 rfl hS) (by omega) (by omega)) (ins_mk hx (hFT5 20 1 rfl).2.2 (fun j => (hFT5.smk (ks := [(902, 904)]) rfl).x ts (tp_kC htp) j) (by rw [show v6 - (Xi S 878 row.toNat + 1) = v4 - (Xi S 878 row.toNat + 1) by omega, show v5 = -1 by omega] at hn59; exact hn59) hi59 rfl)), (fun q => by first | (exfalso; omega) | exact hi59), (fun q => by first | (exfalso; omega) | exact hk59), (fun q => by first | (exfalso; omega) | exact hT59), (by omega), (fun q => by first | omega | (exfalso; omega))⟩
        · refine l_iload rfl rfl ?_
          refine l_iconst rfl ?_
          refine l_icmp_ne rfl rfl (by unfold rg; omega) (by unfold rg; omega) (fun w188 => ?_) (fun w189 => ?_)
          · refine l_aload_n rfl rfl ?_
            refine l_gfr rfl rfl rfl rfl rfl (hHT1.r 899 0 876 rfl) ?_
            refine l_bipush rfl rfl ?_
            refine l_iload_n rfl rfl ?_
            have w190 : 0 ≤ Xi T1 246 8 ∧ Xi T1 246 8 ≤ 1666 := hHT1.c _ _
            have w191 : 0 ≤ Xi T1 876 7 ∧ Xi T1 876 7 ≤ 5125 := hHT1.c _ _
            have w192 : -1 ≤ Xi T1 895 4 ∧ Xi T1 895 4 ≤ 15 := hHT1.c _ _
            refine l_callV rfl rfl rfl (t_to_wrong hHT1 8 row ⟨by omega, by omega⟩ ⟨by omega, by omega⟩ _) ?_
            rintro _ T6 ⟨hHT6, w196, z195, rfl, w195, w193, w194⟩
            have hFT6 : FR md_rr_sayText S T6 := FR.tr hFT1 w196 rfl
            show Rl _ _ _ _ _ [iv z195] _ _
            refine l_ireturn rfl (retI_z (by omega)) ?_
            have w197 : Xi T6 (276 + cl) 0 = Xi T1 (276 + cl) 0 := (show Xi T6 (276 + cl) 0 = Xi T1 (276 + cl) 0 from FR_cl w196 rfl (by omega))
            have w198 : Xi T6 (276 + cl) 3 = Xi T1 (276 + cl) 3 := (show Xi T6 (276 + cl) 3 = Xi T1 (276 + cl) 3 from FR_cl w196 rfl (by omega))
            have w199 : Xi T6 (276 + cl) 4 = Xi T1 (276 + cl) 4 := (show Xi T6 (276 + cl) 4 = Xi T1 (276 + cl) 4 from FR_cl w196 rfl (by omega))
            have w200 : Xi T6 (276 + cl) 5 = Xi T1 (276 + cl) 5 := (show Xi T6 (276 + cl) 5 = Xi T1 (276 + cl) 5 from FR_cl w196 rfl (by omega))
            have w201 : Xi T6 246 8 = Xi T1 246 8 := (show Xi T6 246 8 = Xi T1 246 8 from w196.x _ _ rfl)
            have w202 : 0 ≤ Xi T1 246 8 ∧ Xi T1 246 8 ≤ 1666 := hHT1.c _ _
            have w203 : Xi T6 876 7 = Xi T1 876 7 := (show Xi T6 876 7 = Xi T1 876 7 from w196.x _ _ rfl)
            have w204 : 0 ≤ Xi T1 876 7 ∧ Xi T1 876 7 ≤ 5125 := hHT1.c _ _
            have w205 : 0 ≤ Xi T6 876 8 ∧ Xi T6 876 8 ≤ 9 := hHT6.c _ _
            have w206 : Xi T6 895 4 = Xi T1 895 4 := (show Xi T6 895 4 = Xi T1 895 4 from w196.x _ _ rfl)
            have w207 : -1 ≤ Xi T1 895 4 ∧ Xi T1 895 4 ≤ 15 := hHT1.c _ _
            exact ⟨hHT6, hFT6, _, rfl, ⟨by omega, by omega⟩, ((kcl_f w196 rfl hc59)), (fun q => by first | (exfalso; omega) | exact cl_7 (by omega) (w := Xi S 246 8) (by omega) (v := (Xi S 878 row.toNat + 1)) (by omega) (n := v4 - (Xi S 878 row.toNat + 1)) (by omega) (tx_mk (SRX_FR hFT6 rfl hS) (by omega) (by omega)) (ins_mk hx (hFT6 20 1 rfl).2.2 (fun j => (hFT6.smk (ks := [(902, 904)]) rfl).x ts (tp_kC htp) j) (by rw [show v6 - (Xi S 878 row.toNat + 1) = v4 - (Xi S 878 row.toNat + 1) by omega, show v5 = -1 by omega] at hn59; exact hn59) hi59 rfl)), (fun q => by first | (exfalso; omega) | exact hi59), (fun q => by first | (exfalso; omega) | exact hk59), (fun q => by first | (exfalso; omega) | exact hT59), (by omega), (fun q => by first | omega | (exfalso; omega))⟩
          · refine l_iload rfl rfl ?_
            refine l_bipush rfl rfl ?_
            refine l_icmp_ne rfl rfl (by unfold rg; omega) (by unfold rg; omega) (fun w208 => ?_) (fun w209 => ?_)
            · refine l_iload rfl rfl ?_
              refine l_bipush rfl rfl ?_
              refine l_icmp_eq rfl rfl (by unfold rg; omega) (by unfold rg; omega) (fun w210 => ?_) (fun w211 => ?_)
              · refine l_iload rfl rfl ?_
                refine l_bipush rfl rfl ?_
                refine l_icmp_ne rfl rfl (by unfold rg; omega) (by unfold rg; omega) (fun w212 => ?_) (fun w213 => ?_)
                · refine l_iconst rfl ?_
                  refine l_istore rfl rfl rfl ?_
                  refine l_iinc rfl rfl rfl rfl ?_
                  refine l_goto rfl rfl ?_
                  have w214 : 0 ≤ Xi T1 246 8 ∧ Xi T1 246 8 ≤ 1666 := hHT1.c _ _
                  have w215 : 0 ≤ Xi T1 876 7 ∧ Xi T1 876 7 ≤ 5125 := hHT1.c _ _
                  have w216 : -1 ≤ Xi T1 895 4 ∧ Xi T1 895 4 ≤ 15 := hHT1.c _ _
                  exact Rl_weak (ih59 _ (by omega) T1 hHT1 hFT1 (v4) ((-1)) ((v6 + 1)) (by omega) (by omega) (by omega) (hc59) (by omega) (by omega) (by omega) (by omega) (by first | assumption | exact t53) (by omega) (by first | exact k111 | exact hk59 | exact k53) (by first | exact i111 | exact hi59 | exact i53) (by first | exact nb_0 (by omega) (by omega) | exact nb_s hn59 (by omega) (by omega) x75 (by omega)) rfl) (And.intro rfl (And.intro rfl (And.intro rfl (And.intro rfl (And.intro rfl (True.intro))))))
                · refine l_iload rfl rfl ?_
                  refine l_goto rfl rfl ?_
                  refine l_istore rfl rfl rfl ?_
                  refine l_iinc rfl rfl rfl rfl ?_
                  refine l_goto rfl rfl ?_
                  have w217 : 0 ≤ Xi T1 246 8 ∧ Xi T1 246 8 ≤ 1666 := hHT1.c _ _
                  have w218 : 0 ≤ Xi T1 876 7 ∧ Xi T1 876 7 ≤ 5125 := hHT1.c _ _
                  have w219 : -1 ≤ Xi T1 895 4 ∧ Xi T1 895 4 ≤ 15 := hHT1.c _ _
                  exact Rl_weak (ih59 _ (by omega) T1 hHT1 hFT1 (v4) (v6) ((v6 + 1)) (by omega) (by omega) (by omega) (hc59) (by omega) (by omega) (by omega) (by omega) (by first | assumption | exact t53) (by omega) (by first | exact k111 | exact hk59 | exact k53) (by first | exact i111 | exact hi59 | exact i53) (by first | exact nb_0 (by omega) (by omega) | exact nb_s hn59 (by omega) (by omega) x75 (by omega)) rfl) (And.intro rfl (And.intro rfl (And.intro rfl (And.intro rfl (And.intro rfl (True.intro))))))
              · refine l_iload rfl rfl ?_
                refine l_bipush rfl rfl ?_
                refine l_icmp_ne rfl rfl (by unfold rg; omega) (by unfold rg; omega) (fun w220 => ?_) (fun w221 => ?_)
                · refine l_iinc rfl rfl rfl rfl ?_
                  refine l_goto rfl rfl ?_
                  have w222 : 0 ≤ Xi T1 246 8 ∧ Xi T1 246 8 ≤ 1666 := hHT1.c _ _
                  have w223 : 0 ≤ Xi T1 876 7 ∧ Xi T1 876 7 ≤ 5125 := hHT1.c _ _
                  have w224 : -1 ≤ Xi T1 895 4 ∧ Xi T1 895 4 ≤ 15 := hHT1.c _ _
                  exact Rl_weak (ih59 _ (by omega) T1 hHT1 hFT1 (v4) (v5) ((v6 + 1)) (by omega) (by omega) (by omega) (hc59) (by omega) (by omega) (by omega) (by omega) (by first | assumption | exact t53) (by omega) (by first | exact k111 | exact hk59 | exact k53) (by first | exact i111 | exact hi59 | exact i53) (by first | exact nb_0 (by omega) (by omega) | exact nb_s hn59 (by omega) (by omega) x75 (by omega)) rfl) (And.intro rfl (And.intro rfl (And.intro rfl (And.intro rfl (And.intro rfl (True.intro))))))
                · refine l_iload rfl rfl ?_
                  refine l_bipush rfl rfl ?_
                  refine l_icmp_ne rfl rfl (by unfold rg; omega) (by unfold rg; omega) (fun w225 => ?_) (fun w226 => ?_)
                  · refine l_iconst rfl ?_
                    refine l_istore rfl rfl rfl ?_
                    refine l_iinc rfl rfl rfl rfl ?_
                    refine l_goto rfl rfl ?_
                    have w227 : 0 ≤ Xi T1 246 8 ∧ Xi T1 246 8 ≤ 1666 := hHT1.c _ _
                    have w228 : 0 ≤ Xi T1 876 7 ∧ Xi T1 876 7 ≤ 5125 := hHT1.c _ _
                    have w229 : -1 ≤ Xi T1 895 4 ∧ Xi T1 895 4 ≤ 15 := hHT1.c _ _
                    exact Rl_weak (ih59 _ (by omega) T1 hHT1 hFT1 (v4) ((-1)) ((v6 + 1)) (by omega) (by omega) (by omega) (hc59) (by omega) (by omega) (by omega) (by omega) (by first | assumption | exact t53) (by omega) (by first | exact k111 | exact hk59 | exact k53) (by first | exact i111 | exact hi59 | exact i53) (by first | exact nb_0 (by omega) (by omega) | exact nb_s hn59 (by omega) (by omega) x75 (by omega)) rfl) (And.intro rfl (And.intro rfl (And.intro rfl (And.intro rfl (And.intro rfl (True.intro))))))
                  · refine l_iload rfl rfl ?_
                    refine l_goto rfl rfl ?_
                    refine l_istore rfl rfl rfl ?_
                    refine l_iinc rfl rfl rfl rfl ?_
                    refine l_goto rfl rfl ?_
                    have w230 : 0 ≤ Xi T1 246 8 ∧ Xi T1 246 8 ≤ 1666 := hHT1.c _ _
                    have w231 : 0 ≤ Xi T1 876 7 ∧ Xi T1 876 7 ≤ 5125 := hHT1.c _ _
                    have w232 : -1 ≤ Xi T1 895 4 ∧ Xi T1 895 4 ≤ 15 := hHT1.c _ _
                    exact Rl_weak (ih59 _ (by omega) T1 hHT1 hFT1 (v4) (v6) ((v6 + 1)) (by omega) (by omega) (by omega) (hc59) (by omega) (by omega) (by omega) (by omega) (by first | assumption | exact t53) (by omega) (by first | exact k111 | exact hk59 | exact k53) (by first | exact i111 | exact hi59 | exact i53) (by first | exact nb_0 (by omega) (by omega) | exact nb_s hn59 (by omega) (by omega) x75 (by omega)) rfl) (And.intro rfl (And.intro rfl (And.intro rfl (And.intro rfl (And.intro rfl (True.intro))))))
            · refine l_iload rfl rfl ?_
              refine l_iconst rfl ?_
              refine l_icmp_eq rfl rfl (by unfold rg; omega) (by unfold rg; omega) (fun w233 => ?_) (fun w234 => ?_)
              · refine l_aload_n rfl rfl ?_
                refine l_gfr rfl rfl rfl rfl rfl (hHT1.r 899 0 876 rfl) ?_
                refine l_bipush rfl rfl ?_
                refine l_iload_n rfl rfl ?_
                have w235 : 0 ≤ Xi T1 246 8 ∧ Xi T1 246 8 ≤ 1666 := hHT1.c _ _
                have w236 : 0 ≤ Xi T1 876 7 ∧ Xi T1 876 7 ≤ 5125 := hHT1.c _ _
                have w237 : -1 ≤ Xi T1 895 4 ∧ Xi T1 895 4 ≤ 15 := hHT1.c _ _
                refine l_callV rfl rfl rfl (t_to_wrong hHT1 8 row ⟨by omega, by omega⟩ ⟨by omega, by omega⟩ _) ?_
                rintro _ T7 ⟨hHT7, w241, z240, rfl, w240, w238, w239⟩
                have hFT7 : FR md_rr_sayText S T7 := FR.tr hFT1 w241 rfl
                show Rl _ _ _ _ _ [iv z240] _ _
                refine l_ireturn rfl (retI_z (by omega)) ?_
                have w242 : Xi T7 (276 + cl) 0 = Xi T1 (276 + cl) 0 := (show Xi T7 (276 + cl) 0 = Xi T1 (276 + cl) 0 from FR_cl w241 rfl (by omega))
                have w243 : Xi T7 (276 + cl) 3 = Xi T1 (276 + cl) 3 := (show Xi T7 (276 + cl) 3 = Xi T1 (276 + cl) 3 from FR_cl w241 rfl (by omega))
                have w244 : Xi T7 (276 + cl) 4 = Xi T1 (276 + cl) 4 := (show Xi T7 (276 + cl) 4 = Xi T1 (276 + cl) 4 from FR_cl w241 rfl (by omega))
                have w245 : Xi T7 (276 + cl) 5 = Xi T1 (276 + cl) 5 := (show Xi T7 (276 + cl) 5 = Xi T1 (276 + cl) 5 from FR_cl w241 rfl (by omega))
                have w246 : Xi T7 246 8 = Xi T1 246 8 := (show Xi T7 246 8 = Xi T1 246 8 from w241.x _ _ rfl)
                have w247 : 0 ≤ Xi T1 246 8 ∧ Xi T1 246 8 ≤ 1666 := hHT1.c _ _
                have w248 : Xi T7 876 7 = Xi T1 876 7 := (show Xi T7 876 7 = Xi T1 876 7 from w241.x _ _ rfl)
                have w249 : 0 ≤ Xi T1 876 7 ∧ Xi T1 876 7 ≤ 5125 := hHT1.c _ _
                have w250 : 0 ≤ Xi T7 876 8 ∧ Xi T7 876 8 ≤ 9 := hHT7.c _ _
                have w251 : Xi T7 895 4 = Xi T1 895 4 := (show Xi T7 895 4 = Xi T1 895 4 from w241.x _ _ rfl)
                have w252 : -1 ≤ Xi T1 895 4 ∧ Xi T1 895 4 ≤ 15 := hHT1.c _ _
                exact ⟨hHT7, hFT7, _, rfl, ⟨by omega, by omega⟩, ((kcl_f w241 rfl hc59)), (fun q => by first | (exfalso; omega) | exact cl_7 (by omega) (w := Xi S 246 8) (by omega) (v := (Xi S 878 row.toNat + 1)) (by omega) (n := v4 - (Xi S 878 row.toNat + 1)) (by omega) (tx_mk (SRX_FR hFT7 rfl hS) (by omega) (by omega)) (ins_mk hx (hFT7 20 1 rfl).2.2 (fun j => (hFT7.smk (ks := [(902, 904)]) rfl).x ts (tp_kC htp) j) (by rw [show v6 - (Xi S 878 row.toNat + 1) = v4 - (Xi S 878 row.toNat + 1) by omega, show v5 = -1 by omega] at hn59; exact hn59) hi59 rfl)), (fun q => by first | (exfalso; omega) | exact hi59), (fun q => by first | (exfalso; omega) | exact hk59), (fun q => by first | (exfalso; omega) | exact hT59), (by omega), (fun q => by first | omega | (exfalso; omega))⟩
              · refine l_aload_n rfl rfl ?_
                refine l_iload rfl rfl ?_
                refine l_iconst rfl ?_
                refine l_iadd rfl ?_
                refine l_iload rfl rfl ?_
                have w253 : 0 ≤ Xi T1 246 8 ∧ Xi T1 246 8 ≤ 1666 := hHT1.c _ _
                have w254 : 0 ≤ Xi T1 876 6 ∧ Xi T1 876 6 ≤ 5002 := hHT1.c _ _
                have w255 : 0 ≤ Xi T1 876 7 ∧ Xi T1 876 7 ≤ 5125 := hHT1.c _ _
                have w256 : -1 ≤ Xi T1 895 4 ∧ Xi T1 895 4 ≤ 15 := hHT1.c _ _
                refine l_callV rfl rfl rfl (t_rr_insert hHT1 ts (v5 + 1) v6 ⟨by omega, by omega⟩ ⟨by omega, by omega⟩ ((hFT1 876 4 rfl).2.2.trans hts) htp (by first | assumption | exact (LEX_FR hFT1 rfl rfl (by assumption : LEX S))) (by assumption) (by first | assumption | omega) (by first | assumption | omega) _) ?_
                rintro _ T8 ⟨hHT8, w263, z262, rfl, w262, w257, w258, w259, w260, w261⟩
                have hFT8 : FR md_rr_sayText S T8 := FR.tr hFT1 w263 rfl
                show Rl _ _ _ _ _ [iv z262] _ _
                have i111 : IGR S T8 (0 ≤ Xi S 895 4) := IGR.tr hi59 (by assumption : IGR T1 T8 (0 ≤ Xi T1 895 4)) (fun x => by omega)
                have k111 : KTK S T8 (Xi S 876 6) := ktk_tr hk59 (by assumption : KTK T1 T8 (Xi T1 876 6)) (by omega)
                refine l_if_ne rfl rfl (by unfold rg; omega) (fun w264 => ?_) (fun w265 => ?_)
                · refine l_iload rfl rfl ?_
                  refine l_bipush rfl rfl ?_
                  refine l_icmp_eq rfl rfl (by unfold rg; omega) (by unfold rg; omega) (fun w266 => ?_) (fun w267 => ?_)
                  · refine l_iload rfl rfl ?_
                    refine l_bipush rfl rfl ?_
                    refine l_icmp_ne rfl rfl (by unfold rg; omega) (by unfold rg; omega) (fun w268 => ?_) (fun w269 => ?_)
                    · refine l_iconst rfl ?_
                      refine l_istore rfl rfl rfl ?_
                      refine l_iinc rfl rfl rfl rfl ?_
                      refine l_goto rfl rfl ?_
                      have w270 : Xi T8 (276 + cl) 0 = Xi T1 (276 + cl) 0 := (show Xi T8 (276 + cl) 0 = Xi T1 (276 + cl) 0 from FR_cl w263 rfl (by omega))
                      have w271 : Xi T8 (276 + cl) 3 = Xi T1 (276 + cl) 3 := (show Xi T8 (276 + cl) 3 = Xi T1 (276 + cl) 3 from FR_cl w263 rfl (by omega))
                      have w272 : Xi T8 (276 + cl) 4 = Xi T1 (276 + cl) 4 := (show Xi T8 (276 + cl) 4 = Xi T1 (276 + cl) 4 from FR_cl w263 rfl (by omega))
                      have w273 : Xi T8 (276 + cl) 5 = Xi T1 (276 + cl) 5 := (show Xi T8 (276 + cl) 5 = Xi T1 (276 + cl) 5 from FR_cl w263 rfl (by omega))
                      have w274 : 0 ≤ Xi T8 246 8 ∧ Xi T8 246 8 ≤ 1666 := hHT8.c _ _
                      have w275 : 0 ≤ Xi T8 876 7 ∧ Xi T8 876 7 ≤ 5125 := hHT8.c _ _
                      have w276 : Xi T8 895 4 = Xi T1 895 4 := (show Xi T8 895 4 = Xi T1 895 4 from w263.x _ _ rfl)
                      have w277 : -1 ≤ Xi T1 895 4 ∧ Xi T1 895 4 ≤ 15 := hHT1.c _ _
                      exact Rl_weak (ih59 _ (by omega) T8 hHT8 hFT8 (v4) ((-1)) ((v6 + 1)) (by omega) (by omega) (by omega) ((kcl_f w263 rfl hc59)) (by omega) (by omega) (by omega) (by omega) (by first | assumption | exact t53) (by omega) (by first | exact k111 | exact hk59 | exact k53) (by first | exact i111 | exact hi59 | exact i53) (by first | exact nb_0 (by omega) (by omega) | exact nb_s hn59 (by omega) (by omega) x75 (by omega)) rfl) (And.intro rfl (And.intro rfl (And.intro rfl (And.intro rfl (And.intro rfl (True.intro))))))
                    · refine l_iload rfl rfl ?_
                      refine l_goto rfl rfl ?_
                      refine l_istore rfl rfl rfl ?_
                      refine l_iinc rfl rfl rfl rfl ?_
                      refine l_goto rfl rfl ?_
                      have w278 : Xi T8 (276 + cl) 0 = Xi T1 (276 + cl) 0 := (show Xi T8 (276 + cl) 0 = Xi T1 (276 + cl) 0 from FR_cl w263 rfl (by omega))
                      have w279 : Xi T8 (276 + cl) 3 = Xi T1 (276 + cl) 3 := (show Xi T8 (276 + cl) 3 = Xi T1 (276 + cl) 3 from FR_cl w263 rfl (by omega))
                      have w280 : Xi T8 (276 + cl) 4 = Xi T1 (276 + cl) 4 := (show Xi T8 (276 + cl) 4 = Xi T1 (276 + cl) 4 from FR_cl w263 rfl (by omega))
                      have w281 : Xi T8 (276 + cl) 5 = Xi T1 (276 + cl) 5 := (show Xi T8 (276 + cl) 5 = Xi T1 (276 + cl) 5 from FR_cl w263 rfl (by omega))
                      have w282 : 0 ≤ Xi T8 246 8 ∧ Xi T8 246 8 ≤ 1666 := hHT8.c _ _
                      have w283 : 0 ≤ Xi T8 876 7 ∧ Xi T8 876 7 ≤ 5125 := hHT8.c _ _
                      have w284 : Xi T8 895 4 = Xi T1 895 4 := (show Xi T8 895 4 = Xi T1 895 4 from w263.x _ _ rfl)
                      have w285 : -1 ≤ Xi T1 895 4 ∧ Xi T1 895 4 ≤ 15 := hHT1.c _ _
                      exact Rl_weak (ih59 _ (by omega) T8 hHT8 hFT8 (v4) (v6) ((v6 + 1)) (by omega) (by omega) (by omega) ((kcl_f w263 rfl hc59)) (by omega) (by omega) (by omega) (by omega) (by first | assumption | exact t53) (by omega) (by first | exact k111 | exact hk59 | exact k53) (by first | exact i111 | exact hi59 | exact i53) (by first | exact nb_0 (by omega) (by omega) | exact nb_s hn59 (by omega) (by omega) x75 (by omega)) rfl) (And.intro rfl (And.intro rfl (And.intro rfl (And.intro rfl (And.intro rfl (True.intro))))))
                  · refine l_iload rfl rfl ?_
                    refine l_bipush rfl rfl ?_
                    refine l_icmp_ne rfl rfl (by unfold rg; omega) (by unfold rg; omega) (fun w286 => ?_) (fun w287 => ?_)
                    · refine l_iinc rfl rfl rfl rfl ?_
                      refine l_goto rfl rfl ?_
                      have w288 : Xi T8 (276 + cl) 0 = Xi T1 (276 + cl) 0 := (show Xi T8 (276 + cl) 0 = Xi T1 (276 + cl) 0 from FR_cl w263 rfl (by omega))
                      have w289 : Xi T8 (276 + cl) 3 = Xi T1 (276 + cl) 3 := (show Xi T8 (276 + cl) 3 = Xi T1 (276 + cl) 3 from FR_cl w263 rfl (by omega))
                      have w290 : Xi T8 (276 + cl) 4 = Xi T1 (276 + cl) 4 := (show Xi T8 (276 + cl) 4 = Xi T1 (276 + cl) 4 from FR_cl w263 rfl (by omega))
                      have w291 : Xi T8 (276 + cl) 5 = Xi T1 (276 + cl) 5 := (show Xi T8 (276 + cl) 5 = Xi T1 (276 + cl) 5 from FR_cl w263 rfl (by omega))
                      have w292 : 0 ≤ Xi T8 246 8 ∧ Xi T8 246 8 ≤ 1666 := hHT8.c _ _
                      have w293 : 0 ≤ Xi T8 876 7 ∧ Xi T8 876 7 ≤ 5125 := hHT8.c _ _
                      have w294 : Xi T8 895 4 = Xi T1 895 4 := (show Xi T8 895 4 = Xi T1 895 4 from w263.x _ _ rfl)
                      have w295 : -1 ≤ Xi T1 895 4 ∧ Xi T1 895 4 ≤ 15 := hHT1.c _ _
                      exact Rl_weak (ih59 _ (by omega) T8 hHT8 hFT8 (v4) (v5) ((v6 + 1)) (by omega) (by omega) (by omega) ((kcl_f w263 rfl hc59)) (by omega) (by omega) (by omega) (by omega) (by first | assumption | exact t53) (by omega) (by first | exact k111 | exact hk59 | exact k53) (by first | exact i111 | exact hi59 | exact i53) (by first | exact nb_0 (by omega) (by omega) | exact nb_s hn59 (by omega) (by omega) x75 (by omega)) rfl) (And.intro rfl (And.intro rfl (And.intro rfl (And.intro rfl (And.intro rfl (True.intro))))))
                    · refine l_iload rfl rfl ?_
                      refine l_bipush rfl rfl ?_
                      refine l_icmp_ne rfl rfl (by unfold rg; omega) (by unfold rg; omega) (fun w296 => ?_) (fun w297 => ?_)
                      · refine l_iconst rfl ?_
                        refine l_istore rfl rfl rfl ?_
                        refine l_iinc rfl rfl rfl rfl ?_
                        refine l_goto rfl rfl ?_
                        have w298 : Xi T8 (276 + cl) 0 = Xi T1 (276 + cl) 0 := (show Xi T8 (276 + cl) 0 = Xi T1 (276 + cl) 0 from FR_cl w263 rfl (by omega))
                        have w299 : Xi T8 (276 + cl) 3 = Xi T1 (276 + cl) 3 := (show Xi T8 (276 + cl) 3 = Xi T1 (276 + cl) 3 from FR_cl w263 rfl (by omega))
                        have w300 : Xi T8 (276 + cl) 4 = Xi T1 (276 + cl) 4 := (show Xi T8 (276 + cl) 4 = Xi T1 (276 + cl) 4 from FR_cl w263 rfl (by omega))
                        have w301 : Xi T8 (276 + cl) 5 = Xi T1 (276 + cl) 5 := (show Xi T8 (276 + cl) 5 = Xi T1 (276 + cl) 5 from FR_cl w263 rfl (by omega))
                        have w302 : 0 ≤ Xi T8 246 8 ∧ Xi T8 246 8 ≤ 1666 := hHT8.c _ _
                        have w303 : 0 ≤ Xi T8 876 7 ∧ Xi T8 876 7 ≤ 5125 := hHT8.c _ _
                        have w304 : Xi T8 895 4 = Xi T1 895 4 := (show Xi T8 895 4 = Xi T1 895 4 from w263.x _ _ rfl)
                        have w305 : -1 ≤ Xi T1 895 4 ∧ Xi T1 895 4 ≤ 15 := hHT1.c _ _
                        exact Rl_weak (ih59 _ (by omega) T8 hHT8 hFT8 (v4) ((-1)) ((v6 + 1)) (by omega) (by omega) (by omega) ((kcl_f w263 rfl hc59)) (by omega) (by omega) (by omega) (by omega) (by first | assumption | exact t53) (by omega) (by first | exact k111 | exact hk59 | exact k53) (by first | exact i111 | exact hi59 | exact i53) (by first | exact nb_0 (by omega) (by omega) | exact nb_s hn59 (by omega) (by omega) x75 (by omega)) rfl) (And.intro rfl (And.intro rfl (And.intro rfl (And.intro rfl (And.intro rfl (True.intro))))))
                      · refine l_iload rfl rfl ?_
                        refine l_goto rfl rfl ?_
                        refine l_istore rfl rfl rfl ?_
                        refine l_iinc rfl rfl rfl rfl ?_
                        refine l_goto rfl rfl ?_
                        have w306 : Xi T8 (276 + cl) 0 = Xi T1 (276 + cl) 0 := (show Xi T8 (276 + cl) 0 = Xi T1 (276 + cl) 0 from FR_cl w263 rfl (by omega))
                        have w307 : Xi T8 (276 + cl) 3 = Xi T1 (276 + cl) 3 := (show Xi T8 (276 + cl) 3 = Xi T1 (276 + cl) 3 from FR_cl w263 rfl (by omega))
                        have w308 : Xi T8 (276 + cl) 4 = Xi T1 (276 + cl) 4 := (show Xi T8 (276 + cl) 4 = Xi T1 (276 + cl) 4 from FR_cl w263 rfl (by omega))
                        have w309 : Xi T8 (276 + cl) 5 = Xi T1 (276 + cl) 5 := (show Xi T8 (276 + cl) 5 = Xi T1 (276 + cl) 5 from FR_cl w263 rfl (by omega))
                        have w310 : 0 ≤ Xi T8 246 8 ∧ Xi T8 246 8 ≤ 1666 := hHT8.c _ _
                        have w311 : 0 ≤ Xi T8 876 7 ∧ Xi T8 876 7 ≤ 5125 := hHT8.c _ _
                        have w312 : Xi T8 895 4 = Xi T1 895 4 := (show Xi T8 895 4 = Xi T1 895 4 from w263.x _ _ rfl)
                        have w313 : -1 ≤ Xi T1 895 4 ∧ Xi T1 895 4 ≤ 15 := hHT1.c _ _
                        exact Rl_weak (ih59 _ (by omega) T8 hHT8 hFT8 (v4) (v6) ((v6 + 1)) (by omega) (by omega) (by omega) ((kcl_f w263 rfl hc59)) (by omega) (by omega) (by omega) (by omega) (by first | assumption | exact t53) (by omega) (by first | exact k111 | exact hk59 | exact k53) (by first | exact i111 | exact hi59 | exact i53) (by first | exact nb_0 (by omega) (by omega) | exact nb_s hn59 (by omega) (by omega) x75 (by omega)) rfl) (And.intro rfl (And.intro rfl (And.intro rfl (And.intro rfl (And.intro rfl (True.intro))))))
                · refine l_aload_n rfl rfl ?_
                  refine l_gfr rfl rfl rfl rfl rfl (hHT8.r 899 0 876 rfl) ?_
                  refine l_bipush rfl rfl ?_
                  refine l_iload_n rfl rfl ?_
                  have w314 : Xi T8 (276 + cl) 0 = Xi T1 (276 + cl) 0 := (show Xi T8 (276 + cl) 0 = Xi T1 (276 + cl) 0 from FR_cl w263 rfl (by omega))
                  have w315 : Xi T8 (276 + cl) 3 = Xi T1 (276 + cl) 3 := (show Xi T8 (276 + cl) 3 = Xi T1 (276 + cl) 3 from FR_cl w263 rfl (by omega))
                  have w316 : Xi T8 (276 + cl) 4 = Xi T1 (276 + cl) 4 := (show Xi T8 (276 + cl) 4 = Xi T1 (276 + cl) 4 from FR_cl w263 rfl (by omega))
                  have w317 : Xi T8 (276 + cl) 5 = Xi T1 (276 + cl) 5 := (show Xi T8 (276 + cl) 5 = Xi T1 (276 + cl) 5 from FR_cl w263 rfl (by omega))
                  have w318 : 0 ≤ Xi T8 246 8 ∧ Xi T8 246 8 ≤ 1666 := hHT8.c _ _
                  have w319 : 0 ≤ Xi T8 876 7 ∧ Xi T8 876 7 ≤ 5125 := hHT8.c _ _
                  have w320 : Xi T8 895 4 = Xi T1 895 4 := (show Xi T8 895 4 = Xi T1 895 4 from w263.x _ _ rfl)
                  have w321 : -1 ≤ Xi T1 895 4 ∧ Xi T1 895 4 ≤ 15 := hHT1.c _ _
                  refine l_callV rfl rfl rfl (t_to_wrong hHT8 8 row ⟨by omega, by omega⟩ ⟨by omega, by omega⟩ _) ?_
                  rintro _ T9 ⟨hHT9, w325, z324, rfl, w324, w322, w323⟩
                  have hFT9 : FR md_rr_sayText S T9 := FR.tr hFT8 w325 rfl
                  show Rl _ _ _ _ _ [iv z324] _ _
                  refine l_ireturn rfl (retI_z (by omega)) ?_
                  have w326 : Xi T9 (276 + cl) 0 = Xi T1 (276 + cl) 0 := (show Xi T9 (276 + cl) 0 = Xi T8 (276 + cl) 0 from FR_cl w325 rfl (by omega)).trans ((show Xi T8 (276 + cl) 0 = Xi T1 (276 + cl) 0 from FR_cl w263 rfl (by omega)))
                  have w327 : Xi T9 (276 + cl) 3 = Xi T1 (276 + cl) 3 := (show Xi T9 (276 + cl) 3 = Xi T8 (276 + cl) 3 from FR_cl w325 rfl (by omega)).trans ((show Xi T8 (276 + cl) 3 = Xi T1 (276 + cl) 3 from FR_cl w263 rfl (by omega)))
                  have w328 : Xi T9 (276 + cl) 4 = Xi T1 (276 + cl) 4 := (show Xi T9 (276 + cl) 4 = Xi T8 (276 + cl) 4 from FR_cl w325 rfl (by omega)).trans ((show Xi T8 (276 + cl) 4 = Xi T1 (276 + cl) 4 from FR_cl w263 rfl (by omega)))
                  have w329 : Xi T9 (276 + cl) 5 = Xi T1 (276 + cl) 5 := (show Xi T9 (276 + cl) 5 = Xi T8 (276 + cl) 5 from FR_cl w325 rfl (by omega)).trans ((show Xi T8 (276 + cl) 5 = Xi T1 (276 + cl) 5 from FR_cl w263 rfl (by omega)))
                  have w330 : Xi T9 246 8 = Xi T8 246 8 := (show Xi T9 246 8 = Xi T8 246 8 from w325.x _ _ rfl)
                  have w331 : 0 ≤ Xi T8 246 8 ∧ Xi T8 246 8 ≤ 1666 := hHT8.c _ _
                  have w332 : Xi T9 876 7 = Xi T8 876 7 := (show Xi T9 876 7 = Xi T8 876 7 from w325.x _ _ rfl)
                  have w333 : 0 ≤ Xi T8 876 7 ∧ Xi T8 876 7 ≤ 5125 := hHT8.c _ _
                  have w334 : 0 ≤ Xi T9 876 8 ∧ Xi T9 876 8 ≤ 9 := hHT9.c _ _
                  have w335 : Xi T9 895 4 = Xi T1 895 4 := (show Xi T9 895 4 = Xi T8 895 4 from w325.x _ _ rfl).trans ((show Xi T8 895 4 = Xi T1 895 4 from w263.x _ _ rfl))
                  have w336 : -1 ≤ Xi T1 895 4 ∧ Xi T1 895 4 ≤ 15 := hHT1.c _ _
                  exact ⟨hHT9, hFT9, _, rfl, ⟨by omega, by omega⟩, ((kcl_f w325 rfl (kcl_f w263 rfl hc59))), (fun q => by first | (exfalso; omega) | exact cl_7 (by omega) (w := Xi S 246 8) (by omega) (v := (Xi S 878 row.toNat + 1)) (by omega) (n := v4 - (Xi S 878 row.toNat + 1)) (by omega) (tx_mk (SRX_FR hFT9 rfl hS) (by omega) (by omega)) (ins_mk hx (hFT9 20 1 rfl).2.2 (fun j => (hFT9.smk (ks := [(902, 904)]) rfl).x ts (tp_kC htp) j) (by rw [show v6 - (Xi S 878 row.toNat + 1) = v4 - (Xi S 878 row.toNat + 1) by omega, show v5 = -1 by omega] at hn59; exact hn59) hi59 rfl)), (fun q => by first | (exfalso; omega) | exact hi59), (fun q => by first | (exfalso; omega) | exact hk59), (fun q => by first | (exfalso; omega) | exact hT59), (by omega), (fun q => by first | omega | (exfalso; omega))⟩
  refine l_aload_n rfl rfl ?_
  refine l_gfr rfl rfl rfl rfl rfl (hH.r 899 0 876 rfl) ?_
  refine l_iload_n rfl rfl ?_
  have w337 : 0 ≤ Xi S 246 8 ∧ Xi S 246 8 ≤ 1666 := hH.c _ _
  have w338 : 0 ≤ Xi S 876 7 ∧ Xi S 876 7 ≤ 5125 := hH.c _ _
  have w339 : -1 ≤ Xi S 895 4 ∧ Xi S 895 4 ≤ 15 := hH.c _ _
  refine l_callV rfl rfl rfl (t_to_placeAt hH row ⟨by omega, by omega⟩ _) ?_
  rintro _ _ ⟨rfl, z341, rfl, w341, w340⟩
  show Rl _ _ _ _ _ [iv z341] _ _
  refine l_iconst rfl ?_
  refine l_iadd rfl ?_
  refine l_istore_n rfl rfl rfl ?_
  refine l_iload_n rfl rfl ?_
  refine l_aload_n rfl rfl ?_
  refine l_gfr rfl rfl rfl rfl rfl (hH.r 899 0 876 rfl) ?_
  refine l_iload_n rfl rfl ?_
  have w342 : 0 ≤ Xi S 246 8 ∧ Xi S 246 8 ≤ 1666 := hH.c _ _
  have w343 : 0 ≤ Xi S 876 7 ∧ Xi S 876 7 ≤ 5125 := hH.c _ _
  have w344 : -1 ≤ Xi S 895 4 ∧ Xi S 895 4 ≤ 15 := hH.c _ _
  refine l_callV rfl rfl rfl (t_to_valueAt hH row ⟨by omega, by omega⟩ _) ?_
  rintro _ _ ⟨rfl, z346, rfl, w346, w345⟩
  show Rl _ _ _ _ _ [iv z346, iv (z341 + 1)] _ _
  refine l_iadd rfl ?_
  refine l_istore rfl rfl rfl ?_
  refine l_iconst rfl ?_
  refine l_istore rfl rfl rfl ?_
  refine l_aload_n rfl rfl ?_
  refine l_bipush rfl rfl ?_
  refine l_pfi rfl rfl (layClW (by omega) rfl) rfl ?_
  obtain ⟨U10, eU10⟩ : ∃ T : sS, T = uI S (276 + cl) 0 (Int32.ofInt 7) := ⟨_, rfl⟩
  rw [← eU10]
  have hHU10 : HI U10 := by rw [eU10]; exact HI_w hH (by rw [lh_cl0 (by omega)]; omega) (by rw [lh_cl0 (by omega)]; omega)
  have hFU10 : FR md_rr_sayText S U10 := by rw [eU10]; exact FR.wI hF (mdf_i (r := (276, 876, 0, 1)) (List.mem_of_getElem? (i := 3) rfl) (inR_i (by omega) (by omega) (by omega) (by omega)))
  have w347 : Xi U10 (276 + cl) 0 = 7 := by rw [eU10]; exact Xi_same (by unfold rg; omega)
  have t29 : TOK U10 := tok_cl eU10 (by omega) hT
  have i29 : IGR S U10 (0 ≤ Xi S 895 4) := igr_cl eU10 (IGR.rf hH)
  have k29 : KTK S U10 (Xi S 876 6) := fun r hr => by rw [eU10, Xi_ne (by omega)]
  refine l_aload_n rfl rfl ?_
  refine l_aload_n rfl rfl ?_
  refine l_gfr rfl rfl rfl rfl rfl (hHU10.r 899 3 246 rfl) ?_
  refine l_gfi rfl rfl rfl rfl rfl ?_
  have w348 : (Xi U10 246 8) = (Xi S 246 8) := (show Xi U10 246 8 = Xi S 246 8 from by rw [eU10]; exact Xi_ne (by omega))
  rw [w348]
  refine l_pfi rfl rfl (layClW (by omega) rfl) rfl ?_
  obtain ⟨U11, eU11⟩ : ∃ T : sS, T = uI U10 (276 + cl) 3 (Int32.ofInt (Xi S 246 8)) := ⟨_, rfl⟩
  rw [← eU11]
  have hHU11 : HI U11 := by rw [eU11]; exact HI_w hHU10 (by rw [lh_cl3 (by omega)]; omega) (by rw [lh_cl3 (by omega)]; omega)
  have hFU11 : FR md_rr_sayText S U11 := by rw [eU11]; exact FR.wI hFU10 (mdf_i (r := (276, 876, 3, 4)) (List.mem_of_getElem? (i := 4) rfl) (inR_i (by omega) (by omega) (by omega) (by omega)))
  have w349 : Xi U11 (276 + cl) 3 = (Xi S 246 8) := by rw [eU11]; exact Xi_same (by unfold rg; omega)
  have t40 : TOK U11 := tok_cl eU11 (by omega) t29
  have i40 : IGR S U11 (0 ≤ Xi S 895 4) := igr_cl eU11 i29
  have k40 : KTK S U11 (Xi S 876 6) := fun r hr => by rw [eU11, Xi_ne (by omega)]; exact k29 r hr
  refine l_aload_n rfl rfl ?_
  refine l_iload_n rfl rfl ?_
  refine l_pfi rfl rfl (layClW (by omega) rfl) rfl ?_
  obtain ⟨U12, eU12⟩ : ∃ T : sS, T = uI U11 (276 + cl) 4 (Int32.ofInt (z341 + 1)) := ⟨_, rfl⟩
  rw [← eU12]
  have hHU12 : HI U12 := by rw [eU12]; exact HI_any hHU11 (lh_cl4 (by omega))
  have hFU12 : FR md_rr_sayText S U12 := by rw [eU12]; exact FR.wI hFU11 (mdf_i (r := (276, 876, 4, 5)) (List.mem_of_getElem? (i := 5) rfl) (inR_i (by omega) (by omega) (by omega) (by omega)))
  have w350 : Xi U12 (276 + cl) 4 = (z341 + 1) := by rw [eU12]; exact Xi_same (by unfold rg; omega)
  have t45 : TOK U12 := tok_cl eU12 (by omega) t40
  have i45 : IGR S U12 (0 ≤ Xi S 895 4) := igr_cl eU12 i40
  have k45 : KTK S U12 (Xi S 876 6) := fun r hr => by rw [eU12, Xi_ne (by omega)]; exact k40 r hr
  refine l_aload_n rfl rfl ?_
  refine l_iload rfl rfl ?_
  refine l_iload_n rfl rfl ?_
  refine l_isub rfl ?_
  refine l_pfi rfl rfl (layClW (by omega) rfl) rfl ?_
  obtain ⟨U13, eU13⟩ : ∃ T : sS, T = uI U12 (276 + cl) 5 (Int32.ofInt (((z341 + 1) + z346) - (z341 + 1))) := ⟨_, rfl⟩
  rw [← eU13]
  have hHU13 : HI U13 := by rw [eU13]; exact HI_any hHU12 (lh_cl5 (by omega))
  have hFU13 : FR md_rr_sayText S U13 := by rw [eU13]; exact FR.wI hFU12 (mdf_i (r := (276, 876, 5, 6)) (List.mem_of_getElem? (i := 6) rfl) (inR_i (by omega) (by omega) (by omega) (by omega)))
  have w351 : Xi U13 (276 + cl) 5 = (((z341 + 1) + z346) - (z341 + 1)) := by rw [eU13]; exact Xi_same (by unfold rg; omega)
  have t53 : TOK U13 := tok_cl eU13 (by omega) t45
  have i53 : IGR S U13 (0 ≤ Xi S 895 4) := igr_cl eU13 i45
  have k53 : KTK S U13 (Xi S 876 6) := fun r hr => by rw [eU13, Xi_ne (by omega)]; exact k45 r hr
  refine l_iload_n rfl rfl ?_
  refine l_istore rfl rfl rfl ?_
  have w352 : Xi U13 (276 + cl) 0 = Xi U10 (276 + cl) 0 := (show Xi U13 (276 + cl) 0 = Xi U12 (276 + cl) 0 from by rw [eU13]; exact Xi_ne (by omega)).trans ( (show Xi U12 (276 + cl) 0 = Xi U11 (276 + cl) 0 from by rw [eU12]; exact Xi_ne (by omega)).trans ((show Xi U11 (276 + cl) 0 = Xi U10 (276 + cl) 0 from by rw [eU11]; exact Xi_ne (by omega))))
  have w353 : Xi U13 (276 + cl) 3 = Xi U11 (276 + cl) 3 := (show Xi U13 (276 + cl) 3 = Xi U12 (276 + cl) 3 from by rw [eU13]; exact Xi_ne (by omega)).trans ((show Xi U12 (276 + cl) 3 = Xi U11 (276 + cl) 3 from by rw [eU12]; exact Xi_ne (by omega)))
  have w354 : Xi U13 (276 + cl) 4 = Xi U12 (276 + cl) 4 := (show Xi U13 (276 + cl) 4 = Xi U12 (276 + cl) 4 from by rw [eU13]; exact Xi_ne (by omega))
  have w355 : Xi U13 246 8 = Xi S 246 8 := (show Xi U13 246 8 = Xi U12 246 8 from by rw [eU13]; exact Xi_ne (by omega)).trans ( (show Xi U12 246 8 = Xi U11 246 8 from by rw [eU12]; exact Xi_ne (by omega)).trans ( (show Xi U11 246 8 = Xi U10 246 8 from by rw [eU11]; exact Xi_ne (by omega)).trans ((show Xi U10 246 8 = Xi S 246 8 from by rw [eU10]; exact Xi_ne (by omega)))))
  have w356 : 0 ≤ Xi S 246 8 ∧ Xi S 246 8 ≤ 1666 := hH.c _ _
  have w357 : Xi U13 876 7 = Xi S 876 7 := (show Xi U13 876 7 = Xi U12 876 7 from by rw [eU13]; exact Xi_ne (by omega)).trans ( (show Xi U12 876 7 = Xi U11 876 7 from by rw [eU12]; exact Xi_ne (by omega)).trans ( (show Xi U11 876 7 = Xi U10 876 7 from by rw [eU11]; exact Xi_ne (by omega)).trans ((show Xi U10 876 7 = Xi S 876 7 from by rw [eU10]; exact Xi_ne (by omega)))))
  have w358 : 0 ≤ Xi S 876 7 ∧ Xi S 876 7 ≤ 5125 := hH.c _ _
  have w359 : Xi U13 895 4 = Xi S 895 4 := (show Xi U13 895 4 = Xi U12 895 4 from by rw [eU13]; exact Xi_ne (by omega)).trans ( (show Xi U12 895 4 = Xi U11 895 4 from by rw [eU12]; exact Xi_ne (by omega)).trans ( (show Xi U11 895 4 = Xi U10 895 4 from by rw [eU11]; exact Xi_ne (by omega)).trans ((show Xi U10 895 4 = Xi S 895 4 from by rw [eU10]; exact Xi_ne (by omega)))))
  have w360 : -1 ≤ Xi S 895 4 ∧ Xi S 895 4 ≤ 15 := hH.c _ _
  exact Rl_weak (C59 _ U13 hHU13 hFU13 (((z341 + 1) + z346)) ((-1)) ((z341 + 1)) (by omega) (by omega) (by omega) ((kcl_w eU13 (kcl_w eU12 (kcl_w eU11 (kcl_w eU10 KCL.rf))))) (by omega) (by omega) (by omega) (by omega) (by first | assumption | exact t53) (by omega) (by first | exact k111 | exact hk59 | exact k53) (by first | exact i111 | exact hi59 | exact i53) (by first | exact nb_0 (by omega) (by omega) | exact nb_s hn59 (by omega) (by omega) x75 (by omega)) rfl) (And.intro rfl (And.intro rfl (And.intro rfl (And.intro rfl (And.intro rfl (True.intro))))))

