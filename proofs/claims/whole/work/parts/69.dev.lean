/-! SAFETY of methods: printed by wip/safe (vc.py, decl.py) -/
def md_rr_sayText : List rec := [(246, 247, 8, 9), (274, 275, 0, 100000), (275, 276, 0, 100000), (276, 876, 0, 1), (276, 876, 3, 4), (276, 876, 4, 5), (276, 876, 5, 6), (876, 877, 7, 8), (876, 877, 8, 9), (876, 877, 9, 10), (877, 878, 0, 100000), (878, 879, 0, 100000), (879, 880, 0, 100000), (895, 896, 5, 6), (895, 896, 6, 7), (895, 896, 7, 8)]
abbrev Q_rr_sayText (S : sS) (ts : Nat) (row : Int) (cl : Nat) : pst := fun r S1 => HI S1 ∧ FR md_rr_sayText S S1 ∧ (∃ z : Int, r = some (iv z) ∧ (0 ≤ z ∧ z ≤ 1) ∧ (KCL S S1 cl) ∧ (z = 1 → CLok S1 (0 ≤ Xi S 895 4) cl) ∧ (z = 1 → IGR S S1 (0 ≤ Xi S 895 4)) ∧ (z = 1 → KTK S S1 (Xi S 876 6)) ∧ (z = 1 → TOK S1) ∧ (z = 1 → Xi S 876 6 ≤ Xi S1 876 7) ∧ (z = 0 → Xi S1 876 8 ≠ 0))
set_option maxRecDepth 100000 in
theorem t_rr_sayText {S : sS} (hH : HI S) (ts : Nat) (row : Int) (cl : Nat) (hrow : 0 ≤ row ∧ row ≤ 5130) (hcl : cl < 600) (hts : S.2.2 876 4 = some ts) (htp : tp ts) (hL : LEX S) (hT : TOK S) (hS : SRX S) (hx : ts = txr S) (hcr : Xi S 876 6 ≤ Xi S 876 7) (ht : row < Xi S 876 6 ∧ Xi S 877 row.toNat = 102) (d : Nat) : Mt lay0 (d + 5) m_rr_sayText [.ref 899, iv row, .ref (276 + cl)] S (Q_rr_sayText S ts row cl) := by
  refine Mt_R rfl rfl ?_
  have hF : FR md_rr_sayText S S := FR.rf
  have w1 : 0 ≤ Xi S 246 8 ∧ Xi S 246 8 ≤ 1666 := hH.c _ _
  have w2 : 0 ≤ Xi S 876 6 ∧ Xi S 876 6 ≤ 5002 := hH.c _ _
  have w3 : 0 ≤ Xi S 876 7 ∧ Xi S 876 7 ≤ 5125 := hH.c _ _
  have w4 : -1 ≤ Xi S 895 4 ∧ Xi S 895 4 ≤ 15 := hH.c _ _
  have htk := hT row.toNat (by omega) ht.2
  have he5 : 0 ≤ Xi S 876 5 ∧ Xi S 876 5 ≤ 5000 := hH.c _ _
  have hp0 : 0 ≤ Xi S 878 row.toNat := (hH.c 878 row.toNat).1
  have C59 : ∀ (n59 : Nat) (T1 : sS) (_ : HI T1) (_ : FR md_rr_sayText S T1) (v4 : Int) (v5 : Int) (v6 : Int), (0 ≤ v4 ∧ v4 ≤ 5000) → (-1 ≤ v5 ∧ v5 ≤ 4999) → (1 ≤ v6 ∧ v6 ≤ 5000) → (KCL S T1 cl) → (Xi T1 (276 + cl) 0 = 7 ∧ Xi T1 (276 + cl) 3 = Xi S 246 8 ∧ Xi T1 (276 + cl) 4 = (Xi S 878 row.toNat + 1) ∧ Xi T1 (276 + cl) 5 = v4 - (Xi S 878 row.toNat + 1)) → (v4 = (Xi S 878 row.toNat + 1) + Xj S 879 row.toNat) → ((Xi S 878 row.toNat + 1) ≤ v6 ∧ v6 ≤ v4) → (v5 ≠ -1 → (Xi S 878 row.toNat + 1) ≤ v5 ∧ v5 < v6) → (TOK T1) → (Xi S 876 6 ≤ Xi T1 876 7) → (KTK S T1 (Xi S 876 6)) → (IGR S T1 (0 ≤ Xi S 895 4)) → (NB S T1 ts (Xi S 246 8) (Xi S 878 row.toNat + 1) (v6 - (Xi S 878 row.toNat + 1)) v5) → n59 = (5001 - v6).toNat → Rl lay0 (d + 4) m_rr_sayText 59 [(0, .ref 899), (1, iv row), (4, iv v4), (5, iv v5), (6, iv v6)] [] T1 (Q_rr_sayText S ts row cl) := by
    intro n59
    induction n59 using Nat.strongRecOn with
    | ind n59 ih59 =>
      intro T1 hHT1 hFT1 v4 v5 v6 w5 w6 w7 hc59 w8 w9 w10 w11 hT59 w12 hk59 hi59 hn59 hm59
      have w13 : Xi T1 876 6 = Xi S 876 6 := hFT1.x _ _ rfl
      have w14 : Xi T1 895 4 = Xi S 895 4 := hFT1.x _ _ rfl
      have w15 : 0 ≤ Xi T1 876 7 ∧ Xi T1 876 7 ≤ 5125 := hHT1.c _ _
      refine l_iload rfl rfl ?_
      refine l_iload rfl rfl ?_
      refine l_icmp_ge rfl rfl (by unfold rg; omega) (by unfold rg; omega) (fun w16 => ?_) (fun w17 => ?_)
      · refine l_iload rfl rfl ?_
        refine l_iconst rfl ?_
        refine l_icmp_eq rfl rfl (by unfold rg; omega) (by unfold rg; omega) (fun w18 => ?_) (fun w19 => ?_)
        · refine l_iconst rfl ?_
          refine l_goto rfl rfl ?_
          refine l_ireturn rfl rfl ?_
          have w20 : 0 ≤ Xi T1 246 8 ∧ Xi T1 246 8 ≤ 1666 := hHT1.c _ _
          have w21 : 0 ≤ Xi T1 876 7 ∧ Xi T1 876 7 ≤ 5125 := hHT1.c _ _
          have w22 : 0 ≤ Xi T1 876 8 ∧ Xi T1 876 8 ≤ 9 := hHT1.c _ _
          have w23 : -1 ≤ Xi T1 895 4 ∧ Xi T1 895 4 ≤ 15 := hHT1.c _ _
          exact ⟨hHT1, hFT1, _, rfl, ⟨by omega, by omega⟩, (hc59), (fun q => by first | (exfalso; omega) | exact cl_7 (by omega) (w := Xi S 246 8) (by omega) (v := (Xi S 878 row.toNat + 1)) (by omega) (n := v4 - (Xi S 878 row.toNat + 1)) (by omega) (tx_mk (SRX_FR hFT1 rfl hS) (by omega) (by omega)) (ins_mk hx (hFT1 20 1 rfl).2.2 (fun j => (hFT1.smk (ks := [(902, 904)]) rfl).x ts (tp_kC htp) j) (by rw [show v6 - (Xi S 878 row.toNat + 1) = v4 - (Xi S 878 row.toNat + 1) by omega, show v5 = -1 by omega] at hn59; exact hn59) hi59 rfl)), (fun q => by first | (exfalso; omega) | exact hi59), (fun q => by first | (exfalso; omega) | exact hk59), (fun q => by first | (exfalso; omega) | exact hT59), (by omega), (fun q => by first | omega | (exfalso; omega))⟩
        · refine l_aload_n rfl rfl ?_
          refine l_gfr rfl rfl rfl rfl rfl (hHT1.r 899 0 876 rfl) ?_
          refine l_bipush rfl rfl ?_
          refine l_iload_n rfl rfl ?_
          have w24 : 0 ≤ Xi T1 246 8 ∧ Xi T1 246 8 ≤ 1666 := hHT1.c _ _
          have w25 : 0 ≤ Xi T1 876 7 ∧ Xi T1 876 7 ≤ 5125 := hHT1.c _ _
          have w26 : -1 ≤ Xi T1 895 4 ∧ Xi T1 895 4 ≤ 15 := hHT1.c _ _
          refine l_callV rfl rfl rfl (t_to_wrong hHT1 8 row ⟨by omega, by omega⟩ ⟨by omega, by omega⟩ _) ?_
          rintro _ T2 ⟨hHT2, w30, z29, rfl, w29, w27, w28⟩
          have hFT2 : FR md_rr_sayText S T2 := FR.tr hFT1 w30 rfl
          show Rl _ _ _ _ _ [iv z29] _ _
          refine l_if_eq rfl rfl (by unfold rg; omega) (fun w31 => ?_) (fun w32 => ?_)
          · refine l_iconst rfl ?_
            refine l_ireturn rfl rfl ?_
            have w33 : Xi T2 (276 + cl) 0 = Xi T1 (276 + cl) 0 := (show Xi T2 (276 + cl) 0 = Xi T1 (276 + cl) 0 from FR_cl w30 rfl (by omega))
            have w34 : Xi T2 (276 + cl) 3 = Xi T1 (276 + cl) 3 := (show Xi T2 (276 + cl) 3 = Xi T1 (276 + cl) 3 from FR_cl w30 rfl (by omega))
            have w35 : Xi T2 (276 + cl) 4 = Xi T1 (276 + cl) 4 := (show Xi T2 (276 + cl) 4 = Xi T1 (276 + cl) 4 from FR_cl w30 rfl (by omega))
            have w36 : Xi T2 (276 + cl) 5 = Xi T1 (276 + cl) 5 := (show Xi T2 (276 + cl) 5 = Xi T1 (276 + cl) 5 from FR_cl w30 rfl (by omega))
            have w37 : Xi T2 246 8 = Xi T1 246 8 := (show Xi T2 246 8 = Xi T1 246 8 from w30.x _ _ rfl)
            have w38 : 0 ≤ Xi T1 246 8 ∧ Xi T1 246 8 ≤ 1666 := hHT1.c _ _
            have w39 : Xi T2 876 7 = Xi T1 876 7 := (show Xi T2 876 7 = Xi T1 876 7 from w30.x _ _ rfl)
            have w40 : 0 ≤ Xi T1 876 7 ∧ Xi T1 876 7 ≤ 5125 := hHT1.c _ _
            have w41 : 0 ≤ Xi T2 876 8 ∧ Xi T2 876 8 ≤ 9 := hHT2.c _ _
            have w42 : Xi T2 895 4 = Xi T1 895 4 := (show Xi T2 895 4 = Xi T1 895 4 from w30.x _ _ rfl)
            have w43 : -1 ≤ Xi T1 895 4 ∧ Xi T1 895 4 ≤ 15 := hHT1.c _ _
            exact ⟨hHT2, hFT2, _, rfl, ⟨by omega, by omega⟩, ((kcl_f w30 rfl hc59)), (fun q => by first | (exfalso; omega) | exact cl_7 (by omega) (w := Xi S 246 8) (by omega) (v := (Xi S 878 row.toNat + 1)) (by omega) (n := v4 - (Xi S 878 row.toNat + 1)) (by omega) (tx_mk (SRX_FR hFT2 rfl hS) (by omega) (by omega)) (ins_mk hx (hFT2 20 1 rfl).2.2 (fun j => (hFT2.smk (ks := [(902, 904)]) rfl).x ts (tp_kC htp) j) (by rw [show v6 - (Xi S 878 row.toNat + 1) = v4 - (Xi S 878 row.toNat + 1) by omega, show v5 = -1 by omega] at hn59; exact hn59) hi59 rfl)), (fun q => by first | (exfalso; omega) | exact hi59), (fun q => by first | (exfalso; omega) | exact hk59), (fun q => by first | (exfalso; omega) | exact hT59), (by omega), (fun q => by first | omega | (exfalso; omega))⟩
          · refine l_iconst rfl ?_
            refine l_goto rfl rfl ?_
            refine l_ireturn rfl rfl ?_
            have w44 : Xi T2 (276 + cl) 0 = Xi T1 (276 + cl) 0 := (show Xi T2 (276 + cl) 0 = Xi T1 (276 + cl) 0 from FR_cl w30 rfl (by omega))
            have w45 : Xi T2 (276 + cl) 3 = Xi T1 (276 + cl) 3 := (show Xi T2 (276 + cl) 3 = Xi T1 (276 + cl) 3 from FR_cl w30 rfl (by omega))
            have w46 : Xi T2 (276 + cl) 4 = Xi T1 (276 + cl) 4 := (show Xi T2 (276 + cl) 4 = Xi T1 (276 + cl) 4 from FR_cl w30 rfl (by omega))
            have w47 : Xi T2 (276 + cl) 5 = Xi T1 (276 + cl) 5 := (show Xi T2 (276 + cl) 5 = Xi T1 (276 + cl) 5 from FR_cl w30 rfl (by omega))
            have w48 : Xi T2 246 8 = Xi T1 246 8 := (show Xi T2 246 8 = Xi T1 246 8 from w30.x _ _ rfl)
            have w49 : 0 ≤ Xi T1 246 8 ∧ Xi T1 246 8 ≤ 1666 := hHT1.c _ _
            have w50 : Xi T2 876 7 = Xi T1 876 7 := (show Xi T2 876 7 = Xi T1 876 7 from w30.x _ _ rfl)
            have w51 : 0 ≤ Xi T1 876 7 ∧ Xi T1 876 7 ≤ 5125 := hHT1.c _ _
            have w52 : 0 ≤ Xi T2 876 8 ∧ Xi T2 876 8 ≤ 9 := hHT2.c _ _
            have w53 : Xi T2 895 4 = Xi T1 895 4 := (show Xi T2 895 4 = Xi T1 895 4 from w30.x _ _ rfl)
            have w54 : -1 ≤ Xi T1 895 4 ∧ Xi T1 895 4 ≤ 15 := hHT1.c _ _
            exact ⟨hHT2, hFT2, _, rfl, ⟨by omega, by omega⟩, ((kcl_f w30 rfl hc59)), (fun q => by first | (exfalso; omega) | exact cl_7 (by omega) (w := Xi S 246 8) (by omega) (v := (Xi S 878 row.toNat + 1)) (by omega) (n := v4 - (Xi S 878 row.toNat + 1)) (by omega) (tx_mk (SRX_FR hFT2 rfl hS) (by omega) (by omega)) (ins_mk hx (hFT2 20 1 rfl).2.2 (fun j => (hFT2.smk (ks := [(902, 904)]) rfl).x ts (tp_kC htp) j) (by rw [show v6 - (Xi S 878 row.toNat + 1) = v4 - (Xi S 878 row.toNat + 1) by omega, show v5 = -1 by omega] at hn59; exact hn59) hi59 rfl)), (fun q => by first | (exfalso; omega) | exact hi59), (fun q => by first | (exfalso; omega) | exact hk59), (fun q => by first | (exfalso; omega) | exact hT59), (by omega), (fun q => by first | omega | (exfalso; omega))⟩
      · refine l_aload_n rfl rfl ?_
        refine l_gfr rfl rfl rfl rfl rfl (hHT1.r 899 0 876 rfl) ?_
        refine l_gfr rfl rfl rfl rfl rfl ((hFT1 876 4 rfl).2.2.trans hts) ?_
        refine l_iload rfl rfl ?_
        refine l_baload (n := 5000) rfl (tp_sv (by assumption)) (lay_tp (by assumption)) (by decide) (by omega) (by omega) (by unfold rg; omega) ?_
        have w56 : -128 ≤ (Xi T1 ts ((v6).toNat)) ∧ (Xi T1 ts ((v6).toNat)) ≤ 127 := tpc hHT1 (by assumption)
        have x75 : (Xi T1 ts ((v6).toNat)) = Xi S ts ((Xi S 878 row.toNat + 1) + (v6 - (Xi S 878 row.toNat + 1))).toNat := by rw [show (Xi S 878 row.toNat + 1) + (v6 - (Xi S 878 row.toNat + 1)) = v6 by omega]; exact (hFT1.smk (ks := [(902, 904)]) rfl).x ts (tp_kC htp) _
        refine l_istore rfl rfl rfl ?_
        refine l_iload rfl rfl ?_
        refine l_bipush rfl rfl ?_
        refine l_icmp_ne rfl rfl (by unfold rg; omega) (by unfold rg; omega) (fun w57 => ?_) (fun w58 => ?_)
        · refine l_iload rfl rfl ?_
          refine l_bipush rfl rfl ?_
          refine l_icmp_ne rfl rfl (by unfold rg; omega) (by unfold rg; omega) (fun w59 => ?_) (fun w60 => ?_)
          · refine l_iload rfl rfl ?_
            refine l_bipush rfl rfl ?_
            refine l_icmp_eq rfl rfl (by unfold rg; omega) (by unfold rg; omega) (fun w61 => ?_) (fun w62 => ?_)
            · refine l_iload rfl rfl ?_
              refine l_bipush rfl rfl ?_
              refine l_icmp_ne rfl rfl (by unfold rg; omega) (by unfold rg; omega) (fun w63 => ?_) (fun w64 => ?_)
              · refine l_iconst rfl ?_
                refine l_istore rfl rfl rfl ?_
                refine l_iinc rfl rfl rfl rfl ?_
                refine l_goto rfl rfl ?_
                have w65 : 0 ≤ Xi T1 246 8 ∧ Xi T1 246 8 ≤ 1666 := hHT1.c _ _
                have w66 : 0 ≤ Xi T1 876 7 ∧ Xi T1 876 7 ≤ 5125 := hHT1.c _ _
                have w67 : -1 ≤ Xi T1 895 4 ∧ Xi T1 895 4 ≤ 15 := hHT1.c _ _
                exact Rl_weak (ih59 _ (by omega) T1 hHT1 hFT1 (v4) ((-1)) ((v6 + 1)) (by omega) (by omega) (by omega) (hc59) (by omega) (by omega) (by omega) (by omega) (by first | assumption | exact (by assumption : TOK T1)) (by omega) (by first | exact k111 | exact hk59 | exact k53) (by first | exact i111 | exact hi59 | exact i53) (by first | exact nb_0 (by omega) (by omega) | exact nb_s hn59 (by omega) (by omega) x75 (by omega)) rfl) (And.intro rfl (And.intro rfl (And.intro rfl (And.intro rfl (And.intro rfl (True.intro))))))
              · refine l_iload rfl rfl ?_
                refine l_goto rfl rfl ?_
                refine l_istore rfl rfl rfl ?_
                refine l_iinc rfl rfl rfl rfl ?_
                refine l_goto rfl rfl ?_
                have w68 : 0 ≤ Xi T1 246 8 ∧ Xi T1 246 8 ≤ 1666 := hHT1.c _ _
                have w69 : 0 ≤ Xi T1 876 7 ∧ Xi T1 876 7 ≤ 5125 := hHT1.c _ _
                have w70 : -1 ≤ Xi T1 895 4 ∧ Xi T1 895 4 ≤ 15 := hHT1.c _ _
                exact Rl_weak (ih59 _ (by omega) T1 hHT1 hFT1 (v4) (v6) ((v6 + 1)) (by omega) (by omega) (by omega) (hc59) (by omega) (by omega) (by omega) (by omega) (by first | assumption | exact (by assumption : TOK T1)) (by omega) (by first | exact k111 | exact hk59 | exact k53) (by first | exact i111 | exact hi59 | exact i53) (by first | exact nb_0 (by omega) (by omega) | exact nb_s hn59 (by omega) (by omega) x75 (by omega)) rfl) (And.intro rfl (And.intro rfl (And.intro rfl (And.intro rfl (And.intro rfl (True.intro))))))
            · refine l_iload rfl rfl ?_
              refine l_bipush rfl rfl ?_
              refine l_icmp_ne rfl rfl (by unfold rg; omega) (by unfold rg; omega) (fun w71 => ?_) (fun w72 => ?_)
              · refine l_iinc rfl rfl rfl rfl ?_
                refine l_goto rfl rfl ?_
                have w73 : 0 ≤ Xi T1 246 8 ∧ Xi T1 246 8 ≤ 1666 := hHT1.c _ _
                have w74 : 0 ≤ Xi T1 876 7 ∧ Xi T1 876 7 ≤ 5125 := hHT1.c _ _
                have w75 : -1 ≤ Xi T1 895 4 ∧ Xi T1 895 4 ≤ 15 := hHT1.c _ _
                exact Rl_weak (ih59 _ (by omega) T1 hHT1 hFT1 (v4) (v5) ((v6 + 1)) (by omega) (by omega) (by omega) (hc59) (by omega) (by omega) (by omega) (by omega) (by first | assumption | exact (by assumption : TOK T1)) (by omega) (by first | exact k111 | exact hk59 | exact k53) (by first | exact i111 | exact hi59 | exact i53) (by first | exact nb_0 (by omega) (by omega) | exact nb_s hn59 (by omega) (by omega) x75 (by omega)) rfl) (And.intro rfl (And.intro rfl (And.intro rfl (And.intro rfl (And.intro rfl (True.intro))))))
              · refine l_iload rfl rfl ?_
                refine l_bipush rfl rfl ?_
                refine l_icmp_ne rfl rfl (by unfold rg; omega) (by unfold rg; omega) (fun w76 => ?_) (fun w77 => ?_)
                · refine l_iconst rfl ?_
                  refine l_istore rfl rfl rfl ?_
                  refine l_iinc rfl rfl rfl rfl ?_
                  refine l_goto rfl rfl ?_
                  have w78 : 0 ≤ Xi T1 246 8 ∧ Xi T1 246 8 ≤ 1666 := hHT1.c _ _
                  have w79 : 0 ≤ Xi T1 876 7 ∧ Xi T1 876 7 ≤ 5125 := hHT1.c _ _
                  have w80 : -1 ≤ Xi T1 895 4 ∧ Xi T1 895 4 ≤ 15 := hHT1.c _ _
                  exact Rl_weak (ih59 _ (by omega) T1 hHT1 hFT1 (v4) ((-1)) ((v6 + 1)) (by omega) (by omega) (by omega) (hc59) (by omega) (by omega) (by omega) (by omega) (by first | assumption | exact (by assumption : TOK T1)) (by omega) (by first | exact k111 | exact hk59 | exact k53) (by first | exact i111 | exact hi59 | exact i53) (by first | exact nb_0 (by omega) (by omega) | exact nb_s hn59 (by omega) (by omega) x75 (by omega)) rfl) (And.intro rfl (And.intro rfl (And.intro rfl (And.intro rfl (And.intro rfl (True.intro))))))
                · refine l_iload rfl rfl ?_
                  refine l_goto rfl rfl ?_
                  refine l_istore rfl rfl rfl ?_
                  refine l_iinc rfl rfl rfl rfl ?_
                  refine l_goto rfl rfl ?_
                  have w81 : 0 ≤ Xi T1 246 8 ∧ Xi T1 246 8 ≤ 1666 := hHT1.c _ _
                  have w82 : 0 ≤ Xi T1 876 7 ∧ Xi T1 876 7 ≤ 5125 := hHT1.c _ _
                  have w83 : -1 ≤ Xi T1 895 4 ∧ Xi T1 895 4 ≤ 15 := hHT1.c _ _
                  exact Rl_weak (ih59 _ (by omega) T1 hHT1 hFT1 (v4) (v6) ((v6 + 1)) (by omega) (by omega) (by omega) (hc59) (by omega) (by omega) (by omega) (by omega) (by first | assumption | exact (by assumption : TOK T1)) (by omega) (by first | exact k111 | exact hk59 | exact k53) (by first | exact i111 | exact hi59 | exact i53) (by first | exact nb_0 (by omega) (by omega) | exact nb_s hn59 (by omega) (by omega) x75 (by omega)) rfl) (And.intro rfl (And.intro rfl (And.intro rfl (And.intro rfl (And.intro rfl (True.intro))))))
          · refine l_iload rfl rfl ?_
            refine l_iconst rfl ?_
            refine l_icmp_eq rfl rfl (by unfold rg; omega) (by unfold rg; omega) (fun w84 => ?_) (fun w85 => ?_)
            · refine l_aload_n rfl rfl ?_
              refine l_gfr rfl rfl rfl rfl rfl (hHT1.r 899 0 876 rfl) ?_
              refine l_bipush rfl rfl ?_
              refine l_iload_n rfl rfl ?_
              have w86 : 0 ≤ Xi T1 246 8 ∧ Xi T1 246 8 ≤ 1666 := hHT1.c _ _
              have w87 : 0 ≤ Xi T1 876 7 ∧ Xi T1 876 7 ≤ 5125 := hHT1.c _ _
              have w88 : -1 ≤ Xi T1 895 4 ∧ Xi T1 895 4 ≤ 15 := hHT1.c _ _
              refine l_callV rfl rfl rfl (t_to_wrong hHT1 8 row ⟨by omega, by omega⟩ ⟨by omega, by omega⟩ _) ?_
              rintro _ T3 ⟨hHT3, w92, z91, rfl, w91, w89, w90⟩
              have hFT3 : FR md_rr_sayText S T3 := FR.tr hFT1 w92 rfl
              show Rl _ _ _ _ _ [iv z91] _ _
              refine l_ireturn rfl (retI_z (by omega)) ?_
              have w93 : Xi T3 (276 + cl) 0 = Xi T1 (276 + cl) 0 := (show Xi T3 (276 + cl) 0 = Xi T1 (276 + cl) 0 from FR_cl w92 rfl (by omega))
              have w94 : Xi T3 (276 + cl) 3 = Xi T1 (276 + cl) 3 := (show Xi T3 (276 + cl) 3 = Xi T1 (276 + cl) 3 from FR_cl w92 rfl (by omega))
              have w95 : Xi T3 (276 + cl) 4 = Xi T1 (276 + cl) 4 := (show Xi T3 (276 + cl) 4 = Xi T1 (276 + cl) 4 from FR_cl w92 rfl (by omega))
              have w96 : Xi T3 (276 + cl) 5 = Xi T1 (276 + cl) 5 := (show Xi T3 (276 + cl) 5 = Xi T1 (276 + cl) 5 from FR_cl w92 rfl (by omega))
              have w97 : Xi T3 246 8 = Xi T1 246 8 := (show Xi T3 246 8 = Xi T1 246 8 from w92.x _ _ rfl)
              have w98 : 0 ≤ Xi T1 246 8 ∧ Xi T1 246 8 ≤ 1666 := hHT1.c _ _
              have w99 : Xi T3 876 7 = Xi T1 876 7 := (show Xi T3 876 7 = Xi T1 876 7 from w92.x _ _ rfl)
              have w100 : 0 ≤ Xi T1 876 7 ∧ Xi T1 876 7 ≤ 5125 := hHT1.c _ _
              have w101 : 0 ≤ Xi T3 876 8 ∧ Xi T3 876 8 ≤ 9 := hHT3.c _ _
              have w102 : Xi T3 895 4 = Xi T1 895 4 := (show Xi T3 895 4 = Xi T1 895 4 from w92.x _ _ rfl)
              have w103 : -1 ≤ Xi T1 895 4 ∧ Xi T1 895 4 ≤ 15 := hHT1.c _ _
              exact ⟨hHT3, hFT3, _, rfl, ⟨by omega, by omega⟩, ((kcl_f w92 rfl hc59)), (fun q => by first | (exfalso; omega) | exact cl_7 (by omega) (w := Xi S 246 8) (by omega) (v := (Xi S 878 row.toNat + 1)) (by omega) (n := v4 - (Xi S 878 row.toNat + 1)) (by omega) (tx_mk (SRX_FR hFT3 rfl hS) (by omega) (by omega)) (ins_mk hx (hFT3 20 1 rfl).2.2 (fun j => (hFT3.smk (ks := [(902, 904)]) rfl).x ts (tp_kC htp) j) (by rw [show v6 - (Xi S 878 row.toNat + 1) = v4 - (Xi S 878 row.toNat + 1) by omega, show v5 = -1 by omega] at hn59; exact hn59) hi59 rfl)), (fun q => by first | (exfalso; omega) | exact hi59), (fun q => by first | (exfalso; omega) | exact hk59), (fun q => by first | (exfalso; omega) | exact hT59), (by omega), (fun q => by first | omega | (exfalso; omega))⟩
            · refine l_aload_n rfl rfl ?_
              refine l_iload rfl rfl ?_
              refine l_iconst rfl ?_
              refine l_iadd rfl ?_
              refine l_iload rfl rfl ?_
              have w104 : 0 ≤ Xi T1 246 8 ∧ Xi T1 246 8 ≤ 1666 := hHT1.c _ _
              have w105 : 0 ≤ Xi T1 876 6 ∧ Xi T1 876 6 ≤ 5002 := hHT1.c _ _
              have w106 : 0 ≤ Xi T1 876 7 ∧ Xi T1 876 7 ≤ 5125 := hHT1.c _ _
              have w107 : -1 ≤ Xi T1 895 4 ∧ Xi T1 895 4 ≤ 15 := hHT1.c _ _
              refine l_callV rfl rfl rfl (t_rr_insert hHT1 ts (v5 + 1) v6 ⟨by omega, by omega⟩ ⟨by omega, by omega⟩ ((hFT1 876 4 rfl).2.2.trans hts) htp (by first | assumption | exact (LEX_FR hFT1 rfl rfl (by assumption : LEX S))) (by assumption) (by first | assumption | omega) (by first | assumption | omega) _) ?_
              rintro _ T4 ⟨hHT4, w114, z113, rfl, w113, w108, w109, w110, w111, w112⟩
              have hFT4 : FR md_rr_sayText S T4 := FR.tr hFT1 w114 rfl
              show Rl _ _ _ _ _ [iv z113] _ _
              have i111 : IGR S T4 (0 ≤ Xi S 895 4) := IGR.tr hi59 (by assumption : IGR T1 T4 (0 ≤ Xi T1 895 4)) (fun x => by omega)
              have k111 : KTK S T4 (Xi S 876 6) := ktk_tr hk59 (by assumption : KTK T1 T4 (Xi T1 876 6)) (by omega)
              refine l_if_ne rfl rfl (by unfold rg; omega) (fun w115 => ?_) (fun w116 => ?_)
              · refine l_iload rfl rfl ?_
                refine l_bipush rfl rfl ?_
                refine l_icmp_eq rfl rfl (by unfold rg; omega) (by unfold rg; omega) (fun w117 => ?_) (fun w118 => ?_)
                · refine l_iload rfl rfl ?_
                  refine l_bipush rfl rfl ?_
                  refine l_icmp_ne rfl rfl (by unfold rg; omega) (by unfold rg; omega) (fun w119 => ?_) (fun w120 => ?_)
                  · refine l_iconst rfl ?_
                    refine l_istore rfl rfl rfl ?_
                    refine l_iinc rfl rfl rfl rfl ?_
                    refine l_goto rfl rfl ?_
                    have w121 : Xi T4 (276 + cl) 0 = Xi T1 (276 + cl) 0 := (show Xi T4 (276 + cl) 0 = Xi T1 (276 + cl) 0 from FR_cl w114 rfl (by omega))
                    have w122 : Xi T4 (276 + cl) 3 = Xi T1 (276 + cl) 3 := (show Xi T4 (276 + cl) 3 = Xi T1 (276 + cl) 3 from FR_cl w114 rfl (by omega))
                    have w123 : Xi T4 (276 + cl) 4 = Xi T1 (276 + cl) 4 := (show Xi T4 (276 + cl) 4 = Xi T1 (276 + cl) 4 from FR_cl w114 rfl (by omega))
                    have w124 : Xi T4 (276 + cl) 5 = Xi T1 (276 + cl) 5 := (show Xi T4 (276 + cl) 5 = Xi T1 (276 + cl) 5 from FR_cl w114 rfl (by omega))
                    have w125 : 0 ≤ Xi T4 246 8 ∧ Xi T4 246 8 ≤ 1666 := hHT4.c _ _
                    have w126 : 0 ≤ Xi T4 876 7 ∧ Xi T4 876 7 ≤ 5125 := hHT4.c _ _
                    have w127 : Xi T4 895 4 = Xi T1 895 4 := (show Xi T4 895 4 = Xi T1 895 4 from w114.x _ _ rfl)
                    have w128 : -1 ≤ Xi T1 895 4 ∧ Xi T1 895 4 ≤ 15 := hHT1.c _ _
                    exact Rl_weak (ih59 _ (by omega) T4 hHT4 hFT4 (v4) ((-1)) ((v6 + 1)) (by omega) (by omega) (by omega) ((kcl_f w114 rfl hc59)) (by omega) (by omega) (by omega) (by omega) (by first | assumption | exact (by assumption : TOK T4)) (by omega) (by first | exact k111 | exact hk59 | exact k53) (by first | exact i111 | exact hi59 | exact i53) (by first | exact nb_0 (by omega) (by omega) | exact nb_s hn59 (by omega) (by omega) x75 (by omega)) rfl) (And.intro rfl (And.intro rfl (And.intro rfl (And.intro rfl (And.intro rfl (True.intro))))))
                  · refine l_iload rfl rfl ?_
                    refine l_goto rfl rfl ?_
                    refine l_istore rfl rfl rfl ?_
                    refine l_iinc rfl rfl rfl rfl ?_
                    refine l_goto rfl rfl ?_
                    have w129 : Xi T4 (276 + cl) 0 = Xi T1 (276 + cl) 0 := (show Xi T4 (276 + cl) 0 = Xi T1 (276 + cl) 0 from FR_cl w114 rfl (by omega))
                    have w130 : Xi T4 (276 + cl) 3 = Xi T1 (276 + cl) 3 := (show Xi T4 (276 + cl) 3 = Xi T1 (276 + cl) 3 from FR_cl w114 rfl (by omega))
                    have w131 : Xi T4 (276 + cl) 4 = Xi T1 (276 + cl) 4 := (show Xi T4 (276 + cl) 4 = Xi T1 (276 + cl) 4 from FR_cl w114 rfl (by omega))
                    have w132 : Xi T4 (276 + cl) 5 = Xi T1 (276 + cl) 5 := (show Xi T4 (276 + cl) 5 = Xi T1 (276 + cl) 5 from FR_cl w114 rfl (by omega))
                    have w133 : 0 ≤ Xi T4 246 8 ∧ Xi T4 246 8 ≤ 1666 := hHT4.c _ _
                    have w134 : 0 ≤ Xi T4 876 7 ∧ Xi T4 876 7 ≤ 5125 := hHT4.c _ _
                    have w135 : Xi T4 895 4 = Xi T1 895 4 := (show Xi T4 895 4 = Xi T1 895 4 from w114.x _ _ rfl)
                    have w136 : -1 ≤ Xi T1 895 4 ∧ Xi T1 895 4 ≤ 15 := hHT1.c _ _
                    exact Rl_weak (ih59 _ (by omega) T4 hHT4 hFT4 (v4) (v6) ((v6 + 1)) (by omega) (by omega) (by omega) ((kcl_f w114 rfl hc59)) (by omega) (by omega) (by omega) (by omega) (by first | assumption | exact (by assumption : TOK T4)) (by omega) (by first | exact k111 | exact hk59 | exact k53) (by first | exact i111 | exact hi59 | exact i53) (by first | exact nb_0 (by omega) (by omega) | exact nb_s hn59 (by omega) (by omega) x75 (by omega)) rfl) (And.intro rfl (And.intro rfl (And.intro rfl (And.intro rfl (And.intro rfl (True.intro))))))
                · refine l_iload rfl rfl ?_
                  refine l_bipush rfl rfl ?_
                  refine l_icmp_ne rfl rfl (by unfold rg; omega) (by unfold rg; omega) (fun w137 => ?_) (fun w138 => ?_)
                  · refine l_iinc rfl rfl rfl rfl ?_
                    refine l_goto rfl rfl ?_
                    have w139 : Xi T4 (276 + cl) 0 = Xi T1 (276 + cl) 0 := (show Xi T4 (276 + cl) 0 = Xi T1 (276 + cl) 0 from FR_cl w114 rfl (by omega))
                    have w140 : Xi T4 (276 + cl) 3 = Xi T1 (276 + cl) 3 := (show Xi T4 (276 + cl) 3 = Xi T1 (276 + cl) 3 from FR_cl w114 rfl (by omega))
                    have w141 : Xi T4 (276 + cl) 4 = Xi T1 (276 + cl) 4 := (show Xi T4 (276 + cl) 4 = Xi T1 (276 + cl) 4 from FR_cl w114 rfl (by omega))
                    have w142 : Xi T4 (276 + cl) 5 = Xi T1 (276 + cl) 5 := (show Xi T4 (276 + cl) 5 = Xi T1 (276 + cl) 5 from FR_cl w114 rfl (by omega))
                    have w143 : 0 ≤ Xi T4 246 8 ∧ Xi T4 246 8 ≤ 1666 := hHT4.c _ _
                    have w144 : 0 ≤ Xi T4 876 7 ∧ Xi T4 876 7 ≤ 5125 := hHT4.c _ _
                    have w145 : Xi T4 895 4 = Xi T1 895 4 := (show Xi T4 895 4 = Xi T1 895 4 from w114.x _ _ rfl)
                    have w146 : -1 ≤ Xi T1 895 4 ∧ Xi T1 895 4 ≤ 15 := hHT1.c _ _
                    exact Rl_weak (ih59 _ (by omega) T4 hHT4 hFT4 (v4) (v5) ((v6 + 1)) (by omega) (by omega) (by omega) ((kcl_f w114 rfl hc59)) (by omega) (by omega) (by omega) (by omega) (by first | assumption | exact (by assumption : TOK T4)) (by omega) (by first | exact k111 | exact hk59 | exact k53) (by first | exact i111 | exact hi59 | exact i53) (by first | exact nb_0 (by omega) (by omega) | exact nb_s hn59 (by omega) (by omega) x75 (by omega)) rfl) (And.intro rfl (And.intro rfl (And.intro rfl (And.intro rfl (And.intro rfl (True.intro))))))
                  · refine l_iload rfl rfl ?_
                    refine l_bipush rfl rfl ?_
                    refine l_icmp_ne rfl rfl (by unfold rg; omega) (by unfold rg; omega) (fun w147 => ?_) (fun w148 => ?_)
                    · refine l_iconst rfl ?_
                      refine l_istore rfl rfl rfl ?_
                      refine l_iinc rfl rfl rfl rfl ?_
                      refine l_goto rfl rfl ?_
                      have w149 : Xi T4 (276 + cl) 0 = Xi T1 (276 + cl) 0 := (show Xi T4 (276 + cl) 0 = Xi T1 (276 + cl) 0 from FR_cl w114 rfl (by omega))
                      have w150 : Xi T4 (276 + cl) 3 = Xi T1 (276 + cl) 3 := (show Xi T4 (276 + cl) 3 = Xi T1 (276 + cl) 3 from FR_cl w114 rfl (by omega))
                      have w151 : Xi T4 (276 + cl) 4 = Xi T1 (276 + cl) 4 := (show Xi T4 (276 + cl) 4 = Xi T1 (276 + cl) 4 from FR_cl w114 rfl (by omega))
                      have w152 : Xi T4 (276 + cl) 5 = Xi T1 (276 + cl) 5 := (show Xi T4 (276 + cl) 5 = Xi T1 (276 + cl) 5 from FR_cl w114 rfl (by omega))
                      have w153 : 0 ≤ Xi T4 246 8 ∧ Xi T4 246 8 ≤ 1666 := hHT4.c _ _
                      have w154 : 0 ≤ Xi T4 876 7 ∧ Xi T4 876 7 ≤ 5125 := hHT4.c _ _
                      have w155 : Xi T4 895 4 = Xi T1 895 4 := (show Xi T4 895 4 = Xi T1 895 4 from w114.x _ _ rfl)
                      have w156 : -1 ≤ Xi T1 895 4 ∧ Xi T1 895 4 ≤ 15 := hHT1.c _ _
                      exact Rl_weak (ih59 _ (by omega) T4 hHT4 hFT4 (v4) ((-1)) ((v6 + 1)) (by omega) (by omega) (by omega) ((kcl_f w114 rfl hc59)) (by omega) (by omega) (by omega) (by omega) (by first | assumption | exact (by assumption : TOK T4)) (by omega) (by first | exact k111 | exact hk59 | exact k53) (by first | exact i111 | exact hi59 | exact i53) (by first | exact nb_0 (by omega) (by omega) | exact nb_s hn59 (by omega) (by omega) x75 (by omega)) rfl) (And.intro rfl (And.intro rfl (And.intro rfl (And.intro rfl (And.intro rfl (True.intro))))))
                    · refine l_iload rfl rfl ?_
                      refine l_goto rfl rfl ?_
                      refine l_istore rfl rfl rfl ?_
                      refine l_iinc rfl rfl rfl rfl ?_
                      refine l_goto rfl rfl ?_
                      have w157 : Xi T4 (276 + cl) 0 = Xi T1 (276 + cl) 0 := (show Xi T4 (276 + cl) 0 = Xi T1 (276 + cl) 0 from FR_cl w114 rfl (by omega))
                      have w158 : Xi T4 (276 + cl) 3 = Xi T1 (276 + cl) 3 := (show Xi T4 (276 + cl) 3 = Xi T1 (276 + cl) 3 from FR_cl w114 rfl (by omega))
                      have w159 : Xi T4 (276 + cl) 4 = Xi T1 (276 + cl) 4 := (show Xi T4 (276 + cl) 4 = Xi T1 (276 + cl) 4 from FR_cl w114 rfl (by omega))
                      have w160 : Xi T4 (276 + cl) 5 = Xi T1 (276 + cl) 5 := (show Xi T4 (276 + cl) 5 = Xi T1 (276 + cl) 5 from FR_cl w114 rfl (by omega))
                      have w161 : 0 ≤ Xi T4 246 8 ∧ Xi T4 246 8 ≤ 1666 := hHT4.c _ _
                      have w162 : 0 ≤ Xi T4 876 7 ∧ Xi T4 876 7 ≤ 5125 := hHT4.c _ _
                      have w163 : Xi T4 895 4 = Xi T1 895 4 := (show Xi T4 895 4 = Xi T1 895 4 from w114.x _ _ rfl)
                      have w164 : -1 ≤ Xi T1 895 4 ∧ Xi T1 895 4 ≤ 15 := hHT1.c _ _
                      exact Rl_weak (ih59 _ (by omega) T4 hHT4 hFT4 (v4) (v6) ((v6 + 1)) (by omega) (by omega) (by omega) ((kcl_f w114 rfl hc59)) (by omega) (by omega) (by omega) (by omega) (by first | assumption | exact (by assumption : TOK T4)) (by omega) (by first | exact k111 | exact hk59 | exact k53) (by first | exact i111 | exact hi59 | exact i53) (by first | exact nb_0 (by omega) (by omega) | exact nb_s hn59 (by omega) (by omega) x75 (by omega)) rfl) (And.intro rfl (And.intro rfl (And.intro rfl (And.intro rfl (And.intro rfl (True.intro))))))
              · refine l_aload_n rfl rfl ?_
                refine l_gfr rfl rfl rfl rfl rfl (hHT4.r 899 0 876 rfl) ?_
                refine l_bipush rfl rfl ?_
                refine l_iload_n rfl rfl ?_
                have w165 : Xi T4 (276 + cl) 0 = Xi T1 (276 + cl) 0 := (show Xi T4 (276 + cl) 0 = Xi T1 (276 + cl) 0 from FR_cl w114 rfl (by omega))
                have w166 : Xi T4 (276 + cl) 3 = Xi T1 (276 + cl) 3 := (show Xi T4 (276 + cl) 3 = Xi T1 (276 + cl) 3 from FR_cl w114 rfl (by omega))
                have w167 : Xi T4 (276 + cl) 4 = Xi T1 (276 + cl) 4 := (show Xi T4 (276 + cl) 4 = Xi T1 (276 + cl) 4 from FR_cl w114 rfl (by omega))
                have w168 : Xi T4 (276 + cl) 5 = Xi T1 (276 + cl) 5 := (show Xi T4 (276 + cl) 5 = Xi T1 (276 + cl) 5 from FR_cl w114 rfl (by omega))
                have w169 : 0 ≤ Xi T4 246 8 ∧ Xi T4 246 8 ≤ 1666 := hHT4.c _ _
                have w170 : 0 ≤ Xi T4 876 7 ∧ Xi T4 876 7 ≤ 5125 := hHT4.c _ _
                have w171 : Xi T4 895 4 = Xi T1 895 4 := (show Xi T4 895 4 = Xi T1 895 4 from w114.x _ _ rfl)
                have w172 : -1 ≤ Xi T1 895 4 ∧ Xi T1 895 4 ≤ 15 := hHT1.c _ _
                refine l_callV rfl rfl rfl (t_to_wrong hHT4 8 row ⟨by omega, by omega⟩ ⟨by omega, by omega⟩ _) ?_
                rintro _ T5 ⟨hHT5, w176, z175, rfl, w175, w173, w174⟩
                have hFT5 : FR md_rr_sayText S T5 := FR.tr hFT4 w176 rfl
                show Rl _ _ _ _ _ [iv z175] _ _
                refine l_ireturn rfl (retI_z (by omega)) ?_
                have w177 : Xi T5 (276 + cl) 0 = Xi T1 (276 + cl) 0 := (show Xi T5 (276 + cl) 0 = Xi T4 (276 + cl) 0 from FR_cl w176 rfl (by omega)).trans ((show Xi T4 (276 + cl) 0 = Xi T1 (276 + cl) 0 from FR_cl w114 rfl (by omega)))
                have w178 : Xi T5 (276 + cl) 3 = Xi T1 (276 + cl) 3 := (show Xi T5 (276 + cl) 3 = Xi T4 (276 + cl) 3 from FR_cl w176 rfl (by omega)).trans ((show Xi T4 (276 + cl) 3 = Xi T1 (276 + cl) 3 from FR_cl w114 rfl (by omega)))
                have w179 : Xi T5 (276 + cl) 4 = Xi T1 (276 + cl) 4 := (show Xi T5 (276 + cl) 4 = Xi T4 (276 + cl) 4 from FR_cl w176 rfl (by omega)).trans ((show Xi T4 (276 + cl) 4 = Xi T1 (276 + cl) 4 from FR_cl w114 rfl (by omega)))
                have w180 : Xi T5 (276 + cl) 5 = Xi T1 (276 + cl) 5 := (show Xi T5 (276 + cl) 5 = Xi T4 (276 + cl) 5 from FR_cl w176 rfl (by omega)).trans ((show Xi T4 (276 + cl) 5 = Xi T1 (276 + cl) 5 from FR_cl w114 rfl (by omega)))
                have w181 : Xi T5 246 8 = Xi T4 246 8 := (show Xi T5 246 8 = Xi T4 246 8 from w176.x _ _ rfl)
                have w182 : 0 ≤ Xi T4 246 8 ∧ Xi T4 246 8 ≤ 1666 := hHT4.c _ _
                have w183 : Xi T5 876 7 = Xi T4 876 7 := (show Xi T5 876 7 = Xi T4 876 7 from w176.x _ _ rfl)
                have w184 : 0 ≤ Xi T4 876 7 ∧ Xi T4 876 7 ≤ 5125 := hHT4.c _ _
                have w185 : 0 ≤ Xi T5 876 8 ∧ Xi T5 876 8 ≤ 9 := hHT5.c _ _
                have w186 : Xi T5 895 4 = Xi T1 895 4 := (show Xi T5 895 4 = Xi T4 895 4 from w176.x _ _ rfl).trans ((show Xi T4 895 4 = Xi T1 895 4 from w114.x _ _ rfl))
                have w187 : -1 ≤ Xi T1 895 4 ∧ Xi T1 895 4 ≤ 15 := hHT1.c _ _
                exact ⟨hHT5, hFT5, _, rfl, ⟨by omega, by omega⟩, ((kcl_f w176 rfl (kcl_f w114 rfl hc59))), (fun q => by first | (exfalso; omega) | exact cl_7 (by omega) (w := Xi S 246 8) (by omega) (v := (Xi S 878 row.toNat + 1)) (by omega) (n := v4 - (Xi S 878 row.toNat + 1)) (by omega) (tx_mk (SRX_FR hFT5 rfl hS) (by omega) (by omega)) (ins_mk hx (hFT5 20 1 rfl).2.2 (fun j => (hFT5.smk (ks := [(902, 904)]) rfl).x ts (tp_kC htp) j) (by rw [show v6 - (Xi S 878 row.toNat + 1) = v4 - (Xi S 878 row.toNat + 1) by omega, show v5 = -1 by omega] at hn59; exact hn59) hi59 rfl)), (fun q => by first | (exfalso; omega) | exact hi59), (fun q => by first | (exfalso; omega) | exact hk59), (fun q => by first | (exfalso; omega) | exact hT59), (by omega), (fun q => by first | omega | (exfalso; omega))⟩
        · refine l_iload rfl rfl ?_
          refine l_iconst rfl ?_
          refine l_icmp_ne rfl rfl (by unfold rg; omega) (by unfold rg; omega) (fun w188 => ?_) (fun w189 => ?_)
          · refine l_aload_n rfl rfl ?_
            refine l_gfr rfl rfl rfl rfl rfl (hHT1.r 899 0 876 rfl) ?_
            refine l_bipush rfl rfl ?_
            refine l_iload_n rfl rfl ?_
            have w190 : 0 ≤ Xi T1 246 8 ∧ Xi T1 246 8 ≤ 1666 := hHT1.c _ _
            have w191 : 0 ≤ Xi T1 876 7 ∧ Xi T1 876 7 ≤ 5125 := hHT1.c _ _
            have w192 : -1 ≤ Xi T1 895 4 ∧ Xi T1 895 4 ≤ 15 := hHT1.c _ _
            refine l_callV rfl rfl rfl (t_to_wrong hHT1 8 row ⟨by omega, by omega⟩ ⟨by omega, by omega⟩ _) ?_
            rintro _ T6 ⟨hHT6, w196, z195, rfl, w195, w193, w194⟩
            have hFT6 : FR md_rr_sayText S T6 := FR.tr hFT1 w196 rfl
            show Rl _ _ _ _ _ [iv z195] _ _
            refine l_ireturn rfl (retI_z (by omega)) ?_
            have w197 : Xi T6 (276 + cl) 0 = Xi T1 (276 + cl) 0 := (show Xi T6 (276 + cl) 0 = Xi T1 (276 + cl) 0 from FR_cl w196 rfl (by omega))
            have w198 : Xi T6 (276 + cl) 3 = Xi T1 (276 + cl) 3 := (show Xi T6 (276 + cl) 3 = Xi T1 (276 + cl) 3 from FR_cl w196 rfl (by omega))
            have w199 : Xi T6 (276 + cl) 4 = Xi T1 (276 + cl) 4 := (show Xi T6 (276 + cl) 4 = Xi T1 (276 + cl) 4 from FR_cl w196 rfl (by omega))
            have w200 : Xi T6 (276 + cl) 5 = Xi T1 (276 + cl) 5 := (show Xi T6 (276 + cl) 5 = Xi T1 (276 + cl) 5 from FR_cl w196 rfl (by omega))
            have w201 : Xi T6 246 8 = Xi T1 246 8 := (show Xi T6 246 8 = Xi T1 246 8 from w196.x _ _ rfl)
            have w202 : 0 ≤ Xi T1 246 8 ∧ Xi T1 246 8 ≤ 1666 := hHT1.c _ _
            have w203 : Xi T6 876 7 = Xi T1 876 7 := (show Xi T6 876 7 = Xi T1 876 7 from w196.x _ _ rfl)
            have w204 : 0 ≤ Xi T1 876 7 ∧ Xi T1 876 7 ≤ 5125 := hHT1.c _ _
            have w205 : 0 ≤ Xi T6 876 8 ∧ Xi T6 876 8 ≤ 9 := hHT6.c _ _
            have w206 : Xi T6 895 4 = Xi T1 895 4 := (show Xi T6 895 4 = Xi T1 895 4 from w196.x _ _ rfl)
            have w207 : -1 ≤ Xi T1 895 4 ∧ Xi T1 895 4 ≤ 15 := hHT1.c _ _
            exact ⟨hHT6, hFT6, _, rfl, ⟨by omega, by omega⟩, ((kcl_f w196 rfl hc59)), (fun q => by first | (exfalso; omega) | exact cl_7 (by omega) (w := Xi S 246 8) (by omega) (v := (Xi S 878 row.toNat + 1)) (by omega) (n := v4 - (Xi S 878 row.toNat + 1)) (by omega) (tx_mk (SRX_FR hFT6 rfl hS) (by omega) (by omega)) (ins_mk hx (hFT6 20 1 rfl).2.2 (fun j => (hFT6.smk (ks := [(902, 904)]) rfl).x ts (tp_kC htp) j) (by rw [show v6 - (Xi S 878 row.toNat + 1) = v4 - (Xi S 878 row.toNat + 1) by omega, show v5 = -1 by omega] at hn59; exact hn59) hi59 rfl)), (fun q => by first | (exfalso; omega) | exact hi59), (fun q => by first | (exfalso; omega) | exact hk59), (fun q => by first | (exfalso; omega) | exact hT59), (by omega), (fun q => by first | omega | (exfalso; omega))⟩
          · refine l_iload rfl rfl ?_
            refine l_bipush rfl rfl ?_
            refine l_icmp_ne rfl rfl (by unfold rg; omega) (by unfold rg; omega) (fun w208 => ?_) (fun w209 => ?_)
            · refine l_iload rfl rfl ?_
              refine l_bipush rfl rfl ?_
              refine l_icmp_eq rfl rfl (by unfold rg; omega) (by unfold rg; omega) (fun w210 => ?_) (fun w211 => ?_)
              · refine l_iload rfl rfl ?_
                refine l_bipush rfl rfl ?_
                refine l_icmp_ne rfl rfl (by unfold rg; omega) (by unfold rg; omega) (fun w212 => ?_) (fun w213 => ?_)
                · refine l_iconst rfl ?_
                  refine l_istore rfl rfl rfl ?_
                  refine l_iinc rfl rfl rfl rfl ?_
                  refine l_goto rfl rfl ?_
                  have w214 : 0 ≤ Xi T1 246 8 ∧ Xi T1 246 8 ≤ 1666 := hHT1.c _ _
                  have w215 : 0 ≤ Xi T1 876 7 ∧ Xi T1 876 7 ≤ 5125 := hHT1.c _ _
                  have w216 : -1 ≤ Xi T1 895 4 ∧ Xi T1 895 4 ≤ 15 := hHT1.c _ _
                  exact Rl_weak (ih59 _ (by omega) T1 hHT1 hFT1 (v4) ((-1)) ((v6 + 1)) (by omega) (by omega) (by omega) (hc59) (by omega) (by omega) (by omega) (by omega) (by first | assumption | exact (by assumption : TOK T1)) (by omega) (by first | exact k111 | exact hk59 | exact k53) (by first | exact i111 | exact hi59 | exact i53) (by first | exact nb_0 (by omega) (by omega) | exact nb_s hn59 (by omega) (by omega) x75 (by omega)) rfl) (And.intro rfl (And.intro rfl (And.intro rfl (And.intro rfl (And.intro rfl (True.intro))))))
                · refine l_iload rfl rfl ?_
                  refine l_goto rfl rfl ?_
                  refine l_istore rfl rfl rfl ?_
                  refine l_iinc rfl rfl rfl rfl ?_
                  refine l_goto rfl rfl ?_
                  have w217 : 0 ≤ Xi T1 246 8 ∧ Xi T1 246 8 ≤ 1666 := hHT1.c _ _
                  have w218 : 0 ≤ Xi T1 876 7 ∧ Xi T1 876 7 ≤ 5125 := hHT1.c _ _
                  have w219 : -1 ≤ Xi T1 895 4 ∧ Xi T1 895 4 ≤ 15 := hHT1.c _ _
                  exact Rl_weak (ih59 _ (by omega) T1 hHT1 hFT1 (v4) (v6) ((v6 + 1)) (by omega) (by omega) (by omega) (hc59) (by omega) (by omega) (by omega) (by omega) (by first | assumption | exact (by assumption : TOK T1)) (by omega) (by first | exact k111 | exact hk59 | exact k53) (by first | exact i111 | exact hi59 | exact i53) (by first | exact nb_0 (by omega) (by omega) | exact nb_s hn59 (by omega) (by omega) x75 (by omega)) rfl) (And.intro rfl (And.intro rfl (And.intro rfl (And.intro rfl (And.intro rfl (True.intro))))))
              · refine l_iload rfl rfl ?_
                refine l_bipush rfl rfl ?_
                refine l_icmp_ne rfl rfl (by unfold rg; omega) (by unfold rg; omega) (fun w220 => ?_) (fun w221 => ?_)
                · refine l_iinc rfl rfl rfl rfl ?_
                  refine l_goto rfl rfl ?_
                  have w222 : 0 ≤ Xi T1 246 8 ∧ Xi T1 246 8 ≤ 1666 := hHT1.c _ _
                  have w223 : 0 ≤ Xi T1 876 7 ∧ Xi T1 876 7 ≤ 5125 := hHT1.c _ _
                  have w224 : -1 ≤ Xi T1 895 4 ∧ Xi T1 895 4 ≤ 15 := hHT1.c _ _
                  exact Rl_weak (ih59 _ (by omega) T1 hHT1 hFT1 (v4) (v5) ((v6 + 1)) (by omega) (by omega) (by omega) (hc59) (by omega) (by omega) (by omega) (by omega) (by first | assumption | exact (by assumption : TOK T1)) (by omega) (by first | exact k111 | exact hk59 | exact k53) (by first | exact i111 | exact hi59 | exact i53) (by first | exact nb_0 (by omega) (by omega) | exact nb_s hn59 (by omega) (by omega) x75 (by omega)) rfl) (And.intro rfl (And.intro rfl (And.intro rfl (And.intro rfl (And.intro rfl (True.intro))))))
                · refine l_iload rfl rfl ?_
                  refine l_bipush rfl rfl ?_
                  refine l_icmp_ne rfl rfl (by unfold rg; omega) (by unfold rg; omega) (fun w225 => ?_) (fun w226 => ?_)
                  · refine l_iconst rfl ?_
                    refine l_istore rfl rfl rfl ?_
                    refine l_iinc rfl rfl rfl rfl ?_
                    refine l_goto rfl rfl ?_
                    have w227 : 0 ≤ Xi T1 246 8 ∧ Xi T1 246 8 ≤ 1666 := hHT1.c _ _
                    have w228 : 0 ≤ Xi T1 876 7 ∧ Xi T1 876 7 ≤ 5125 := hHT1.c _ _
                    have w229 : -1 ≤ Xi T1 895 4 ∧ Xi T1 895 4 ≤ 15 := hHT1.c _ _
                    exact Rl_weak (ih59 _ (by omega) T1 hHT1 hFT1 (v4) ((-1)) ((v6 + 1)) (by omega) (by omega) (by omega) (hc59) (by omega) (by omega) (by omega) (by omega) (by first | assumption | exact (by assumption : TOK T1)) (by omega) (by first | exact k111 | exact hk59 | exact k53) (by first | exact i111 | exact hi59 | exact i53) (by first | exact nb_0 (by omega) (by omega) | exact nb_s hn59 (by omega) (by omega) x75 (by omega)) rfl) (And.intro rfl (And.intro rfl (And.intro rfl (And.intro rfl (And.intro rfl (True.intro))))))
                  · refine l_iload rfl rfl ?_
                    refine l_goto rfl rfl ?_
                    refine l_istore rfl rfl rfl ?_
                    refine l_iinc rfl rfl rfl rfl ?_
                    refine l_goto rfl rfl ?_
                    have w230 : 0 ≤ Xi T1 246 8 ∧ Xi T1 246 8 ≤ 1666 := hHT1.c _ _
                    have w231 : 0 ≤ Xi T1 876 7 ∧ Xi T1 876 7 ≤ 5125 := hHT1.c _ _
                    have w232 : -1 ≤ Xi T1 895 4 ∧ Xi T1 895 4 ≤ 15 := hHT1.c _ _
                    exact Rl_weak (ih59 _ (by omega) T1 hHT1 hFT1 (v4) (v6) ((v6 + 1)) (by omega) (by omega) (by omega) (hc59) (by omega) (by omega) (by omega) (by omega) (by first | assumption | exact (by assumption : TOK T1)) (by omega) (by first | exact k111 | exact hk59 | exact k53) (by first | exact i111 | exact hi59 | exact i53) (by first | exact nb_0 (by omega) (by omega) | exact nb_s hn59 (by omega) (by omega) x75 (by omega)) rfl) (And.intro rfl (And.intro rfl (And.intro rfl (And.intro rfl (And.intro rfl (True.intro))))))
            · refine l_iload rfl rfl ?_
              refine l_iconst rfl ?_
              refine l_icmp_eq rfl rfl (by unfold rg; omega) (by unfold rg; omega) (fun w233 => ?_) (fun w234 => ?_)
              · refine l_aload_n rfl rfl ?_
                refine l_gfr rfl rfl rfl rfl rfl (hHT1.r 899 0 876 rfl) ?_
                refine l_bipush rfl rfl ?_
                refine l_iload_n rfl rfl ?_
                have w235 : 0 ≤ Xi T1 246 8 ∧ Xi T1 246 8 ≤ 1666 := hHT1.c _ _
                have w236 : 0 ≤ Xi T1 876 7 ∧ Xi T1 876 7 ≤ 5125 := hHT1.c _ _
                have w237 : -1 ≤ Xi T1 895 4 ∧ Xi T1 895 4 ≤ 15 := hHT1.c _ _
                refine l_callV rfl rfl rfl (t_to_wrong hHT1 8 row ⟨by omega, by omega⟩ ⟨by omega, by omega⟩ _) ?_
                rintro _ T7 ⟨hHT7, w241, z240, rfl, w240, w238, w239⟩
                have hFT7 : FR md_rr_sayText S T7 := FR.tr hFT1 w241 rfl
                show Rl _ _ _ _ _ [iv z240] _ _
                refine l_ireturn rfl (retI_z (by omega)) ?_
                have w242 : Xi T7 (276 + cl) 0 = Xi T1 (276 + cl) 0 := (show Xi T7 (276 + cl) 0 = Xi T1 (276 + cl) 0 from FR_cl w241 rfl (by omega))
                have w243 : Xi T7 (276 + cl) 3 = Xi T1 (276 + cl) 3 := (show Xi T7 (276 + cl) 3 = Xi T1 (276 + cl) 3 from FR_cl w241 rfl (by omega))
                have w244 : Xi T7 (276 + cl) 4 = Xi T1 (276 + cl) 4 := (show Xi T7 (276 + cl) 4 = Xi T1 (276 + cl) 4 from FR_cl w241 rfl (by omega))
                have w245 : Xi T7 (276 + cl) 5 = Xi T1 (276 + cl) 5 := (show Xi T7 (276 + cl) 5 = Xi T1 (276 + cl) 5 from FR_cl w241 rfl (by omega))
                have w246 : Xi T7 246 8 = Xi T1 246 8 := (show Xi T7 246 8 = Xi T1 246 8 from w241.x _ _ rfl)
                have w247 : 0 ≤ Xi T1 246 8 ∧ Xi T1 246 8 ≤ 1666 := hHT1.c _ _
                have w248 : Xi T7 876 7 = Xi T1 876 7 := (show Xi T7 876 7 = Xi T1 876 7 from w241.x _ _ rfl)
                have w249 : 0 ≤ Xi T1 876 7 ∧ Xi T1 876 7 ≤ 5125 := hHT1.c _ _
                have w250 : 0 ≤ Xi T7 876 8 ∧ Xi T7 876 8 ≤ 9 := hHT7.c _ _
                have w251 : Xi T7 895 4 = Xi T1 895 4 := (show Xi T7 895 4 = Xi T1 895 4 from w241.x _ _ rfl)
                have w252 : -1 ≤ Xi T1 895 4 ∧ Xi T1 895 4 ≤ 15 := hHT1.c _ _
                exact ⟨hHT7, hFT7, _, rfl, ⟨by omega, by omega⟩, ((kcl_f w241 rfl hc59)), (fun q => by first | (exfalso; omega) | exact cl_7 (by omega) (w := Xi S 246 8) (by omega) (v := (Xi S 878 row.toNat + 1)) (by omega) (n := v4 - (Xi S 878 row.toNat + 1)) (by omega) (tx_mk (SRX_FR hFT7 rfl hS) (by omega) (by omega)) (ins_mk hx (hFT7 20 1 rfl).2.2 (fun j => (hFT7.smk (ks := [(902, 904)]) rfl).x ts (tp_kC htp) j) (by rw [show v6 - (Xi S 878 row.toNat + 1) = v4 - (Xi S 878 row.toNat + 1) by omega, show v5 = -1 by omega] at hn59; exact hn59) hi59 rfl)), (fun q => by first | (exfalso; omega) | exact hi59), (fun q => by first | (exfalso; omega) | exact hk59), (fun q => by first | (exfalso; omega) | exact hT59), (by omega), (fun q => by first | omega | (exfalso; omega))⟩
              · refine l_aload_n rfl rfl ?_
                refine l_iload rfl rfl ?_
                refine l_iconst rfl ?_
                refine l_iadd rfl ?_
                refine l_iload rfl rfl ?_
                have w253 : 0 ≤ Xi T1 246 8 ∧ Xi T1 246 8 ≤ 1666 := hHT1.c _ _
                have w254 : 0 ≤ Xi T1 876 6 ∧ Xi T1 876 6 ≤ 5002 := hHT1.c _ _
                have w255 : 0 ≤ Xi T1 876 7 ∧ Xi T1 876 7 ≤ 5125 := hHT1.c _ _
                have w256 : -1 ≤ Xi T1 895 4 ∧ Xi T1 895 4 ≤ 15 := hHT1.c _ _
                refine l_callV rfl rfl rfl (t_rr_insert hHT1 ts (v5 + 1) v6 ⟨by omega, by omega⟩ ⟨by omega, by omega⟩ ((hFT1 876 4 rfl).2.2.trans hts) htp (by first | assumption | exact (LEX_FR hFT1 rfl rfl (by assumption : LEX S))) (by assumption) (by first | assumption | omega) (by first | assumption | omega) _) ?_
                rintro _ T8 ⟨hHT8, w263, z262, rfl, w262, w257, w258, w259, w260, w261⟩
                have hFT8 : FR md_rr_sayText S T8 := FR.tr hFT1 w263 rfl
                show Rl _ _ _ _ _ [iv z262] _ _
                have i111 : IGR S T8 (0 ≤ Xi S 895 4) := IGR.tr hi59 (by assumption : IGR T1 T8 (0 ≤ Xi T1 895 4)) (fun x => by omega)
                have k111 : KTK S T8 (Xi S 876 6) := ktk_tr hk59 (by assumption : KTK T1 T8 (Xi T1 876 6)) (by omega)
                refine l_if_ne rfl rfl (by unfold rg; omega) (fun w264 => ?_) (fun w265 => ?_)
                · refine l_iload rfl rfl ?_
                  refine l_bipush rfl rfl ?_
                  refine l_icmp_eq rfl rfl (by unfold rg; omega) (by unfold rg; omega) (fun w266 => ?_) (fun w267 => ?_)
                  · refine l_iload rfl rfl ?_
                    refine l_bipush rfl rfl ?_
                    refine l_icmp_ne rfl rfl (by unfold rg; omega) (by unfold rg; omega) (fun w268 => ?_) (fun w269 => ?_)
                    · refine l_iconst rfl ?_
                      refine l_istore rfl rfl rfl ?_
                      refine l_iinc rfl rfl rfl rfl ?_
                      refine l_goto rfl rfl ?_
                      have w270 : Xi T8 (276 + cl) 0 = Xi T1 (276 + cl) 0 := (show Xi T8 (276 + cl) 0 = Xi T1 (276 + cl) 0 from FR_cl w263 rfl (by omega))
                      have w271 : Xi T8 (276 + cl) 3 = Xi T1 (276 + cl) 3 := (show Xi T8 (276 + cl) 3 = Xi T1 (276 + cl) 3 from FR_cl w263 rfl (by omega))
                      have w272 : Xi T8 (276 + cl) 4 = Xi T1 (276 + cl) 4 := (show Xi T8 (276 + cl) 4 = Xi T1 (276 + cl) 4 from FR_cl w263 rfl (by omega))
                      have w273 : Xi T8 (276 + cl) 5 = Xi T1 (276 + cl) 5 := (show Xi T8 (276 + cl) 5 = Xi T1 (276 + cl) 5 from FR_cl w263 rfl (by omega))
                      have w274 : 0 ≤ Xi T8 246 8 ∧ Xi T8 246 8 ≤ 1666 := hHT8.c _ _
                      have w275 : 0 ≤ Xi T8 876 7 ∧ Xi T8 876 7 ≤ 5125 := hHT8.c _ _
                      have w276 : Xi T8 895 4 = Xi T1 895 4 := (show Xi T8 895 4 = Xi T1 895 4 from w263.x _ _ rfl)
                      have w277 : -1 ≤ Xi T1 895 4 ∧ Xi T1 895 4 ≤ 15 := hHT1.c _ _
                      exact Rl_weak (ih59 _ (by omega) T8 hHT8 hFT8 (v4) ((-1)) ((v6 + 1)) (by omega) (by omega) (by omega) ((kcl_f w263 rfl hc59)) (by omega) (by omega) (by omega) (by omega) (by first | assumption | exact (by assumption : TOK T8)) (by omega) (by first | exact k111 | exact hk59 | exact k53) (by first | exact i111 | exact hi59 | exact i53) (by first | exact nb_0 (by omega) (by omega) | exact nb_s hn59 (by omega) (by omega) x75 (by omega)) rfl) (And.intro rfl (And.intro rfl (And.intro rfl (And.intro rfl (And.intro rfl (True.intro))))))
                    · refine l_iload rfl rfl ?_
                      refine l_goto rfl rfl ?_
                      refine l_istore rfl rfl rfl ?_
                      refine l_iinc rfl rfl rfl rfl ?_
                      refine l_goto rfl rfl ?_
                      have w278 : Xi T8 (276 + cl) 0 = Xi T1 (276 + cl) 0 := (show Xi T8 (276 + cl) 0 = Xi T1 (276 + cl) 0 from FR_cl w263 rfl (by omega))
                      have w279 : Xi T8 (276 + cl) 3 = Xi T1 (276 + cl) 3 := (show Xi T8 (276 + cl) 3 = Xi T1 (276 + cl) 3 from FR_cl w263 rfl (by omega))
                      have w280 : Xi T8 (276 + cl) 4 = Xi T1 (276 + cl) 4 := (show Xi T8 (276 + cl) 4 = Xi T1 (276 + cl) 4 from FR_cl w263 rfl (by omega))
                      have w281 : Xi T8 (276 + cl) 5 = Xi T1 (276 + cl) 5 := (show Xi T8 (276 + cl) 5 = Xi T1 (276 + cl) 5 from FR_cl w263 rfl (by omega))
                      have w282 : 0 ≤ Xi T8 246 8 ∧ Xi T8 246 8 ≤ 1666 := hHT8.c _ _
                      have w283 : 0 ≤ Xi T8 876 7 ∧ Xi T8 876 7 ≤ 5125 := hHT8.c _ _
                      have w284 : Xi T8 895 4 = Xi T1 895 4 := (show Xi T8 895 4 = Xi T1 895 4 from w263.x _ _ rfl)
                      have w285 : -1 ≤ Xi T1 895 4 ∧ Xi T1 895 4 ≤ 15 := hHT1.c _ _
                      exact Rl_weak (ih59 _ (by omega) T8 hHT8 hFT8 (v4) (v6) ((v6 + 1)) (by omega) (by omega) (by omega) ((kcl_f w263 rfl hc59)) (by omega) (by omega) (by omega) (by omega) (by first | assumption | exact (by assumption : TOK T8)) (by omega) (by first | exact k111 | exact hk59 | exact k53) (by first | exact i111 | exact hi59 | exact i53) (by first | exact nb_0 (by omega) (by omega) | exact nb_s hn59 (by omega) (by omega) x75 (by omega)) rfl) (And.intro rfl (And.intro rfl (And.intro rfl (And.intro rfl (And.intro rfl (True.intro))))))
                  · refine l_iload rfl rfl ?_
                    refine l_bipush rfl rfl ?_
                    refine l_icmp_ne rfl rfl (by unfold rg; omega) (by unfold rg; omega) (fun w286 => ?_) (fun w287 => ?_)
                    · refine l_iinc rfl rfl rfl rfl ?_
                      refine l_goto rfl rfl ?_
                      have w288 : Xi T8 (276 + cl) 0 = Xi T1 (276 + cl) 0 := (show Xi T8 (276 + cl) 0 = Xi T1 (276 + cl) 0 from FR_cl w263 rfl (by omega))
                      have w289 : Xi T8 (276 + cl) 3 = Xi T1 (276 + cl) 3 := (show Xi T8 (276 + cl) 3 = Xi T1 (276 + cl) 3 from FR_cl w263 rfl (by omega))
                      have w290 : Xi T8 (276 + cl) 4 = Xi T1 (276 + cl) 4 := (show Xi T8 (276 + cl) 4 = Xi T1 (276 + cl) 4 from FR_cl w263 rfl (by omega))
                      have w291 : Xi T8 (276 + cl) 5 = Xi T1 (276 + cl) 5 := (show Xi T8 (276 + cl) 5 = Xi T1 (276 + cl) 5 from FR_cl w263 rfl (by omega))
                      have w292 : 0 ≤ Xi T8 246 8 ∧ Xi T8 246 8 ≤ 1666 := hHT8.c _ _
                      have w293 : 0 ≤ Xi T8 876 7 ∧ Xi T8 876 7 ≤ 5125 := hHT8.c _ _
                      have w294 : Xi T8 895 4 = Xi T1 895 4 := (show Xi T8 895 4 = Xi T1 895 4 from w263.x _ _ rfl)
                      have w295 : -1 ≤ Xi T1 895 4 ∧ Xi T1 895 4 ≤ 15 := hHT1.c _ _
                      exact Rl_weak (ih59 _ (by omega) T8 hHT8 hFT8 (v4) (v5) ((v6 + 1)) (by omega) (by omega) (by omega) ((kcl_f w263 rfl hc59)) (by omega) (by omega) (by omega) (by omega) (by first | assumption | exact (by assumption : TOK T8)) (by omega) (by first | exact k111 | exact hk59 | exact k53) (by first | exact i111 | exact hi59 | exact i53) (by first | exact nb_0 (by omega) (by omega) | exact nb_s hn59 (by omega) (by omega) x75 (by omega)) rfl) (And.intro rfl (And.intro rfl (And.intro rfl (And.intro rfl (And.intro rfl (True.intro))))))
                    · refine l_iload rfl rfl ?_
                      refine l_bipush rfl rfl ?_
                      refine l_icmp_ne rfl rfl (by unfold rg; omega) (by unfold rg; omega) (fun w296 => ?_) (fun w297 => ?_)
                      · refine l_iconst rfl ?_
                        refine l_istore rfl rfl rfl ?_
                        refine l_iinc rfl rfl rfl rfl ?_
                        refine l_goto rfl rfl ?_
                        have w298 : Xi T8 (276 + cl) 0 = Xi T1 (276 + cl) 0 := (show Xi T8 (276 + cl) 0 = Xi T1 (276 + cl) 0 from FR_cl w263 rfl (by omega))
                        have w299 : Xi T8 (276 + cl) 3 = Xi T1 (276 + cl) 3 := (show Xi T8 (276 + cl) 3 = Xi T1 (276 + cl) 3 from FR_cl w263 rfl (by omega))
                        have w300 : Xi T8 (276 + cl) 4 = Xi T1 (276 + cl) 4 := (show Xi T8 (276 + cl) 4 = Xi T1 (276 + cl) 4 from FR_cl w263 rfl (by omega))
                        have w301 : Xi T8 (276 + cl) 5 = Xi T1 (276 + cl) 5 := (show Xi T8 (276 + cl) 5 = Xi T1 (276 + cl) 5 from FR_cl w263 rfl (by omega))
                        have w302 : 0 ≤ Xi T8 246 8 ∧ Xi T8 246 8 ≤ 1666 := hHT8.c _ _
                        have w303 : 0 ≤ Xi T8 876 7 ∧ Xi T8 876 7 ≤ 5125 := hHT8.c _ _
                        have w304 : Xi T8 895 4 = Xi T1 895 4 := (show Xi T8 895 4 = Xi T1 895 4 from w263.x _ _ rfl)
                        have w305 : -1 ≤ Xi T1 895 4 ∧ Xi T1 895 4 ≤ 15 := hHT1.c _ _
                        exact Rl_weak (ih59 _ (by omega) T8 hHT8 hFT8 (v4) ((-1)) ((v6 + 1)) (by omega) (by omega) (by omega) ((kcl_f w263 rfl hc59)) (by omega) (by omega) (by omega) (by omega) (by first | assumption | exact (by assumption : TOK T8)) (by omega) (by first | exact k111 | exact hk59 | exact k53) (by first | exact i111 | exact hi59 | exact i53) (by first | exact nb_0 (by omega) (by omega) | exact nb_s hn59 (by omega) (by omega) x75 (by omega)) rfl) (And.intro rfl (And.intro rfl (And.intro rfl (And.intro rfl (And.intro rfl (True.intro))))))
                      · refine l_iload rfl rfl ?_
                        refine l_goto rfl rfl ?_
                        refine l_istore rfl rfl rfl ?_
                        refine l_iinc rfl rfl rfl rfl ?_
                        refine l_goto rfl rfl ?_
                        have w306 : Xi T8 (276 + cl) 0 = Xi T1 (276 + cl) 0 := (show Xi T8 (276 + cl) 0 = Xi T1 (276 + cl) 0 from FR_cl w263 rfl (by omega))
                        have w307 : Xi T8 (276 + cl) 3 = Xi T1 (276 + cl) 3 := (show Xi T8 (276 + cl) 3 = Xi T1 (276 + cl) 3 from FR_cl w263 rfl (by omega))
                        have w308 : Xi T8 (276 + cl) 4 = Xi T1 (276 + cl) 4 := (show Xi T8 (276 + cl) 4 = Xi T1 (276 + cl) 4 from FR_cl w263 rfl (by omega))
                        have w309 : Xi T8 (276 + cl) 5 = Xi T1 (276 + cl) 5 := (show Xi T8 (276 + cl) 5 = Xi T1 (276 + cl) 5 from FR_cl w263 rfl (by omega))
                        have w310 : 0 ≤ Xi T8 246 8 ∧ Xi T8 246 8 ≤ 1666 := hHT8.c _ _
                        have w311 : 0 ≤ Xi T8 876 7 ∧ Xi T8 876 7 ≤ 5125 := hHT8.c _ _
                        have w312 : Xi T8 895 4 = Xi T1 895 4 := (show Xi T8 895 4 = Xi T1 895 4 from w263.x _ _ rfl)
                        have w313 : -1 ≤ Xi T1 895 4 ∧ Xi T1 895 4 ≤ 15 := hHT1.c _ _
                        exact Rl_weak (ih59 _ (by omega) T8 hHT8 hFT8 (v4) (v6) ((v6 + 1)) (by omega) (by omega) (by omega) ((kcl_f w263 rfl hc59)) (by omega) (by omega) (by omega) (by omega) (by first | assumption | exact (by assumption : TOK T8)) (by omega) (by first | exact k111 | exact hk59 | exact k53) (by first | exact i111 | exact hi59 | exact i53) (by first | exact nb_0 (by omega) (by omega) | exact nb_s hn59 (by omega) (by omega) x75 (by omega)) rfl) (And.intro rfl (And.intro rfl (And.intro rfl (And.intro rfl (And.intro rfl (True.intro))))))
                · refine l_aload_n rfl rfl ?_
                  refine l_gfr rfl rfl rfl rfl rfl (hHT8.r 899 0 876 rfl) ?_
                  refine l_bipush rfl rfl ?_
                  refine l_iload_n rfl rfl ?_
                  have w314 : Xi T8 (276 + cl) 0 = Xi T1 (276 + cl) 0 := (show Xi T8 (276 + cl) 0 = Xi T1 (276 + cl) 0 from FR_cl w263 rfl (by omega))
                  have w315 : Xi T8 (276 + cl) 3 = Xi T1 (276 + cl) 3 := (show Xi T8 (276 + cl) 3 = Xi T1 (276 + cl) 3 from FR_cl w263 rfl (by omega))
                  have w316 : Xi T8 (276 + cl) 4 = Xi T1 (276 + cl) 4 := (show Xi T8 (276 + cl) 4 = Xi T1 (276 + cl) 4 from FR_cl w263 rfl (by omega))
                  have w317 : Xi T8 (276 + cl) 5 = Xi T1 (276 + cl) 5 := (show Xi T8 (276 + cl) 5 = Xi T1 (276 + cl) 5 from FR_cl w263 rfl (by omega))
                  have w318 : 0 ≤ Xi T8 246 8 ∧ Xi T8 246 8 ≤ 1666 := hHT8.c _ _
                  have w319 : 0 ≤ Xi T8 876 7 ∧ Xi T8 876 7 ≤ 5125 := hHT8.c _ _
                  have w320 : Xi T8 895 4 = Xi T1 895 4 := (show Xi T8 895 4 = Xi T1 895 4 from w263.x _ _ rfl)
                  have w321 : -1 ≤ Xi T1 895 4 ∧ Xi T1 895 4 ≤ 15 := hHT1.c _ _
                  refine l_callV rfl rfl rfl (t_to_wrong hHT8 8 row ⟨by omega, by omega⟩ ⟨by omega, by omega⟩ _) ?_
                  rintro _ T9 ⟨hHT9, w325, z324, rfl, w324, w322, w323⟩
                  have hFT9 : FR md_rr_sayText S T9 := FR.tr hFT8 w325 rfl
                  show Rl _ _ _ _ _ [iv z324] _ _
                  refine l_ireturn rfl (retI_z (by omega)) ?_
                  have w326 : Xi T9 (276 + cl) 0 = Xi T1 (276 + cl) 0 := (show Xi T9 (276 + cl) 0 = Xi T8 (276 + cl) 0 from FR_cl w325 rfl (by omega)).trans ((show Xi T8 (276 + cl) 0 = Xi T1 (276 + cl) 0 from FR_cl w263 rfl (by omega)))
                  have w327 : Xi T9 (276 + cl) 3 = Xi T1 (276 + cl) 3 := (show Xi T9 (276 + cl) 3 = Xi T8 (276 + cl) 3 from FR_cl w325 rfl (by omega)).trans ((show Xi T8 (276 + cl) 3 = Xi T1 (276 + cl) 3 from FR_cl w263 rfl (by omega)))
                  have w328 : Xi T9 (276 + cl) 4 = Xi T1 (276 + cl) 4 := (show Xi T9 (276 + cl) 4 = Xi T8 (276 + cl) 4 from FR_cl w325 rfl (by omega)).trans ((show Xi T8 (276 + cl) 4 = Xi T1 (276 + cl) 4 from FR_cl w263 rfl (by omega)))
                  have w329 : Xi T9 (276 + cl) 5 = Xi T1 (276 + cl) 5 := (show Xi T9 (276 + cl) 5 = Xi T8 (276 + cl) 5 from FR_cl w325 rfl (by omega)).trans ((show Xi T8 (276 + cl) 5 = Xi T1 (276 + cl) 5 from FR_cl w263 rfl (by omega)))
                  have w330 : Xi T9 246 8 = Xi T8 246 8 := (show Xi T9 246 8 = Xi T8 246 8 from w325.x _ _ rfl)
                  have w331 : 0 ≤ Xi T8 246 8 ∧ Xi T8 246 8 ≤ 1666 := hHT8.c _ _
                  have w332 : Xi T9 876 7 = Xi T8 876 7 := (show Xi T9 876 7 = Xi T8 876 7 from w325.x _ _ rfl)
                  have w333 : 0 ≤ Xi T8 876 7 ∧ Xi T8 876 7 ≤ 5125 := hHT8.c _ _
                  have w334 : 0 ≤ Xi T9 876 8 ∧ Xi T9 876 8 ≤ 9 := hHT9.c _ _
                  have w335 : Xi T9 895 4 = Xi T1 895 4 := (show Xi T9 895 4 = Xi T8 895 4 from w325.x _ _ rfl).trans ((show Xi T8 895 4 = Xi T1 895 4 from w263.x _ _ rfl))
                  have w336 : -1 ≤ Xi T1 895 4 ∧ Xi T1 895 4 ≤ 15 := hHT1.c _ _
                  exact ⟨hHT9, hFT9, _, rfl, ⟨by omega, by omega⟩, ((kcl_f w325 rfl (kcl_f w263 rfl hc59))), (fun q => by first | (exfalso; omega) | exact cl_7 (by omega) (w := Xi S 246 8) (by omega) (v := (Xi S 878 row.toNat + 1)) (by omega) (n := v4 - (Xi S 878 row.toNat + 1)) (by omega) (tx_mk (SRX_FR hFT9 rfl hS) (by omega) (by omega)) (ins_mk hx (hFT9 20 1 rfl).2.2 (fun j => (hFT9.smk (ks := [(902, 904)]) rfl).x ts (tp_kC htp) j) (by rw [show v6 - (Xi S 878 row.toNat + 1) = v4 - (Xi S 878 row.toNat + 1) by omega, show v5 = -1 by omega] at hn59; exact hn59) hi59 rfl)), (fun q => by first | (exfalso; omega) | exact hi59), (fun q => by first | (exfalso; omega) | exact hk59), (fun q => by first | (exfalso; omega) | exact hT59), (by omega), (fun q => by first | omega | (exfalso; omega))⟩
  refine l_aload_n rfl rfl ?_
  refine l_gfr rfl rfl rfl rfl rfl (hH.r 899 0 876 rfl) ?_
  refine l_iload_n rfl rfl ?_
  have w337 : 0 ≤ Xi S 246 8 ∧ Xi S 246 8 ≤ 1666 := hH.c _ _
  have w338 : 0 ≤ Xi S 876 7 ∧ Xi S 876 7 ≤ 5125 := hH.c _ _
  have w339 : -1 ≤ Xi S 895 4 ∧ Xi S 895 4 ≤ 15 := hH.c _ _
  refine l_callV rfl rfl rfl (t_to_placeAt hH row ⟨by omega, by omega⟩ _) ?_
  rintro _ _ ⟨rfl, z341, rfl, w341, w340⟩
  show Rl _ _ _ _ _ [iv z341] _ _
  refine l_iconst rfl ?_
  refine l_iadd rfl ?_
  refine l_istore_n rfl rfl rfl ?_
  refine l_iload_n rfl rfl ?_
  refine l_aload_n rfl rfl ?_
  refine l_gfr rfl rfl rfl rfl rfl (hH.r 899 0 876 rfl) ?_
  refine l_iload_n rfl rfl ?_
  have w342 : 0 ≤ Xi S 246 8 ∧ Xi S 246 8 ≤ 1666 := hH.c _ _
  have w343 : 0 ≤ Xi S 876 7 ∧ Xi S 876 7 ≤ 5125 := hH.c _ _
  have w344 : -1 ≤ Xi S 895 4 ∧ Xi S 895 4 ≤ 15 := hH.c _ _
  refine l_callV rfl rfl rfl (t_to_valueAt hH row ⟨by omega, by omega⟩ _) ?_
  rintro _ _ ⟨rfl, z346, rfl, w346, w345⟩
  show Rl _ _ _ _ _ [iv z346, iv (z341 + 1)] _ _
  refine l_iadd rfl ?_
  refine l_istore rfl rfl rfl ?_
  refine l_iconst rfl ?_
  refine l_istore rfl rfl rfl ?_
  refine l_aload_n rfl rfl ?_
  refine l_bipush rfl rfl ?_
  refine l_pfi rfl rfl (layClW (by omega) rfl) rfl ?_
  obtain ⟨U10, eU10⟩ : ∃ T : sS, T = uI S (276 + cl) 0 (Int32.ofInt 7) := ⟨_, rfl⟩
  rw [← eU10]
  have hHU10 : HI U10 := by rw [eU10]; exact HI_w hH (by rw [lh_cl0 (by omega)]; omega) (by rw [lh_cl0 (by omega)]; omega)
  have hFU10 : FR md_rr_sayText S U10 := by rw [eU10]; exact FR.wI hF (mdf_i (r := (276, 876, 0, 1)) (List.mem_of_getElem? (i := 3) rfl) (inR_i (by omega) (by omega) (by omega) (by omega)))
  have w347 : Xi U10 (276 + cl) 0 = 7 := by rw [eU10]; exact Xi_same (by unfold rg; omega)
  have i29 : IGR S U10 (0 ≤ Xi S 895 4) := igr_cl eU10 (IGR.rf hH)
  have k29 : KTK S U10 (Xi S 876 6) := fun r hr => by rw [eU10, Xi_ne (by omega)]
  refine l_aload_n rfl rfl ?_
  refine l_aload_n rfl rfl ?_
  refine l_gfr rfl rfl rfl rfl rfl (hHU10.r 899 3 246 rfl) ?_
  refine l_gfi rfl rfl rfl rfl rfl ?_
  have w348 : (Xi U10 246 8) = (Xi S 246 8) := (show Xi U10 246 8 = Xi S 246 8 from by rw [eU10]; exact Xi_ne (by omega))
  rw [w348]
  refine l_pfi rfl rfl (layClW (by omega) rfl) rfl ?_
  obtain ⟨U11, eU11⟩ : ∃ T : sS, T = uI U10 (276 + cl) 3 (Int32.ofInt (Xi S 246 8)) := ⟨_, rfl⟩
  rw [← eU11]
  have hHU11 : HI U11 := by rw [eU11]; exact HI_w hHU10 (by rw [lh_cl3 (by omega)]; omega) (by rw [lh_cl3 (by omega)]; omega)
  have hFU11 : FR md_rr_sayText S U11 := by rw [eU11]; exact FR.wI hFU10 (mdf_i (r := (276, 876, 3, 4)) (List.mem_of_getElem? (i := 4) rfl) (inR_i (by omega) (by omega) (by omega) (by omega)))
  have w349 : Xi U11 (276 + cl) 3 = (Xi S 246 8) := by rw [eU11]; exact Xi_same (by unfold rg; omega)
  have i40 : IGR S U11 (0 ≤ Xi S 895 4) := igr_cl eU11 i29
  have k40 : KTK S U11 (Xi S 876 6) := fun r hr => by rw [eU11, Xi_ne (by omega)]; exact k29 r hr
  refine l_aload_n rfl rfl ?_
  refine l_iload_n rfl rfl ?_
  refine l_pfi rfl rfl (layClW (by omega) rfl) rfl ?_
  obtain ⟨U12, eU12⟩ : ∃ T : sS, T = uI U11 (276 + cl) 4 (Int32.ofInt (z341 + 1)) := ⟨_, rfl⟩
  rw [← eU12]
  have hHU12 : HI U12 := by rw [eU12]; exact HI_any hHU11 (lh_cl4 (by omega))
  have hFU12 : FR md_rr_sayText S U12 := by rw [eU12]; exact FR.wI hFU11 (mdf_i (r := (276, 876, 4, 5)) (List.mem_of_getElem? (i := 5) rfl) (inR_i (by omega) (by omega) (by omega) (by omega)))
  have w350 : Xi U12 (276 + cl) 4 = (z341 + 1) := by rw [eU12]; exact Xi_same (by unfold rg; omega)
  have i45 : IGR S U12 (0 ≤ Xi S 895 4) := igr_cl eU12 i40
  have k45 : KTK S U12 (Xi S 876 6) := fun r hr => by rw [eU12, Xi_ne (by omega)]; exact k40 r hr
  refine l_aload_n rfl rfl ?_
  refine l_iload rfl rfl ?_
  refine l_iload_n rfl rfl ?_
  refine l_isub rfl ?_
  refine l_pfi rfl rfl (layClW (by omega) rfl) rfl ?_
  obtain ⟨U13, eU13⟩ : ∃ T : sS, T = uI U12 (276 + cl) 5 (Int32.ofInt (((z341 + 1) + z346) - (z341 + 1))) := ⟨_, rfl⟩
  rw [← eU13]
  have hHU13 : HI U13 := by rw [eU13]; exact HI_any hHU12 (lh_cl5 (by omega))
  have hFU13 : FR md_rr_sayText S U13 := by rw [eU13]; exact FR.wI hFU12 (mdf_i (r := (276, 876, 5, 6)) (List.mem_of_getElem? (i := 6) rfl) (inR_i (by omega) (by omega) (by omega) (by omega)))
  have w351 : Xi U13 (276 + cl) 5 = (((z341 + 1) + z346) - (z341 + 1)) := by rw [eU13]; exact Xi_same (by unfold rg; omega)
  have i53 : IGR S U13 (0 ≤ Xi S 895 4) := igr_cl eU13 i45
  have k53 : KTK S U13 (Xi S 876 6) := fun r hr => by rw [eU13, Xi_ne (by omega)]; exact k45 r hr
  refine l_iload_n rfl rfl ?_
  refine l_istore rfl rfl rfl ?_
  have w352 : Xi U13 (276 + cl) 0 = Xi U10 (276 + cl) 0 := (show Xi U13 (276 + cl) 0 = Xi U12 (276 + cl) 0 from by rw [eU13]; exact Xi_ne (by omega)).trans ( (show Xi U12 (276 + cl) 0 = Xi U11 (276 + cl) 0 from by rw [eU12]; exact Xi_ne (by omega)).trans ((show Xi U11 (276 + cl) 0 = Xi U10 (276 + cl) 0 from by rw [eU11]; exact Xi_ne (by omega))))
  have w353 : Xi U13 (276 + cl) 3 = Xi U11 (276 + cl) 3 := (show Xi U13 (276 + cl) 3 = Xi U12 (276 + cl) 3 from by rw [eU13]; exact Xi_ne (by omega)).trans ((show Xi U12 (276 + cl) 3 = Xi U11 (276 + cl) 3 from by rw [eU12]; exact Xi_ne (by omega)))
  have w354 : Xi U13 (276 + cl) 4 = Xi U12 (276 + cl) 4 := (show Xi U13 (276 + cl) 4 = Xi U12 (276 + cl) 4 from by rw [eU13]; exact Xi_ne (by omega))
  have w355 : Xi U13 246 8 = Xi S 246 8 := (show Xi U13 246 8 = Xi U12 246 8 from by rw [eU13]; exact Xi_ne (by omega)).trans ( (show Xi U12 246 8 = Xi U11 246 8 from by rw [eU12]; exact Xi_ne (by omega)).trans ( (show Xi U11 246 8 = Xi U10 246 8 from by rw [eU11]; exact Xi_ne (by omega)).trans ((show Xi U10 246 8 = Xi S 246 8 from by rw [eU10]; exact Xi_ne (by omega)))))
  have w356 : 0 ≤ Xi S 246 8 ∧ Xi S 246 8 ≤ 1666 := hH.c _ _
  have w357 : Xi U13 876 7 = Xi S 876 7 := (show Xi U13 876 7 = Xi U12 876 7 from by rw [eU13]; exact Xi_ne (by omega)).trans ( (show Xi U12 876 7 = Xi U11 876 7 from by rw [eU12]; exact Xi_ne (by omega)).trans ( (show Xi U11 876 7 = Xi U10 876 7 from by rw [eU11]; exact Xi_ne (by omega)).trans ((show Xi U10 876 7 = Xi S 876 7 from by rw [eU10]; exact Xi_ne (by omega)))))
  have w358 : 0 ≤ Xi S 876 7 ∧ Xi S 876 7 ≤ 5125 := hH.c _ _
  have w359 : Xi U13 895 4 = Xi S 895 4 := (show Xi U13 895 4 = Xi U12 895 4 from by rw [eU13]; exact Xi_ne (by omega)).trans ( (show Xi U12 895 4 = Xi U11 895 4 from by rw [eU12]; exact Xi_ne (by omega)).trans ( (show Xi U11 895 4 = Xi U10 895 4 from by rw [eU11]; exact Xi_ne (by omega)).trans ((show Xi U10 895 4 = Xi S 895 4 from by rw [eU10]; exact Xi_ne (by omega)))))
  have w360 : -1 ≤ Xi S 895 4 ∧ Xi S 895 4 ≤ 15 := hH.c _ _
  exact Rl_weak (C59 _ U13 hHU13 hFU13 (((z341 + 1) + z346)) ((-1)) ((z341 + 1)) (by omega) (by omega) (by omega) ((kcl_w eU13 (kcl_w eU12 (kcl_w eU11 (kcl_w eU10 KCL.rf))))) (by omega) (by omega) (by omega) (by omega) (by first | assumption | exact (TOK_FR (FR_e eU13) rfl rfl rfl (TOK_FR (FR_e eU12) rfl rfl rfl (TOK_FR (FR_e eU11) rfl rfl rfl (TOK_FR (FR_e eU10) rfl rfl rfl (by assumption : TOK S)))))) (by omega) (by first | exact k111 | exact hk59 | exact k53) (by first | exact i111 | exact hi59 | exact i53) (by first | exact nb_0 (by omega) (by omega) | exact nb_s hn59 (by omega) (by omega) x75 (by omega)) rfl) (And.intro rfl (And.intro rfl (And.intro rfl (And.intro rfl (And.intro rfl (True.intro))))))
theorem tok_ru {S U : sS} {r j : Nat} {v : Int32} (e : U = uI S (248 + r) j v) (hr : r < 24) (h : TOK S) : TOK U := fun i hi => by
  rw [e, Xi_ne (by omega)] at hi
  have t := h i hi
  have x7 : Xi U 877 i = Xi S 877 i := by rw [e, Xi_ne (by omega)]
  have x8 : Xi U 878 i = Xi S 878 i := by rw [e, Xi_ne (by omega)]
  have x5 : Xi U 876 5 = Xi S 876 5 := by rw [e, Xi_ne (by omega)]
  have x9 : Xj U 879 i = Xj S 879 i := by rw [e]; rfl
  rw [← e, x7, x8, x5, x9]
  exact t
def md_rr_rulePhrases : List rec := [(246, 247, 2, 3), (246, 247, 5, 6), (246, 247, 8, 9), (248, 272, 0, 100000), (274, 275, 0, 100000), (275, 276, 0, 100000), (276, 876, 0, 1), (276, 876, 1, 2), (276, 876, 2, 3), (276, 876, 3, 4), (276, 876, 4, 5), (276, 876, 5, 6), (276, 876, 6, 7), (876, 877, 7, 8), (876, 877, 8, 9), (876, 877, 9, 10), (877, 878, 0, 100000), (878, 879, 0, 100000), (879, 880, 0, 100000), (895, 896, 5, 6), (895, 896, 6, 7), (895, 896, 7, 8), (895, 896, 8, 9), (895, 896, 9, 10), (895, 896, 10, 11), (895, 896, 11, 12)]
abbrev Q_rr_rulePhrases (S : sS) (ru : Nat) (ts : Nat) : pst := fun r S1 => HI S1 ∧ FR md_rr_rulePhrases S S1 ∧ (∃ z : Int, r = some (iv z) ∧ (0 ≤ z ∧ z ≤ 1) ∧ (z = 1 → sG S S1) ∧ (z = 1 → KRU S S1 ru) ∧ (z = 1 → Xi S1 246 2 = Xi S 246 2 + 1 ∧ Xi S1 246 5 ≤ Xi S 246 5 + 8) ∧ (z = 1 → RUL1 S1 ru) ∧ (z = 0 → Xi S1 876 8 ≠ 0))
set_option maxRecDepth 100000 in
theorem t_rr_rulePhrases {S : sS} (hH : HI S) (ru : Nat) (ts : Nat) (hts : S.2.2 876 4 = some ts) (htp : tp ts) (hru : S.2.2 899 4 = some (248 + ru)) (hrk : ru < 24) (hL : LEX S) (hT : TOK S) (hS : SRX S) (hx : ts = txr S) (hcr : Xi S 876 6 = Xi S 876 7) (hY : SAY S (Xi S 876 6)) (hdot : Xi S 877 (Xi S 876 6 - 1).toNat = 103) (hd1 : 1 ≤ Xi S 876 6) (hn : Xi S 246 5 + 8 ≤ 600) (hb : RB S ru (Xi S (248 + ru) 7) (Xi S 899 6) 0) (h6 : Xi S (248 + ru) 6 = 0) (hr : (ru : Int) = Xi S 246 2) (d : Nat) : Mt lay0 (d + 6) m_rr_rulePhrases [.ref 899] S (Q_rr_rulePhrases S ru ts) := by
  refine Mt_R rfl rfl ?_
  have hF : FR md_rr_rulePhrases S S := FR.rf
  have w1 : 0 ≤ Xi S 246 2 ∧ Xi S 246 2 ≤ 24 := hH.c _ _
  have w2 : 0 ≤ Xi S 246 5 ∧ Xi S 246 5 ≤ 200000 := hH.c _ _
  have w3 : 0 ≤ Xi S 876 6 ∧ Xi S 876 6 ≤ 5002 := hH.c _ _
  have w4 : 0 ≤ Xi S 876 7 ∧ Xi S 876 7 ≤ 5125 := hH.c _ _
  have w5 : 0 ≤ Xi S 899 6 ∧ Xi S 899 6 ≤ 6 := hH.c _ _
  have C11 : ∀ (n11 : Nat) (T1 : sS) (_ : HI T1) (_ : FR md_rr_rulePhrases S T1) (v1 : Int) (v2 : Int) (v3 : Int), (0 ≤ v1 ∧ v1 ≤ 5141) → (0 ≤ v2 ∧ v2 ≤ 1) → (0 ≤ v3 ∧ v3 ≤ 8) → (sG S T1) → (KRU S T1 ru) → (RB T1 ru (Xi S (248 + ru) 7) (Xi S 899 6) v3) → (Xi T1 (248 + ru) 6 = v3) → (Xi T1 246 5 = Xi S 246 5 + v3) → (TOK T1) → (Xi S 876 6 ≤ Xi T1 876 7) → (KTK S T1 (Xi S 876 6)) → (v2 = 1 → 0 ≤ v1) → (v2 = 1 → Xi S 876 6 ≤ v1 → Xi T1 876 7 = Xi S 876 6) → n11 = (9 - v3).toNat → Rl lay0 (d + 5) m_rr_rulePhrases 11 [(0, .ref 899), (1, iv v1), (2, iv v2), (3, iv v3)] [] T1 (Q_rr_rulePhrases S ru ts) := by
    intro n11
    induction n11 using Nat.strongRecOn with
    | ind n11 ih11 =>
      intro T1 hHT1 hFT1 v1 v2 v3 w6 w7 w8 hg11 hq11 hb11 w9 w10 hT11 w11 hk11 w12 w13 hm11
      have w14 : Xi T1 876 6 = Xi S 876 6 := hFT1.x _ _ rfl
      have w15 : Xi T1 895 4 = Xi S 895 4 := hFT1.x _ _ rfl
      have w16 : Xi T1 899 6 = Xi S 899 6 := hFT1.x _ _ rfl
      have w17 : 0 ≤ Xi T1 246 5 ∧ Xi T1 246 5 ≤ 200000 := hHT1.c _ _
      have w18 : 0 ≤ Xi T1 876 7 ∧ Xi T1 876 7 ≤ 5125 := hHT1.c _ _
      refine l_iload_n rfl rfl ?_
      refine l_if_eq rfl rfl (by unfold rg; omega) (fun w19 => ?_) (fun w20 => ?_)
      · refine l_aload_n rfl rfl ?_
        refine l_gfr rfl rfl rfl rfl rfl ((hFT1 899 4 rfl).2.2.trans hru) ?_
        refine l_iconst rfl ?_
        refine l_aload_n rfl rfl ?_
        refine l_gfi rfl rfl rfl rfl rfl ?_
        refine l_iastore (n := 8) rfl (lay_248 (by omega)) (by omega) (by omega) (by unfold rg; omega) ?_
        obtain ⟨U2, eU2⟩ : ∃ T : sS, T = uI T1 (248 + ru) ((5 : Int).toNat) (Int32.ofInt (Xi T1 899 6)) := ⟨_, rfl⟩
        rw [← eU2]
        have hHU2 : HI U2 := by rw [eU2]; exact HI_w hHT1 (by rw [lh_ru5 (by omega)]; omega) (by rw [lh_ru5 (by omega)]; omega)
        have hFU2 : FR md_rr_rulePhrases S U2 := by rw [eU2]; exact FR.wI hFT1 (mdf_i (r := (248, 272, 0, 100000)) (List.mem_of_getElem? (i := 3) rfl) (inR_i (by omega) (by omega) (by omega) (by omega)))
        have w22 : Xi U2 (248 + ru) ((5 : Int).toNat) = (Xi T1 899 6) := by rw [eU2]; exact Xi_same (by unfold rg; omega)
        have rU2_1 : Xi U2 (248 + ru) 1 = Xi T1 (248 + ru) 1 := by rw [eU2, Xi_ne (by omega)]
        have rU2_2 : Xi U2 (248 + ru) 2 = Xi T1 (248 + ru) 2 := by rw [eU2, Xi_ne (by omega)]
        have rU2_3 : Xi U2 (248 + ru) 3 = Xi T1 (248 + ru) 3 := by rw [eU2, Xi_ne (by omega)]
        have rU2_4 : Xi U2 (248 + ru) 4 = Xi T1 (248 + ru) 4 := by rw [eU2, Xi_ne (by omega)]
        have rU2_5 : Xi U2 (248 + ru) 5 = (Xi T1 899 6) := by rw [eU2]; exact Xi_same (by unfold rg; omega)
        have rU2_6 : Xi U2 (248 + ru) 6 = Xi T1 (248 + ru) 6 := by rw [eU2, Xi_ne (by omega)]
        have rU2_7 : Xi U2 (248 + ru) 7 = Xi T1 (248 + ru) 7 := by rw [eU2, Xi_ne (by omega)]
        have g181 : sG T1 U2 := sG_ru hHT1 eU2 hrk
        refine l_aload_n rfl rfl ?_
        refine l_gfr rfl rfl rfl rfl rfl (hHU2.r 899 3 246 rfl) ?_
        refine l_dup rfl rfl ?_
        refine l_gfi rfl rfl rfl rfl rfl ?_
        have w23 : 0 ≤ (Xi U2 246 2) ∧ (Xi U2 246 2) ≤ 24 := hHU2.c _ _
        refine l_iconst rfl ?_
        refine l_iadd rfl ?_
        refine l_pfi rfl rfl rfl rfl ?_
        obtain ⟨U3, eU3⟩ : ∃ T : sS, T = uI U2 246 2 (Int32.ofInt ((Xi U2 246 2) + 1)) := ⟨_, rfl⟩
        rw [← eU3]
        have hHU3 : HI U3 := by rw [eU3]; exact HI_w hHU2 (show 0 ≤ ((Xi U2 246 2) + 1) by omega) (show ((Xi U2 246 2) + 1) ≤ 24 by omega)
        have hFU3 : FR md_rr_rulePhrases S U3 := by rw [eU3]; exact FR.wI hFU2 (mdf_i (r := (246, 247, 2, 3)) (List.mem_of_getElem? (i := 0) rfl) (inR_i (by omega) (by omega) (by omega) (by omega)))
        have w24 : Xi U3 246 2 = ((Xi U2 246 2) + 1) := by rw [eU3]; exact Xi_same (by unfold rg; omega)
        have rU3_1 : Xi U3 (248 + ru) 1 = Xi U2 (248 + ru) 1 := by rw [eU3, Xi_ne (by omega)]
        have rU3_2 : Xi U3 (248 + ru) 2 = Xi U2 (248 + ru) 2 := by rw [eU3, Xi_ne (by omega)]
        have rU3_3 : Xi U3 (248 + ru) 3 = Xi U2 (248 + ru) 3 := by rw [eU3, Xi_ne (by omega)]
        have rU3_4 : Xi U3 (248 + ru) 4 = Xi U2 (248 + ru) 4 := by rw [eU3, Xi_ne (by omega)]
        have rU3_5 : Xi U3 (248 + ru) 5 = Xi U2 (248 + ru) 5 := by rw [eU3, Xi_ne (by omega)]
        have rU3_6 : Xi U3 (248 + ru) 6 = Xi U2 (248 + ru) 6 := by rw [eU3, Xi_ne (by omega)]
        have rU3_7 : Xi U3 (248 + ru) 7 = Xi U2 (248 + ru) 7 := by rw [eU3, Xi_ne (by omega)]
        have g192 : sG U2 U3 := FR_sG hHU2 (FR_e eU3) rfl (by rw [((FR_e eU3).x 5 3 rfl)]; exact Int.le_refl _) (by rw [((FR_e eU3).x 5 8 rfl)]; exact Int.le_refl _)
        refine l_iconst rfl ?_
        refine l_ireturn rfl rfl ?_
        have w25 : 0 ≤ Xi U3 246 2 ∧ Xi U3 246 2 ≤ 24 := hHU3.c _ _
        have w26 : Xi U3 246 5 = Xi T1 246 5 := (show Xi U3 246 5 = Xi U2 246 5 from by rw [eU3]; exact Xi_ne (by omega)).trans ((show Xi U2 246 5 = Xi T1 246 5 from by rw [eU2]; exact Xi_ne (by omega)))
        have w27 : 0 ≤ Xi T1 246 5 ∧ Xi T1 246 5 ≤ 200000 := hHT1.c _ _
        have w28 : Xi U3 876 6 = Xi T1 876 6 := (show Xi U3 876 6 = Xi U2 876 6 from by rw [eU3]; exact Xi_ne (by omega)).trans ((show Xi U2 876 6 = Xi T1 876 6 from by rw [eU2]; exact Xi_ne (by omega)))
        have w29 : 0 ≤ Xi T1 876 6 ∧ Xi T1 876 6 ≤ 5002 := hHT1.c _ _
        have w30 : Xi U3 876 7 = Xi T1 876 7 := (show Xi U3 876 7 = Xi U2 876 7 from by rw [eU3]; exact Xi_ne (by omega)).trans ((show Xi U2 876 7 = Xi T1 876 7 from by rw [eU2]; exact Xi_ne (by omega)))
        have w31 : 0 ≤ Xi T1 876 7 ∧ Xi T1 876 7 ≤ 5125 := hHT1.c _ _
        have w32 : Xi U3 876 8 = Xi T1 876 8 := (show Xi U3 876 8 = Xi U2 876 8 from by rw [eU3]; exact Xi_ne (by omega)).trans ((show Xi U2 876 8 = Xi T1 876 8 from by rw [eU2]; exact Xi_ne (by omega)))
        have w33 : 0 ≤ Xi T1 876 8 ∧ Xi T1 876 8 ≤ 9 := hHT1.c _ _
        have w34 : Xi U3 895 4 = Xi T1 895 4 := (show Xi U3 895 4 = Xi U2 895 4 from by rw [eU3]; exact Xi_ne (by omega)).trans ((show Xi U2 895 4 = Xi T1 895 4 from by rw [eU2]; exact Xi_ne (by omega)))
        have w35 : -1 ≤ Xi T1 895 4 ∧ Xi T1 895 4 ≤ 15 := hHT1.c _ _
        have w36 : Xi U3 899 6 = Xi T1 899 6 := (show Xi U3 899 6 = Xi U2 899 6 from by rw [eU3]; exact Xi_ne (by omega)).trans ((show Xi U2 899 6 = Xi T1 899 6 from by rw [eU2]; exact Xi_ne (by omega)))
        have w37 : 0 ≤ Xi T1 899 6 ∧ Xi T1 899 6 ≤ 6 := hHT1.c _ _
        exact ⟨hHU3, hFU3, _, rfl, ⟨by omega, by omega⟩, (fun q => by first | (exfalso; omega) | exact sG.tr hg11 (sG.tr g181 g192)), (fun q => (kru_o eU3 (by omega) (kru_w eU2 hq11))), (by omega), (fun q => by first | (exfalso; omega) | exact RB_e hHT1 hrk (sG.tr g181 g192) (by omega) (by omega) (by omega) (by omega) (by omega) (by omega) (by omega) (by omega) (by omega) (by omega) hb11), (fun q => by first | omega | (exfalso; omega))⟩
      · refine l_iload_n rfl rfl ?_
        refine l_bipush rfl rfl ?_
        refine l_icmp_ne rfl rfl (by unfold rg; omega) (by unfold rg; omega) (fun w38 => ?_) (fun w39 => ?_)
        · refine l_aload_n rfl rfl ?_
          refine l_gfr rfl rfl rfl rfl rfl (hHT1.r 899 0 876 rfl) ?_
          refine l_iload_n rfl rfl ?_
          have w40 : 0 ≤ Xi T1 246 5 ∧ Xi T1 246 5 ≤ 200000 := hHT1.c _ _
          have w41 : 0 ≤ Xi T1 876 6 ∧ Xi T1 876 6 ≤ 5002 := hHT1.c _ _
          have w42 : 0 ≤ Xi T1 876 7 ∧ Xi T1 876 7 ≤ 5125 := hHT1.c _ _
          have w43 : -1 ≤ Xi T1 895 4 ∧ Xi T1 895 4 ≤ 15 := hHT1.c _ _
          have w44 : 0 ≤ Xi T1 899 6 ∧ Xi T1 899 6 ≤ 6 := hHT1.c _ _
          refine l_callV rfl rfl rfl (t_to_typeAt hHT1 v1 ⟨by omega, by omega⟩ _) ?_
          rintro _ _ ⟨rfl, z48, rfl, w48, w45, w46, w47⟩
          clear w46 w47
          show Rl _ _ _ _ _ [iv z48] _ _
          have s37 : z48 = 43 → v1 + 1 < Xi S 876 6 ∧ Xi T1 877 (v1 + 1).toNat = 102 := fun q => say_at (say_k hY hk11) (by omega) (by omega) (x := z48) (by omega) q
          refine l_istore rfl rfl rfl ?_
          refine l_aload_n rfl rfl ?_
          refine l_gfr rfl rfl rfl rfl rfl (hHT1.r 899 0 876 rfl) ?_
          refine l_iload_n rfl rfl ?_
          refine l_iconst rfl ?_
          have w49 : 0 ≤ Xi T1 246 5 ∧ Xi T1 246 5 ≤ 200000 := hHT1.c _ _
          have w50 : 0 ≤ Xi T1 876 6 ∧ Xi T1 876 6 ≤ 5002 := hHT1.c _ _
          have w51 : 0 ≤ Xi T1 876 7 ∧ Xi T1 876 7 ≤ 5125 := hHT1.c _ _
          have w52 : -1 ≤ Xi T1 895 4 ∧ Xi T1 895 4 ≤ 15 := hHT1.c _ _
          have w53 : 0 ≤ Xi T1 899 6 ∧ Xi T1 899 6 ≤ 6 := hHT1.c _ _
          refine l_callV rfl rfl rfl (t_to_testEnd__2 hHT1 v1 1 ⟨by omega, by omega⟩ ⟨by omega, by omega⟩ _) ?_
          rintro _ _ ⟨rfl, z58, rfl, w58, w54, w55, w56, w57⟩
          show Rl _ _ _ _ _ [iv z58] _ _
          have g48 : Xi T1 877 (Xi S 876 6 - 1).toNat = 103 := by rw [hk11 _ (by omega)]; exact hdot
          have d48 : v1 < Xi S 876 6 → z58 ≤ Xi S 876 6 - 1 := fun q => by have t := (by assumption : ∀ r : Nat, v1 ≤ r → (r : Int) < Xi T1 876 7 → Xi T1 877 r = 103 → z58 ≤ r) (Xi S 876 6 - 1).toNat (by omega) (by omega) g48; omega
          refine l_istore rfl rfl rfl ?_
          refine l_aload_n rfl rfl ?_
          refine l_gfr rfl rfl rfl rfl rfl (hHT1.r 899 3 246 rfl) ?_
          refine l_bipush rfl rfl ?_
          have w59 : 0 ≤ Xi T1 246 5 ∧ Xi T1 246 5 ≤ 200000 := hHT1.c _ _
          have w60 : 0 ≤ Xi T1 876 6 ∧ Xi T1 876 6 ≤ 5002 := hHT1.c _ _
          have w61 : 0 ≤ Xi T1 876 7 ∧ Xi T1 876 7 ≤ 5125 := hHT1.c _ _
          have w62 : -1 ≤ Xi T1 895 4 ∧ Xi T1 895 4 ≤ 15 := hHT1.c _ _
          have w63 : 0 ≤ Xi T1 899 6 ∧ Xi T1 899 6 ≤ 6 := hHT1.c _ _
          refine l_callV rfl rfl rfl (t_bo_nextClause__2 hHT1 11 ⟨by omega, by omega⟩ (by first | assumption | omega) _) ?_
          rintro _ T4 ⟨hHT4, w69, z68, rfl, w68, w64, w65, w66, w67⟩
          have hFT4 : FR md_rr_rulePhrases S T4 := FR.tr hFT1 w69 rfl
          show Rl _ _ _ _ _ [.ref (276 + z68)] _ _
          have rT4_1 : Xi T4 (248 + ru) 1 = Xi T1 (248 + ru) 1 := FR_ru w69 rfl (by omega)
          have rT4_2 : Xi T4 (248 + ru) 2 = Xi T1 (248 + ru) 2 := FR_ru w69 rfl (by omega)
          have rT4_3 : Xi T4 (248 + ru) 3 = Xi T1 (248 + ru) 3 := FR_ru w69 rfl (by omega)
          have rT4_4 : Xi T4 (248 + ru) 4 = Xi T1 (248 + ru) 4 := FR_ru w69 rfl (by omega)
          have rT4_5 : Xi T4 (248 + ru) 5 = Xi T1 (248 + ru) 5 := FR_ru w69 rfl (by omega)
          have rT4_6 : Xi T4 (248 + ru) 6 = Xi T1 (248 + ru) 6 := FR_ru w69 rfl (by omega)
          have rT4_7 : Xi T4 (248 + ru) 7 = Xi T1 (248 + ru) 7 := FR_ru w69 rfl (by omega)
          have i59 : IGR T1 T4 (0 ≤ Xi S 895 4) := igr_f (by assumption : FR md_bo_nextClause__2 T1 T4) rfl (IGR.rf hHT1)
          have k59 : KTK S T4 (Xi S 876 6) := ktk_f (by assumption : FR md_bo_nextClause__2 T1 T4) rfl hk11
          have t59 : TOK T4 := TOK_FR (by assumption : FR md_bo_nextClause__2 T1 T4) rfl rfl rfl hT11
          have x59 : Xi T4 876 7 = Xi T1 876 7 := (by assumption : FR md_bo_nextClause__2 T1 T4).x 876 7 rfl
          have y59 : Xi T4 876 6 = Xi T1 876 6 := (by assumption : FR md_bo_nextClause__2 T1 T4).x 876 6 rfl
          have s59 : z48 = 43 → v1 + 1 < Xi S 876 6 ∧ Xi T4 877 (v1 + 1).toNat = 102 := fun q => ⟨(s37 q).1, by rw [((by assumption : FR md_bo_nextClause__2 T1 T4).cx 877 rfl _).1]; exact (s37 q).2⟩
          refine l_astore rfl rfl rfl ?_
          refine l_iload rfl rfl ?_
          refine l_bipush rfl rfl ?_
          refine l_icmp_ne rfl rfl (by unfold rg; omega) (by unfold rg; omega) (fun w70 => ?_) (fun w71 => ?_)
          · refine l_iload rfl rfl ?_
            refine l_bipush rfl rfl ?_
            refine l_icmp_ne rfl rfl (by unfold rg; omega) (by unfold rg; omega) (fun w72 => ?_) (fun w73 => ?_)
            · refine l_aload_n rfl rfl ?_
              refine l_iload rfl rfl ?_
              refine l_iload_n rfl rfl ?_
              refine l_iconst rfl ?_
              refine l_iadd rfl ?_
              refine l_iload rfl rfl ?_
              refine l_aload rfl rfl ?_
              have w74 : 0 ≤ Xi T4 246 5 ∧ Xi T4 246 5 ≤ 200000 := hHT4.c _ _
              have w75 : Xi T4 876 6 = Xi T1 876 6 := (show Xi T4 876 6 = Xi T1 876 6 from w69.x _ _ rfl)
              have w76 : 0 ≤ Xi T1 876 6 ∧ Xi T1 876 6 ≤ 5002 := hHT1.c _ _
              have w77 : Xi T4 876 7 = Xi T1 876 7 := (show Xi T4 876 7 = Xi T1 876 7 from w69.x _ _ rfl)
              have w78 : 0 ≤ Xi T1 876 7 ∧ Xi T1 876 7 ≤ 5125 := hHT1.c _ _
              have w79 : Xi T4 895 4 = Xi T1 895 4 := (show Xi T4 895 4 = Xi T1 895 4 from w69.x _ _ rfl)
              have w80 : -1 ≤ Xi T1 895 4 ∧ Xi T1 895 4 ≤ 15 := hHT1.c _ _
              have w81 : Xi T4 899 6 = Xi T1 899 6 := (show Xi T4 899 6 = Xi T1 899 6 from w69.x _ _ rfl)
              have w82 : 0 ≤ Xi T1 899 6 ∧ Xi T1 899 6 ≤ 6 := hHT1.c _ _
              refine l_callV rfl rfl rfl (t_rr_otherPhrase hHT4 z48 (v1 + 1) z58 z68 ⟨by omega, by omega⟩ ⟨by omega, by omega⟩ ⟨by omega, by omega⟩ (by omega) (by first | assumption | exact (LEX_FR hFT4 rfl rfl (by assumption : LEX S))) (by omega) (by omega) _) ?_
              rintro _ T5 ⟨hHT5, w87, z86, rfl, w86, w83, w84, w85⟩
              have hFT5 : FR md_rr_rulePhrases S T5 := FR.tr hFT4 w87 rfl
              show Rl _ _ _ _ _ [iv z86] _ _
              have rT5_1 : Xi T5 (248 + ru) 1 = Xi T4 (248 + ru) 1 := FR_ru w87 rfl (by omega)
              have rT5_2 : Xi T5 (248 + ru) 2 = Xi T4 (248 + ru) 2 := FR_ru w87 rfl (by omega)
              have rT5_3 : Xi T5 (248 + ru) 3 = Xi T4 (248 + ru) 3 := FR_ru w87 rfl (by omega)
              have rT5_4 : Xi T5 (248 + ru) 4 = Xi T4 (248 + ru) 4 := FR_ru w87 rfl (by omega)
              have rT5_5 : Xi T5 (248 + ru) 5 = Xi T4 (248 + ru) 5 := FR_ru w87 rfl (by omega)
              have rT5_6 : Xi T5 (248 + ru) 6 = Xi T4 (248 + ru) 6 := FR_ru w87 rfl (by omega)
              have rT5_7 : Xi T5 (248 + ru) 7 = Xi T4 (248 + ru) 7 := FR_ru w87 rfl (by omega)
              have o77 : z86 = 1 → CLok T5 (0 ≤ Xi S 895 4) _ := fun q => ((by assumption : z86 = 1 → CLok T5 (0 ≤ Xi T4 895 4) _) q).mono (fun e => by omega)
              have i77 : z86 = 1 → IGR T1 T5 (0 ≤ Xi S 895 4) := fun q => igr_f (by assumption : FR md_rr_otherPhrase T4 T5) rfl i59
              have k77 : z86 = 1 → KTK S T5 (Xi S 876 6) := fun q => ktk_f (by assumption : FR md_rr_otherPhrase T4 T5) rfl k59
              have t77 : z86 = 1 → TOK T5 := fun _ => TOK_FR (by assumption : FR md_rr_otherPhrase T4 T5) rfl rfl rfl t59
              have r77 : Xi T5 876 7 = Xi T4 876 7 := (by assumption : FR md_rr_otherPhrase T4 T5).x 876 7 rfl
              have c77 : z86 = 1 → Xi S 876 6 ≤ Xi T5 876 7 := by omega
              refine l_istore rfl rfl rfl ?_
              refine l_iload rfl rfl ?_
              refine l_if_ne rfl rfl (by unfold rg; omega) (fun w88 => ?_) (fun w89 => ?_)
              · refine l_aload_n rfl rfl ?_
                refine l_gfr rfl rfl rfl rfl rfl ((hFT5 899 4 rfl).2.2.trans hru) ?_
                refine l_bipush rfl rfl ?_
                refine l_iload_n rfl rfl ?_
                refine l_iconst rfl ?_
                refine l_iadd rfl ?_
                refine l_iastore (n := 8) rfl (lay_248 (by omega)) (by omega) (by omega) (by unfold rg; omega) ?_
                obtain ⟨U6, eU6⟩ : ∃ T : sS, T = uI T5 (248 + ru) ((6 : Int).toNat) (Int32.ofInt (v3 + 1)) := ⟨_, rfl⟩
                rw [← eU6]
                have hHU6 : HI U6 := by rw [eU6]; exact HI_w hHT5 (by rw [lh_ru6 (by omega)]; omega) (by rw [lh_ru6 (by omega)]; omega)
                have hFU6 : FR md_rr_rulePhrases S U6 := by rw [eU6]; exact FR.wI hFT5 (mdf_i (r := (248, 272, 0, 100000)) (List.mem_of_getElem? (i := 3) rfl) (inR_i (by omega) (by omega) (by omega) (by omega)))
                have w91 : Xi U6 (248 + ru) ((6 : Int).toNat) = (v3 + 1) := by rw [eU6]; exact Xi_same (by unfold rg; omega)
                have rU6_1 : Xi U6 (248 + ru) 1 = Xi T5 (248 + ru) 1 := by rw [eU6, Xi_ne (by omega)]
                have rU6_2 : Xi U6 (248 + ru) 2 = Xi T5 (248 + ru) 2 := by rw [eU6, Xi_ne (by omega)]
                have rU6_3 : Xi U6 (248 + ru) 3 = Xi T5 (248 + ru) 3 := by rw [eU6, Xi_ne (by omega)]
                have rU6_4 : Xi U6 (248 + ru) 4 = Xi T5 (248 + ru) 4 := by rw [eU6, Xi_ne (by omega)]
                have rU6_5 : Xi U6 (248 + ru) 5 = Xi T5 (248 + ru) 5 := by rw [eU6, Xi_ne (by omega)]
                have rU6_6 : Xi U6 (248 + ru) 6 = (v3 + 1) := by rw [eU6]; exact Xi_same (by unfold rg; omega)
                have rU6_7 : Xi U6 (248 + ru) 7 = Xi T5 (248 + ru) 7 := by rw [eU6, Xi_ne (by omega)]
                have i140 : IGR T1 U6 (0 ≤ Xi S 895 4) := igr_w eU6 (by omega) (i77 (by omega))
                have k140 : KTK S U6 (Xi S 876 6) := fun r hr => by rw [eU6, Xi_ne (by omega)]; exact k77 (by omega) r hr
                have t140 : TOK U6 := tok_ru eU6 (by omega) (t77 (by omega))
                have r140 : Xi U6 876 7 = Xi T5 876 7 := by rw [eU6, Xi_ne (by omega)]
                have o140 : CLok U6 (0 ≤ Xi S 895 4) _ := CLok_x (sG_ru hHT5 eU6 hrk) (fun j => by rw [eU6, Xi_ne (by omega)]) (o77 (by omega))
                refine l_aload_n rfl rfl ?_
                refine l_gfr rfl rfl rfl rfl rfl (hHU6.r 899 0 876 rfl) ?_
                refine l_iload rfl rfl ?_
                have w92 : Xi U6 246 5 = Xi T4 246 5 := (show Xi U6 246 5 = Xi T5 246 5 from by rw [eU6]; exact Xi_ne (by omega)).trans ((show Xi T5 246 5 = Xi T4 246 5 from w87.x _ _ rfl))
                have w93 : 0 ≤ Xi T4 246 5 ∧ Xi T4 246 5 ≤ 200000 := hHT4.c _ _
                have w94 : Xi U6 876 6 = Xi T1 876 6 := (show Xi U6 876 6 = Xi T5 876 6 from by rw [eU6]; exact Xi_ne (by omega)).trans ( (show Xi T5 876 6 = Xi T4 876 6 from w87.x _ _ rfl).trans ((show Xi T4 876 6 = Xi T1 876 6 from w69.x _ _ rfl)))
                have w95 : 0 ≤ Xi T1 876 6 ∧ Xi T1 876 6 ≤ 5002 := hHT1.c _ _
                have w96 : Xi U6 876 7 = Xi T1 876 7 := (show Xi U6 876 7 = Xi T5 876 7 from by rw [eU6]; exact Xi_ne (by omega)).trans ( (show Xi T5 876 7 = Xi T4 876 7 from w87.x _ _ rfl).trans ((show Xi T4 876 7 = Xi T1 876 7 from w69.x _ _ rfl)))
                have w97 : 0 ≤ Xi T1 876 7 ∧ Xi T1 876 7 ≤ 5125 := hHT1.c _ _
                have w98 : Xi U6 895 4 = Xi T1 895 4 := (show Xi U6 895 4 = Xi T5 895 4 from by rw [eU6]; exact Xi_ne (by omega)).trans ( (show Xi T5 895 4 = Xi T4 895 4 from w87.x _ _ rfl).trans ((show Xi T4 895 4 = Xi T1 895 4 from w69.x _ _ rfl)))
                have w99 : -1 ≤ Xi T1 895 4 ∧ Xi T1 895 4 ≤ 15 := hHT1.c _ _
                have w100 : Xi U6 899 6 = Xi T1 899 6 := (show Xi U6 899 6 = Xi T5 899 6 from by rw [eU6]; exact Xi_ne (by omega)).trans ( (show Xi T5 899 6 = Xi T4 899 6 from w87.x _ _ rfl).trans ((show Xi T4 899 6 = Xi T1 899 6 from w69.x _ _ rfl)))
                have w101 : 0 ≤ Xi T1 899 6 ∧ Xi T1 899 6 ≤ 6 := hHT1.c _ _
                refine l_callV rfl rfl rfl (t_to_typeAt hHU6 z58 ⟨by omega, by omega⟩ _) ?_
                rintro _ _ ⟨rfl, z105, rfl, w105, w102, w103, w104⟩
                clear w103 w104
                show Rl _ _ _ _ _ [iv z105] _ _
                have g147 : Xi U6 877 (Xi S 876 6 - 1).toNat = 103 := by rw [k140 _ (by omega)]; exact hdot
                have e147 : z105 = 105 → z58 ≠ Xi S 876 6 - 1 := fun q e => by rw [← e] at g147; omega
                refine l_bipush rfl rfl ?_
                refine l_icmp_ne rfl rfl (by unfold rg; omega) (by unfold rg; omega) (fun w106 => ?_) (fun w107 => ?_)
                · refine l_iconst rfl ?_
                  refine l_istore_n rfl rfl rfl ?_
                  refine l_iload rfl rfl ?_
                  refine l_iconst rfl ?_
                  refine l_iadd rfl ?_
                  refine l_istore_n rfl rfl rfl ?_
                  refine l_iinc rfl rfl rfl rfl ?_
                  refine l_goto rfl rfl ?_
                  have w108 : Xi U6 246 5 = Xi T4 246 5 := (show Xi U6 246 5 = Xi T5 246 5 from by rw [eU6]; exact Xi_ne (by omega)).trans ((show Xi T5 246 5 = Xi T4 246 5 from w87.x _ _ rfl))
                  have w109 : 0 ≤ Xi T4 246 5 ∧ Xi T4 246 5 ≤ 200000 := hHT4.c _ _
                  have w110 : Xi U6 876 6 = Xi T1 876 6 := (show Xi U6 876 6 = Xi T5 876 6 from by rw [eU6]; exact Xi_ne (by omega)).trans ( (show Xi T5 876 6 = Xi T4 876 6 from w87.x _ _ rfl).trans ((show Xi T4 876 6 = Xi T1 876 6 from w69.x _ _ rfl)))
                  have w111 : 0 ≤ Xi T1 876 6 ∧ Xi T1 876 6 ≤ 5002 := hHT1.c _ _
                  have w112 : Xi U6 876 7 = Xi T1 876 7 := (show Xi U6 876 7 = Xi T5 876 7 from by rw [eU6]; exact Xi_ne (by omega)).trans ( (show Xi T5 876 7 = Xi T4 876 7 from w87.x _ _ rfl).trans ((show Xi T4 876 7 = Xi T1 876 7 from w69.x _ _ rfl)))
                  have w113 : 0 ≤ Xi T1 876 7 ∧ Xi T1 876 7 ≤ 5125 := hHT1.c _ _
                  have w114 : Xi U6 895 4 = Xi T1 895 4 := (show Xi U6 895 4 = Xi T5 895 4 from by rw [eU6]; exact Xi_ne (by omega)).trans ( (show Xi T5 895 4 = Xi T4 895 4 from w87.x _ _ rfl).trans ((show Xi T4 895 4 = Xi T1 895 4 from w69.x _ _ rfl)))
                  have w115 : -1 ≤ Xi T1 895 4 ∧ Xi T1 895 4 ≤ 15 := hHT1.c _ _
                  have w116 : Xi U6 899 6 = Xi T1 899 6 := (show Xi U6 899 6 = Xi T5 899 6 from by rw [eU6]; exact Xi_ne (by omega)).trans ( (show Xi T5 899 6 = Xi T4 899 6 from w87.x _ _ rfl).trans ((show Xi T4 899 6 = Xi T1 899 6 from w69.x _ _ rfl)))
                  have w117 : 0 ≤ Xi T1 899 6 ∧ Xi T1 899 6 ≤ 6 := hHT1.c _ _
                  exact Rl_weak (ih11 _ (by omega) U6 hHU6 hFU6 ((z58 + 1)) (0) ((v3 + 1)) (by omega) (by omega) (by omega) (by first | exact sG.rf hH | exact sG.tr hg11 (sG_i ((show FR md_rr_rulePhrases T1 U6 from by rw [eU6]; exact FR.wI (FR.tr (FR.tr FR.rf w69 rfl) w87 rfl) (mdf_i (r := (248, 272, 0, 100000)) (List.mem_of_getElem? (i := 3) rfl) (inR_i (by omega) (by omega) (by omega) (by omega)))) : FR md_rr_rulePhrases T1 U6) rfl (kcl_o eU6 (by omega) (kcl_tr (kcl_tr KCL.rf (by assumption : KCL T1 T4 _)) (by assumption : KCL T4 T5 _))) i140 (by omega) (by omega))) ((kru_w eU6 (kru_f w87 rfl (kru_f w69 rfl hq11)))) (by first | exact hb | exact RB_p hHT1 hrk (sG_i ((show FR md_rr_rulePhrases T1 U6 from by rw [eU6]; exact FR.wI (FR.tr (FR.tr FR.rf w69 rfl) w87 rfl) (mdf_i (r := (248, 272, 0, 100000)) (List.mem_of_getElem? (i := 3) rfl) (inR_i (by omega) (by omega) (by omega) (by omega)))) : FR md_rr_rulePhrases T1 U6) rfl (kcl_o eU6 (by omega) (kcl_tr (kcl_tr KCL.rf (by assumption : KCL T1 T4 _)) (by assumption : KCL T4 T5 _))) i140 (by omega) (by omega)) (by omega) (by omega) (by omega) (by omega) (by omega) (by omega) (by omega) (by omega) (o140.mono (fun e => by omega)) (by omega) hb11) (by omega) (by omega) (by first | exact hT | exact t140) (by omega) (by first | exact KTK.rf | exact k140) (by omega) (by omega) rfl) (And.intro rfl (And.intro rfl (And.intro rfl (And.intro rfl (True.intro)))))
                · refine l_iconst rfl ?_
                  refine l_goto rfl rfl ?_
                  refine l_istore_n rfl rfl rfl ?_
                  refine l_iload rfl rfl ?_
                  refine l_iconst rfl ?_
                  refine l_iadd rfl ?_
                  refine l_istore_n rfl rfl rfl ?_
                  refine l_iinc rfl rfl rfl rfl ?_
                  refine l_goto rfl rfl ?_
                  have w118 : Xi U6 246 5 = Xi T4 246 5 := (show Xi U6 246 5 = Xi T5 246 5 from by rw [eU6]; exact Xi_ne (by omega)).trans ((show Xi T5 246 5 = Xi T4 246 5 from w87.x _ _ rfl))
                  have w119 : 0 ≤ Xi T4 246 5 ∧ Xi T4 246 5 ≤ 200000 := hHT4.c _ _
                  have w120 : Xi U6 876 6 = Xi T1 876 6 := (show Xi U6 876 6 = Xi T5 876 6 from by rw [eU6]; exact Xi_ne (by omega)).trans ( (show Xi T5 876 6 = Xi T4 876 6 from w87.x _ _ rfl).trans ((show Xi T4 876 6 = Xi T1 876 6 from w69.x _ _ rfl)))
                  have w121 : 0 ≤ Xi T1 876 6 ∧ Xi T1 876 6 ≤ 5002 := hHT1.c _ _
                  have w122 : Xi U6 876 7 = Xi T1 876 7 := (show Xi U6 876 7 = Xi T5 876 7 from by rw [eU6]; exact Xi_ne (by omega)).trans ( (show Xi T5 876 7 = Xi T4 876 7 from w87.x _ _ rfl).trans ((show Xi T4 876 7 = Xi T1 876 7 from w69.x _ _ rfl)))
                  have w123 : 0 ≤ Xi T1 876 7 ∧ Xi T1 876 7 ≤ 5125 := hHT1.c _ _
                  have w124 : Xi U6 895 4 = Xi T1 895 4 := (show Xi U6 895 4 = Xi T5 895 4 from by rw [eU6]; exact Xi_ne (by omega)).trans ( (show Xi T5 895 4 = Xi T4 895 4 from w87.x _ _ rfl).trans ((show Xi T4 895 4 = Xi T1 895 4 from w69.x _ _ rfl)))
                  have w125 : -1 ≤ Xi T1 895 4 ∧ Xi T1 895 4 ≤ 15 := hHT1.c _ _
                  have w126 : Xi U6 899 6 = Xi T1 899 6 := (show Xi U6 899 6 = Xi T5 899 6 from by rw [eU6]; exact Xi_ne (by omega)).trans ( (show Xi T5 899 6 = Xi T4 899 6 from w87.x _ _ rfl).trans ((show Xi T4 899 6 = Xi T1 899 6 from w69.x _ _ rfl)))
                  have w127 : 0 ≤ Xi T1 899 6 ∧ Xi T1 899 6 ≤ 6 := hHT1.c _ _
                  exact Rl_weak (ih11 _ (by omega) U6 hHU6 hFU6 ((z58 + 1)) (1) ((v3 + 1)) (by omega) (by omega) (by omega) (by first | exact sG.rf hH | exact sG.tr hg11 (sG_i ((show FR md_rr_rulePhrases T1 U6 from by rw [eU6]; exact FR.wI (FR.tr (FR.tr FR.rf w69 rfl) w87 rfl) (mdf_i (r := (248, 272, 0, 100000)) (List.mem_of_getElem? (i := 3) rfl) (inR_i (by omega) (by omega) (by omega) (by omega)))) : FR md_rr_rulePhrases T1 U6) rfl (kcl_o eU6 (by omega) (kcl_tr (kcl_tr KCL.rf (by assumption : KCL T1 T4 _)) (by assumption : KCL T4 T5 _))) i140 (by omega) (by omega))) ((kru_w eU6 (kru_f w87 rfl (kru_f w69 rfl hq11)))) (by first | exact hb | exact RB_p hHT1 hrk (sG_i ((show FR md_rr_rulePhrases T1 U6 from by rw [eU6]; exact FR.wI (FR.tr (FR.tr FR.rf w69 rfl) w87 rfl) (mdf_i (r := (248, 272, 0, 100000)) (List.mem_of_getElem? (i := 3) rfl) (inR_i (by omega) (by omega) (by omega) (by omega)))) : FR md_rr_rulePhrases T1 U6) rfl (kcl_o eU6 (by omega) (kcl_tr (kcl_tr KCL.rf (by assumption : KCL T1 T4 _)) (by assumption : KCL T4 T5 _))) i140 (by omega) (by omega)) (by omega) (by omega) (by omega) (by omega) (by omega) (by omega) (by omega) (by omega) (o140.mono (fun e => by omega)) (by omega) hb11) (by omega) (by omega) (by first | exact hT | exact t140) (by omega) (by first | exact KTK.rf | exact k140) (by omega) (by omega) rfl) (And.intro rfl (And.intro rfl (And.intro rfl (And.intro rfl (True.intro)))))
              · refine l_iconst rfl ?_
                refine l_ireturn rfl rfl ?_
                have w128 : Xi T5 246 2 = Xi T1 246 2 := (show Xi T5 246 2 = Xi T4 246 2 from w87.x _ _ rfl).trans ((show Xi T4 246 2 = Xi T1 246 2 from w69.x _ _ rfl))
                have w129 : 0 ≤ Xi T1 246 2 ∧ Xi T1 246 2 ≤ 24 := hHT1.c _ _
                have w130 : Xi T5 246 5 = Xi T4 246 5 := (show Xi T5 246 5 = Xi T4 246 5 from w87.x _ _ rfl)
                have w131 : 0 ≤ Xi T4 246 5 ∧ Xi T4 246 5 ≤ 200000 := hHT4.c _ _
                have w132 : Xi T5 876 6 = Xi T1 876 6 := (show Xi T5 876 6 = Xi T4 876 6 from w87.x _ _ rfl).trans ((show Xi T4 876 6 = Xi T1 876 6 from w69.x _ _ rfl))
                have w133 : 0 ≤ Xi T1 876 6 ∧ Xi T1 876 6 ≤ 5002 := hHT1.c _ _
                have w134 : Xi T5 876 7 = Xi T1 876 7 := (show Xi T5 876 7 = Xi T4 876 7 from w87.x _ _ rfl).trans ((show Xi T4 876 7 = Xi T1 876 7 from w69.x _ _ rfl))
                have w135 : 0 ≤ Xi T1 876 7 ∧ Xi T1 876 7 ≤ 5125 := hHT1.c _ _
                have w136 : 0 ≤ Xi T5 876 8 ∧ Xi T5 876 8 ≤ 9 := hHT5.c _ _
                have w137 : Xi T5 895 4 = Xi T1 895 4 := (show Xi T5 895 4 = Xi T4 895 4 from w87.x _ _ rfl).trans ((show Xi T4 895 4 = Xi T1 895 4 from w69.x _ _ rfl))
                have w138 : -1 ≤ Xi T1 895 4 ∧ Xi T1 895 4 ≤ 15 := hHT1.c _ _
                have w139 : Xi T5 899 6 = Xi T1 899 6 := (show Xi T5 899 6 = Xi T4 899 6 from w87.x _ _ rfl).trans ((show Xi T4 899 6 = Xi T1 899 6 from w69.x _ _ rfl))
                have w140 : 0 ≤ Xi T1 899 6 ∧ Xi T1 899 6 ≤ 6 := hHT1.c _ _
                exact ⟨hHT5, hFT5, _, rfl, ⟨by omega, by omega⟩, (fun q => by first | (exfalso; omega) | exact sG.tr hg11 (sG.tr g181 g192)), (fun q => (kru_f w87 rfl (kru_f w69 rfl hq11))), (by omega), (fun q => by first | (exfalso; omega) | exact RB_e hHT1 hrk (sG.tr g181 g192) (by omega) (by omega) (by omega) (by omega) (by omega) (by omega) (by omega) (by omega) (by omega) (by omega) hb11), (fun q => by first | omega | (exfalso; omega))⟩
            · refine l_aload_n rfl rfl ?_
              refine l_iload_n rfl rfl ?_
              refine l_iconst rfl ?_
              refine l_iadd rfl ?_
              refine l_iload rfl rfl ?_
              refine l_aload rfl rfl ?_
              refine l_iconst rfl ?_
              have w141 : 0 ≤ Xi T4 246 5 ∧ Xi T4 246 5 ≤ 200000 := hHT4.c _ _
              have w142 : Xi T4 876 6 = Xi T1 876 6 := (show Xi T4 876 6 = Xi T1 876 6 from w69.x _ _ rfl)
              have w143 : 0 ≤ Xi T1 876 6 ∧ Xi T1 876 6 ≤ 5002 := hHT1.c _ _
              have w144 : Xi T4 876 7 = Xi T1 876 7 := (show Xi T4 876 7 = Xi T1 876 7 from w69.x _ _ rfl)
              have w145 : 0 ≤ Xi T1 876 7 ∧ Xi T1 876 7 ≤ 5125 := hHT1.c _ _
              have w146 : Xi T4 895 4 = Xi T1 895 4 := (show Xi T4 895 4 = Xi T1 895 4 from w69.x _ _ rfl)
              have w147 : -1 ≤ Xi T1 895 4 ∧ Xi T1 895 4 ≤ 15 := hHT1.c _ _
              have w148 : Xi T4 899 6 = Xi T1 899 6 := (show Xi T4 899 6 = Xi T1 899 6 from w69.x _ _ rfl)
              have w149 : 0 ≤ Xi T1 899 6 ∧ Xi T1 899 6 ≤ 6 := hHT1.c _ _
              refine l_callV rfl rfl rfl (t_rr_test hHT4 (v1 + 1) z58 z68 1 ⟨by omega, by omega⟩ ⟨by omega, by omega⟩ (by omega) ⟨by omega, by omega⟩ (by first | assumption | exact (LEX_FR hFT4 rfl rfl (by assumption : LEX S))) (t59) (by first | assumption | exact (SRX_FR hFT4 rfl (by assumption : SRX S))) (by omega) _) ?_
              rintro _ T7 ⟨hHT7, w154, z153, rfl, w153, w150, w151, w152⟩
              have hFT7 : FR md_rr_rulePhrases S T7 := FR.tr hFT4 w154 rfl
              show Rl _ _ _ _ _ [iv z153] _ _
              have rT7_1 : Xi T7 (248 + ru) 1 = Xi T4 (248 + ru) 1 := FR_ru w154 rfl (by omega)
              have rT7_2 : Xi T7 (248 + ru) 2 = Xi T4 (248 + ru) 2 := FR_ru w154 rfl (by omega)
              have rT7_3 : Xi T7 (248 + ru) 3 = Xi T4 (248 + ru) 3 := FR_ru w154 rfl (by omega)
              have rT7_4 : Xi T7 (248 + ru) 4 = Xi T4 (248 + ru) 4 := FR_ru w154 rfl (by omega)
              have rT7_5 : Xi T7 (248 + ru) 5 = Xi T4 (248 + ru) 5 := FR_ru w154 rfl (by omega)
              have rT7_6 : Xi T7 (248 + ru) 6 = Xi T4 (248 + ru) 6 := FR_ru w154 rfl (by omega)
              have rT7_7 : Xi T7 (248 + ru) 7 = Xi T4 (248 + ru) 7 := FR_ru w154 rfl (by omega)
              have o77 : z153 = 1 → CLok T7 (0 ≤ Xi S 895 4) _ := fun q => ((by assumption : z153 = 1 → TSok T7 (0 ≤ Xi T4 895 4) _) q).1.mono (fun e => by omega)
              have i77 : z153 = 1 → IGR T1 T7 (0 ≤ Xi S 895 4) := fun q => igr_f (by assumption : FR md_rr_test T4 T7) rfl i59
              have k77 : z153 = 1 → KTK S T7 (Xi S 876 6) := fun q => ktk_f (by assumption : FR md_rr_test T4 T7) rfl k59
              have t77 : z153 = 1 → TOK T7 := fun _ => TOK_FR (by assumption : FR md_rr_test T4 T7) rfl rfl rfl t59
              have r77 : Xi T7 876 7 = Xi T4 876 7 := (by assumption : FR md_rr_test T4 T7).x 876 7 rfl
              have c77 : z153 = 1 → Xi S 876 6 ≤ Xi T7 876 7 := by omega
              refine l_istore rfl rfl rfl ?_
              refine l_goto rfl rfl ?_
              refine l_iload rfl rfl ?_
              refine l_if_ne rfl rfl (by unfold rg; omega) (fun w155 => ?_) (fun w156 => ?_)
              · refine l_aload_n rfl rfl ?_
                refine l_gfr rfl rfl rfl rfl rfl ((hFT7 899 4 rfl).2.2.trans hru) ?_
                refine l_bipush rfl rfl ?_
                refine l_iload_n rfl rfl ?_
                refine l_iconst rfl ?_
                refine l_iadd rfl ?_
                refine l_iastore (n := 8) rfl (lay_248 (by omega)) (by omega) (by omega) (by unfold rg; omega) ?_
                obtain ⟨U8, eU8⟩ : ∃ T : sS, T = uI T7 (248 + ru) ((6 : Int).toNat) (Int32.ofInt (v3 + 1)) := ⟨_, rfl⟩
                rw [← eU8]
                have hHU8 : HI U8 := by rw [eU8]; exact HI_w hHT7 (by rw [lh_ru6 (by omega)]; omega) (by rw [lh_ru6 (by omega)]; omega)
                have hFU8 : FR md_rr_rulePhrases S U8 := by rw [eU8]; exact FR.wI hFT7 (mdf_i (r := (248, 272, 0, 100000)) (List.mem_of_getElem? (i := 3) rfl) (inR_i (by omega) (by omega) (by omega) (by omega)))
                have w158 : Xi U8 (248 + ru) ((6 : Int).toNat) = (v3 + 1) := by rw [eU8]; exact Xi_same (by unfold rg; omega)
                have rU8_1 : Xi U8 (248 + ru) 1 = Xi T7 (248 + ru) 1 := by rw [eU8, Xi_ne (by omega)]
                have rU8_2 : Xi U8 (248 + ru) 2 = Xi T7 (248 + ru) 2 := by rw [eU8, Xi_ne (by omega)]
                have rU8_3 : Xi U8 (248 + ru) 3 = Xi T7 (248 + ru) 3 := by rw [eU8, Xi_ne (by omega)]
                have rU8_4 : Xi U8 (248 + ru) 4 = Xi T7 (248 + ru) 4 := by rw [eU8, Xi_ne (by omega)]
                have rU8_5 : Xi U8 (248 + ru) 5 = Xi T7 (248 + ru) 5 := by rw [eU8, Xi_ne (by omega)]
                have rU8_6 : Xi U8 (248 + ru) 6 = (v3 + 1) := by rw [eU8]; exact Xi_same (by unfold rg; omega)
                have rU8_7 : Xi U8 (248 + ru) 7 = Xi T7 (248 + ru) 7 := by rw [eU8, Xi_ne (by omega)]
                have i140 : IGR T1 U8 (0 ≤ Xi S 895 4) := igr_w eU8 (by omega) (i77 (by omega))
                have k140 : KTK S U8 (Xi S 876 6) := fun r hr => by rw [eU8, Xi_ne (by omega)]; exact k77 (by omega) r hr
                have t140 : TOK U8 := tok_ru eU8 (by omega) (t77 (by omega))
                have r140 : Xi U8 876 7 = Xi T7 876 7 := by rw [eU8, Xi_ne (by omega)]
                have o140 : CLok U8 (0 ≤ Xi S 895 4) _ := CLok_x (sG_ru hHT7 eU8 hrk) (fun j => by rw [eU8, Xi_ne (by omega)]) (o77 (by omega))
                refine l_aload_n rfl rfl ?_
                refine l_gfr rfl rfl rfl rfl rfl (hHU8.r 899 0 876 rfl) ?_
                refine l_iload rfl rfl ?_
                have w159 : Xi U8 246 5 = Xi T4 246 5 := (show Xi U8 246 5 = Xi T7 246 5 from by rw [eU8]; exact Xi_ne (by omega)).trans ((show Xi T7 246 5 = Xi T4 246 5 from w154.x _ _ rfl))
                have w160 : 0 ≤ Xi T4 246 5 ∧ Xi T4 246 5 ≤ 200000 := hHT4.c _ _
                have w161 : Xi U8 876 6 = Xi T1 876 6 := (show Xi U8 876 6 = Xi T7 876 6 from by rw [eU8]; exact Xi_ne (by omega)).trans ( (show Xi T7 876 6 = Xi T4 876 6 from w154.x _ _ rfl).trans ((show Xi T4 876 6 = Xi T1 876 6 from w69.x _ _ rfl)))
                have w162 : 0 ≤ Xi T1 876 6 ∧ Xi T1 876 6 ≤ 5002 := hHT1.c _ _
                have w163 : Xi U8 876 7 = Xi T1 876 7 := (show Xi U8 876 7 = Xi T7 876 7 from by rw [eU8]; exact Xi_ne (by omega)).trans ( (show Xi T7 876 7 = Xi T4 876 7 from w154.x _ _ rfl).trans ((show Xi T4 876 7 = Xi T1 876 7 from w69.x _ _ rfl)))
                have w164 : 0 ≤ Xi T1 876 7 ∧ Xi T1 876 7 ≤ 5125 := hHT1.c _ _
                have w165 : Xi U8 895 4 = Xi T1 895 4 := (show Xi U8 895 4 = Xi T7 895 4 from by rw [eU8]; exact Xi_ne (by omega)).trans ( (show Xi T7 895 4 = Xi T4 895 4 from w154.x _ _ rfl).trans ((show Xi T4 895 4 = Xi T1 895 4 from w69.x _ _ rfl)))
                have w166 : -1 ≤ Xi T1 895 4 ∧ Xi T1 895 4 ≤ 15 := hHT1.c _ _
                have w167 : Xi U8 899 6 = Xi T1 899 6 := (show Xi U8 899 6 = Xi T7 899 6 from by rw [eU8]; exact Xi_ne (by omega)).trans ( (show Xi T7 899 6 = Xi T4 899 6 from w154.x _ _ rfl).trans ((show Xi T4 899 6 = Xi T1 899 6 from w69.x _ _ rfl)))
                have w168 : 0 ≤ Xi T1 899 6 ∧ Xi T1 899 6 ≤ 6 := hHT1.c _ _
                refine l_callV rfl rfl rfl (t_to_typeAt hHU8 z58 ⟨by omega, by omega⟩ _) ?_
                rintro _ _ ⟨rfl, z172, rfl, w172, w169, w170, w171⟩
                clear w170 w171
                show Rl _ _ _ _ _ [iv z172] _ _
                have g147 : Xi U8 877 (Xi S 876 6 - 1).toNat = 103 := by rw [k140 _ (by omega)]; exact hdot
                have e147 : z172 = 105 → z58 ≠ Xi S 876 6 - 1 := fun q e => by rw [← e] at g147; omega
                refine l_bipush rfl rfl ?_
                refine l_icmp_ne rfl rfl (by unfold rg; omega) (by unfold rg; omega) (fun w173 => ?_) (fun w174 => ?_)
                · refine l_iconst rfl ?_
                  refine l_istore_n rfl rfl rfl ?_
                  refine l_iload rfl rfl ?_
                  refine l_iconst rfl ?_
                  refine l_iadd rfl ?_
                  refine l_istore_n rfl rfl rfl ?_
                  refine l_iinc rfl rfl rfl rfl ?_
                  refine l_goto rfl rfl ?_
                  have w175 : Xi U8 246 5 = Xi T4 246 5 := (show Xi U8 246 5 = Xi T7 246 5 from by rw [eU8]; exact Xi_ne (by omega)).trans ((show Xi T7 246 5 = Xi T4 246 5 from w154.x _ _ rfl))
                  have w176 : 0 ≤ Xi T4 246 5 ∧ Xi T4 246 5 ≤ 200000 := hHT4.c _ _
                  have w177 : Xi U8 876 6 = Xi T1 876 6 := (show Xi U8 876 6 = Xi T7 876 6 from by rw [eU8]; exact Xi_ne (by omega)).trans ( (show Xi T7 876 6 = Xi T4 876 6 from w154.x _ _ rfl).trans ((show Xi T4 876 6 = Xi T1 876 6 from w69.x _ _ rfl)))
                  have w178 : 0 ≤ Xi T1 876 6 ∧ Xi T1 876 6 ≤ 5002 := hHT1.c _ _
                  have w179 : Xi U8 876 7 = Xi T1 876 7 := (show Xi U8 876 7 = Xi T7 876 7 from by rw [eU8]; exact Xi_ne (by omega)).trans ( (show Xi T7 876 7 = Xi T4 876 7 from w154.x _ _ rfl).trans ((show Xi T4 876 7 = Xi T1 876 7 from w69.x _ _ rfl)))
                  have w180 : 0 ≤ Xi T1 876 7 ∧ Xi T1 876 7 ≤ 5125 := hHT1.c _ _
                  have w181 : Xi U8 895 4 = Xi T1 895 4 := (show Xi U8 895 4 = Xi T7 895 4 from by rw [eU8]; exact Xi_ne (by omega)).trans ( (show Xi T7 895 4 = Xi T4 895 4 from w154.x _ _ rfl).trans ((show Xi T4 895 4 = Xi T1 895 4 from w69.x _ _ rfl)))
                  have w182 : -1 ≤ Xi T1 895 4 ∧ Xi T1 895 4 ≤ 15 := hHT1.c _ _
                  have w183 : Xi U8 899 6 = Xi T1 899 6 := (show Xi U8 899 6 = Xi T7 899 6 from by rw [eU8]; exact Xi_ne (by omega)).trans ( (show Xi T7 899 6 = Xi T4 899 6 from w154.x _ _ rfl).trans ((show Xi T4 899 6 = Xi T1 899 6 from w69.x _ _ rfl)))
                  have w184 : 0 ≤ Xi T1 899 6 ∧ Xi T1 899 6 ≤ 6 := hHT1.c _ _
                  exact Rl_weak (ih11 _ (by omega) U8 hHU8 hFU8 ((z58 + 1)) (0) ((v3 + 1)) (by omega) (by omega) (by omega) (by first | exact sG.rf hH | exact sG.tr hg11 (sG_i ((show FR md_rr_rulePhrases T1 U8 from by rw [eU8]; exact FR.wI (FR.tr (FR.tr FR.rf w69 rfl) w154 rfl) (mdf_i (r := (248, 272, 0, 100000)) (List.mem_of_getElem? (i := 3) rfl) (inR_i (by omega) (by omega) (by omega) (by omega)))) : FR md_rr_rulePhrases T1 U8) rfl (kcl_o eU8 (by omega) (kcl_tr (kcl_tr KCL.rf (by assumption : KCL T1 T4 _)) (by assumption : KCL T4 T7 _))) i140 (by omega) (by omega))) ((kru_w eU8 (kru_f w154 rfl (kru_f w69 rfl hq11)))) (by first | exact hb | exact RB_p hHT1 hrk (sG_i ((show FR md_rr_rulePhrases T1 U8 from by rw [eU8]; exact FR.wI (FR.tr (FR.tr FR.rf w69 rfl) w154 rfl) (mdf_i (r := (248, 272, 0, 100000)) (List.mem_of_getElem? (i := 3) rfl) (inR_i (by omega) (by omega) (by omega) (by omega)))) : FR md_rr_rulePhrases T1 U8) rfl (kcl_o eU8 (by omega) (kcl_tr (kcl_tr KCL.rf (by assumption : KCL T1 T4 _)) (by assumption : KCL T4 T7 _))) i140 (by omega) (by omega)) (by omega) (by omega) (by omega) (by omega) (by omega) (by omega) (by omega) (by omega) (o140.mono (fun e => by omega)) (by omega) hb11) (by omega) (by omega) (by first | exact hT | exact t140) (by omega) (by first | exact KTK.rf | exact k140) (by omega) (by omega) rfl) (And.intro rfl (And.intro rfl (And.intro rfl (And.intro rfl (True.intro)))))
                · refine l_iconst rfl ?_
                  refine l_goto rfl rfl ?_
                  refine l_istore_n rfl rfl rfl ?_
                  refine l_iload rfl rfl ?_
                  refine l_iconst rfl ?_
                  refine l_iadd rfl ?_
                  refine l_istore_n rfl rfl rfl ?_
                  refine l_iinc rfl rfl rfl rfl ?_
                  refine l_goto rfl rfl ?_
                  have w185 : Xi U8 246 5 = Xi T4 246 5 := (show Xi U8 246 5 = Xi T7 246 5 from by rw [eU8]; exact Xi_ne (by omega)).trans ((show Xi T7 246 5 = Xi T4 246 5 from w154.x _ _ rfl))
                  have w186 : 0 ≤ Xi T4 246 5 ∧ Xi T4 246 5 ≤ 200000 := hHT4.c _ _
                  have w187 : Xi U8 876 6 = Xi T1 876 6 := (show Xi U8 876 6 = Xi T7 876 6 from by rw [eU8]; exact Xi_ne (by omega)).trans ( (show Xi T7 876 6 = Xi T4 876 6 from w154.x _ _ rfl).trans ((show Xi T4 876 6 = Xi T1 876 6 from w69.x _ _ rfl)))
                  have w188 : 0 ≤ Xi T1 876 6 ∧ Xi T1 876 6 ≤ 5002 := hHT1.c _ _
                  have w189 : Xi U8 876 7 = Xi T1 876 7 := (show Xi U8 876 7 = Xi T7 876 7 from by rw [eU8]; exact Xi_ne (by omega)).trans ( (show Xi T7 876 7 = Xi T4 876 7 from w154.x _ _ rfl).trans ((show Xi T4 876 7 = Xi T1 876 7 from w69.x _ _ rfl)))
                  have w190 : 0 ≤ Xi T1 876 7 ∧ Xi T1 876 7 ≤ 5125 := hHT1.c _ _
                  have w191 : Xi U8 895 4 = Xi T1 895 4 := (show Xi U8 895 4 = Xi T7 895 4 from by rw [eU8]; exact Xi_ne (by omega)).trans ( (show Xi T7 895 4 = Xi T4 895 4 from w154.x _ _ rfl).trans ((show Xi T4 895 4 = Xi T1 895 4 from w69.x _ _ rfl)))
                  have w192 : -1 ≤ Xi T1 895 4 ∧ Xi T1 895 4 ≤ 15 := hHT1.c _ _
                  have w193 : Xi U8 899 6 = Xi T1 899 6 := (show Xi U8 899 6 = Xi T7 899 6 from by rw [eU8]; exact Xi_ne (by omega)).trans ( (show Xi T7 899 6 = Xi T4 899 6 from w154.x _ _ rfl).trans ((show Xi T4 899 6 = Xi T1 899 6 from w69.x _ _ rfl)))
                  have w194 : 0 ≤ Xi T1 899 6 ∧ Xi T1 899 6 ≤ 6 := hHT1.c _ _
                  exact Rl_weak (ih11 _ (by omega) U8 hHU8 hFU8 ((z58 + 1)) (1) ((v3 + 1)) (by omega) (by omega) (by omega) (by first | exact sG.rf hH | exact sG.tr hg11 (sG_i ((show FR md_rr_rulePhrases T1 U8 from by rw [eU8]; exact FR.wI (FR.tr (FR.tr FR.rf w69 rfl) w154 rfl) (mdf_i (r := (248, 272, 0, 100000)) (List.mem_of_getElem? (i := 3) rfl) (inR_i (by omega) (by omega) (by omega) (by omega)))) : FR md_rr_rulePhrases T1 U8) rfl (kcl_o eU8 (by omega) (kcl_tr (kcl_tr KCL.rf (by assumption : KCL T1 T4 _)) (by assumption : KCL T4 T7 _))) i140 (by omega) (by omega))) ((kru_w eU8 (kru_f w154 rfl (kru_f w69 rfl hq11)))) (by first | exact hb | exact RB_p hHT1 hrk (sG_i ((show FR md_rr_rulePhrases T1 U8 from by rw [eU8]; exact FR.wI (FR.tr (FR.tr FR.rf w69 rfl) w154 rfl) (mdf_i (r := (248, 272, 0, 100000)) (List.mem_of_getElem? (i := 3) rfl) (inR_i (by omega) (by omega) (by omega) (by omega)))) : FR md_rr_rulePhrases T1 U8) rfl (kcl_o eU8 (by omega) (kcl_tr (kcl_tr KCL.rf (by assumption : KCL T1 T4 _)) (by assumption : KCL T4 T7 _))) i140 (by omega) (by omega)) (by omega) (by omega) (by omega) (by omega) (by omega) (by omega) (by omega) (by omega) (o140.mono (fun e => by omega)) (by omega) hb11) (by omega) (by omega) (by first | exact hT | exact t140) (by omega) (by first | exact KTK.rf | exact k140) (by omega) (by omega) rfl) (And.intro rfl (And.intro rfl (And.intro rfl (And.intro rfl (True.intro)))))
              · refine l_iconst rfl ?_
                refine l_ireturn rfl rfl ?_
                have w195 : Xi T7 246 2 = Xi T1 246 2 := (show Xi T7 246 2 = Xi T4 246 2 from w154.x _ _ rfl).trans ((show Xi T4 246 2 = Xi T1 246 2 from w69.x _ _ rfl))
                have w196 : 0 ≤ Xi T1 246 2 ∧ Xi T1 246 2 ≤ 24 := hHT1.c _ _
                have w197 : Xi T7 246 5 = Xi T4 246 5 := (show Xi T7 246 5 = Xi T4 246 5 from w154.x _ _ rfl)
                have w198 : 0 ≤ Xi T4 246 5 ∧ Xi T4 246 5 ≤ 200000 := hHT4.c _ _
                have w199 : Xi T7 876 6 = Xi T1 876 6 := (show Xi T7 876 6 = Xi T4 876 6 from w154.x _ _ rfl).trans ((show Xi T4 876 6 = Xi T1 876 6 from w69.x _ _ rfl))
                have w200 : 0 ≤ Xi T1 876 6 ∧ Xi T1 876 6 ≤ 5002 := hHT1.c _ _
                have w201 : Xi T7 876 7 = Xi T1 876 7 := (show Xi T7 876 7 = Xi T4 876 7 from w154.x _ _ rfl).trans ((show Xi T4 876 7 = Xi T1 876 7 from w69.x _ _ rfl))
                have w202 : 0 ≤ Xi T1 876 7 ∧ Xi T1 876 7 ≤ 5125 := hHT1.c _ _
                have w203 : 0 ≤ Xi T7 876 8 ∧ Xi T7 876 8 ≤ 9 := hHT7.c _ _
                have w204 : Xi T7 895 4 = Xi T1 895 4 := (show Xi T7 895 4 = Xi T4 895 4 from w154.x _ _ rfl).trans ((show Xi T4 895 4 = Xi T1 895 4 from w69.x _ _ rfl))
                have w205 : -1 ≤ Xi T1 895 4 ∧ Xi T1 895 4 ≤ 15 := hHT1.c _ _
                have w206 : Xi T7 899 6 = Xi T1 899 6 := (show Xi T7 899 6 = Xi T4 899 6 from w154.x _ _ rfl).trans ((show Xi T4 899 6 = Xi T1 899 6 from w69.x _ _ rfl))
                have w207 : 0 ≤ Xi T1 899 6 ∧ Xi T1 899 6 ≤ 6 := hHT1.c _ _
                exact ⟨hHT7, hFT7, _, rfl, ⟨by omega, by omega⟩, (fun q => by first | (exfalso; omega) | exact sG.tr hg11 (sG.tr g181 g192)), (fun q => (kru_f w154 rfl (kru_f w69 rfl hq11))), (by omega), (fun q => by first | (exfalso; omega) | exact RB_e hHT1 hrk (sG.tr g181 g192) (by omega) (by omega) (by omega) (by omega) (by omega) (by omega) (by omega) (by omega) (by omega) (by omega) hb11), (fun q => by first | omega | (exfalso; omega))⟩
          · refine l_aload_n rfl rfl ?_
            refine l_iload_n rfl rfl ?_
            refine l_iconst rfl ?_
            refine l_iadd rfl ?_
            refine l_aload rfl rfl ?_
            have w208 : 0 ≤ Xi T4 246 5 ∧ Xi T4 246 5 ≤ 200000 := hHT4.c _ _
            have w209 : Xi T4 876 6 = Xi T1 876 6 := (show Xi T4 876 6 = Xi T1 876 6 from w69.x _ _ rfl)
            have w210 : 0 ≤ Xi T1 876 6 ∧ Xi T1 876 6 ≤ 5002 := hHT1.c _ _
            have w211 : Xi T4 876 7 = Xi T1 876 7 := (show Xi T4 876 7 = Xi T1 876 7 from w69.x _ _ rfl)
            have w212 : 0 ≤ Xi T1 876 7 ∧ Xi T1 876 7 ≤ 5125 := hHT1.c _ _
            have w213 : Xi T4 895 4 = Xi T1 895 4 := (show Xi T4 895 4 = Xi T1 895 4 from w69.x _ _ rfl)
            have w214 : -1 ≤ Xi T1 895 4 ∧ Xi T1 895 4 ≤ 15 := hHT1.c _ _
            have w215 : Xi T4 899 6 = Xi T1 899 6 := (show Xi T4 899 6 = Xi T1 899 6 from w69.x _ _ rfl)
            have w216 : 0 ≤ Xi T1 899 6 ∧ Xi T1 899 6 ≤ 6 := hHT1.c _ _
            refine l_callV rfl rfl rfl (t_rr_sayText hHT4 ts (v1 + 1) z68 ⟨by omega, by omega⟩ (by omega) ((hFT4 876 4 rfl).2.2.trans hts) htp (by first | assumption | exact (LEX_FR hFT4 rfl rfl (by assumption : LEX S))) (t59) (by first | assumption | exact (SRX_FR hFT4 rfl (by assumption : SRX S))) (hx.trans (by unfold txr; rw [(hFT4 20 1 rfl).2.2])) (by first | assumption | omega) (⟨by omega, (s59 (by omega)).2⟩) _) ?_
            rintro _ T9 ⟨hHT9, w225, z224, rfl, w224, w217, w218, w219, w220, w221, w222, w223⟩
            have hFT9 : FR md_rr_rulePhrases S T9 := FR.tr hFT4 w225 rfl
            show Rl _ _ _ _ _ [iv z224] _ _
            have rT9_1 : Xi T9 (248 + ru) 1 = Xi T4 (248 + ru) 1 := FR_ru w225 rfl (by omega)
            have rT9_2 : Xi T9 (248 + ru) 2 = Xi T4 (248 + ru) 2 := FR_ru w225 rfl (by omega)
            have rT9_3 : Xi T9 (248 + ru) 3 = Xi T4 (248 + ru) 3 := FR_ru w225 rfl (by omega)
            have rT9_4 : Xi T9 (248 + ru) 4 = Xi T4 (248 + ru) 4 := FR_ru w225 rfl (by omega)
            have rT9_5 : Xi T9 (248 + ru) 5 = Xi T4 (248 + ru) 5 := FR_ru w225 rfl (by omega)
            have rT9_6 : Xi T9 (248 + ru) 6 = Xi T4 (248 + ru) 6 := FR_ru w225 rfl (by omega)
            have rT9_7 : Xi T9 (248 + ru) 7 = Xi T4 (248 + ru) 7 := FR_ru w225 rfl (by omega)
            have o77 : z224 = 1 → CLok T9 (0 ≤ Xi S 895 4) _ := fun q => ((by assumption : z224 = 1 → CLok T9 (0 ≤ Xi T4 895 4) _) q).mono (fun e => by omega)
            have i77 : z224 = 1 → IGR T1 T9 (0 ≤ Xi S 895 4) := fun q => IGR.tr i59 ((by assumption : z224 = 1 → IGR T4 T9 (0 ≤ Xi T4 895 4)) q) (fun e => by omega)
            have k77 : z224 = 1 → KTK S T9 (Xi S 876 6) := fun q => ktk_tr k59 ((by assumption : z224 = 1 → KTK T4 T9 (Xi T4 876 6)) q) (by omega)
            have t77 : z224 = 1 → TOK T9 := by assumption
            have c77 : z224 = 1 → Xi S 876 6 ≤ Xi T9 876 7 := by omega
            have d77 : v1 < Xi S 876 6 := by omega
            refine l_istore rfl rfl rfl ?_
            refine l_goto rfl rfl ?_
            refine l_iload rfl rfl ?_
            refine l_if_ne rfl rfl (by unfold rg; omega) (fun w226 => ?_) (fun w227 => ?_)
            · refine l_aload_n rfl rfl ?_
              refine l_gfr rfl rfl rfl rfl rfl ((hFT9 899 4 rfl).2.2.trans hru) ?_
              refine l_bipush rfl rfl ?_
              refine l_iload_n rfl rfl ?_
              refine l_iconst rfl ?_
              refine l_iadd rfl ?_
              refine l_iastore (n := 8) rfl (lay_248 (by omega)) (by omega) (by omega) (by unfold rg; omega) ?_
              obtain ⟨U10, eU10⟩ : ∃ T : sS, T = uI T9 (248 + ru) ((6 : Int).toNat) (Int32.ofInt (v3 + 1)) := ⟨_, rfl⟩
              rw [← eU10]
              have hHU10 : HI U10 := by rw [eU10]; exact HI_w hHT9 (by rw [lh_ru6 (by omega)]; omega) (by rw [lh_ru6 (by omega)]; omega)
              have hFU10 : FR md_rr_rulePhrases S U10 := by rw [eU10]; exact FR.wI hFT9 (mdf_i (r := (248, 272, 0, 100000)) (List.mem_of_getElem? (i := 3) rfl) (inR_i (by omega) (by omega) (by omega) (by omega)))
              have w229 : Xi U10 (248 + ru) ((6 : Int).toNat) = (v3 + 1) := by rw [eU10]; exact Xi_same (by unfold rg; omega)
              have rU10_1 : Xi U10 (248 + ru) 1 = Xi T9 (248 + ru) 1 := by rw [eU10, Xi_ne (by omega)]
              have rU10_2 : Xi U10 (248 + ru) 2 = Xi T9 (248 + ru) 2 := by rw [eU10, Xi_ne (by omega)]
              have rU10_3 : Xi U10 (248 + ru) 3 = Xi T9 (248 + ru) 3 := by rw [eU10, Xi_ne (by omega)]
              have rU10_4 : Xi U10 (248 + ru) 4 = Xi T9 (248 + ru) 4 := by rw [eU10, Xi_ne (by omega)]
              have rU10_5 : Xi U10 (248 + ru) 5 = Xi T9 (248 + ru) 5 := by rw [eU10, Xi_ne (by omega)]
              have rU10_6 : Xi U10 (248 + ru) 6 = (v3 + 1) := by rw [eU10]; exact Xi_same (by unfold rg; omega)
              have rU10_7 : Xi U10 (248 + ru) 7 = Xi T9 (248 + ru) 7 := by rw [eU10, Xi_ne (by omega)]
              have i140 : IGR T1 U10 (0 ≤ Xi S 895 4) := igr_w eU10 (by omega) (i77 (by omega))
              have k140 : KTK S U10 (Xi S 876 6) := fun r hr => by rw [eU10, Xi_ne (by omega)]; exact k77 (by omega) r hr
              have t140 : TOK U10 := tok_ru eU10 (by omega) (t77 (by omega))
              have r140 : Xi U10 876 7 = Xi T9 876 7 := by rw [eU10, Xi_ne (by omega)]
              have o140 : CLok U10 (0 ≤ Xi S 895 4) _ := CLok_x (sG_ru hHT9 eU10 hrk) (fun j => by rw [eU10, Xi_ne (by omega)]) (o77 (by omega))
              refine l_aload_n rfl rfl ?_
              refine l_gfr rfl rfl rfl rfl rfl (hHU10.r 899 0 876 rfl) ?_
              refine l_iload rfl rfl ?_
              have w230 : Xi U10 246 5 = Xi T4 246 5 := (show Xi U10 246 5 = Xi T9 246 5 from by rw [eU10]; exact Xi_ne (by omega)).trans ((show Xi T9 246 5 = Xi T4 246 5 from w225.x _ _ rfl))
              have w231 : 0 ≤ Xi T4 246 5 ∧ Xi T4 246 5 ≤ 200000 := hHT4.c _ _
              have w232 : Xi U10 876 6 = Xi T1 876 6 := (show Xi U10 876 6 = Xi T9 876 6 from by rw [eU10]; exact Xi_ne (by omega)).trans ( (show Xi T9 876 6 = Xi T4 876 6 from w225.x _ _ rfl).trans ((show Xi T4 876 6 = Xi T1 876 6 from w69.x _ _ rfl)))
              have w233 : 0 ≤ Xi T1 876 6 ∧ Xi T1 876 6 ≤ 5002 := hHT1.c _ _
              have w234 : Xi U10 876 7 = Xi T9 876 7 := (show Xi U10 876 7 = Xi T9 876 7 from by rw [eU10]; exact Xi_ne (by omega))
              have w235 : 0 ≤ Xi T9 876 7 ∧ Xi T9 876 7 ≤ 5125 := hHT9.c _ _
              have w236 : Xi U10 895 4 = Xi T1 895 4 := (show Xi U10 895 4 = Xi T9 895 4 from by rw [eU10]; exact Xi_ne (by omega)).trans ( (show Xi T9 895 4 = Xi T4 895 4 from w225.x _ _ rfl).trans ((show Xi T4 895 4 = Xi T1 895 4 from w69.x _ _ rfl)))
              have w237 : -1 ≤ Xi T1 895 4 ∧ Xi T1 895 4 ≤ 15 := hHT1.c _ _
              have w238 : Xi U10 899 6 = Xi T1 899 6 := (show Xi U10 899 6 = Xi T9 899 6 from by rw [eU10]; exact Xi_ne (by omega)).trans ( (show Xi T9 899 6 = Xi T4 899 6 from w225.x _ _ rfl).trans ((show Xi T4 899 6 = Xi T1 899 6 from w69.x _ _ rfl)))
              have w239 : 0 ≤ Xi T1 899 6 ∧ Xi T1 899 6 ≤ 6 := hHT1.c _ _
              refine l_callV rfl rfl rfl (t_to_typeAt hHU10 z58 ⟨by omega, by omega⟩ _) ?_
              rintro _ _ ⟨rfl, z243, rfl, w243, w240, w241, w242⟩
              clear w241 w242
              show Rl _ _ _ _ _ [iv z243] _ _
              have g147 : Xi U10 877 (Xi S 876 6 - 1).toNat = 103 := by rw [k140 _ (by omega)]; exact hdot
              have e147 : z243 = 105 → z58 ≠ Xi S 876 6 - 1 := fun q e => by rw [← e] at g147; omega
              refine l_bipush rfl rfl ?_
              refine l_icmp_ne rfl rfl (by unfold rg; omega) (by unfold rg; omega) (fun w244 => ?_) (fun w245 => ?_)
              · refine l_iconst rfl ?_
                refine l_istore_n rfl rfl rfl ?_
                refine l_iload rfl rfl ?_
                refine l_iconst rfl ?_
                refine l_iadd rfl ?_
                refine l_istore_n rfl rfl rfl ?_
                refine l_iinc rfl rfl rfl rfl ?_
                refine l_goto rfl rfl ?_
                have w246 : Xi U10 246 5 = Xi T4 246 5 := (show Xi U10 246 5 = Xi T9 246 5 from by rw [eU10]; exact Xi_ne (by omega)).trans ((show Xi T9 246 5 = Xi T4 246 5 from w225.x _ _ rfl))
                have w247 : 0 ≤ Xi T4 246 5 ∧ Xi T4 246 5 ≤ 200000 := hHT4.c _ _
                have w248 : Xi U10 876 6 = Xi T1 876 6 := (show Xi U10 876 6 = Xi T9 876 6 from by rw [eU10]; exact Xi_ne (by omega)).trans ( (show Xi T9 876 6 = Xi T4 876 6 from w225.x _ _ rfl).trans ((show Xi T4 876 6 = Xi T1 876 6 from w69.x _ _ rfl)))
                have w249 : 0 ≤ Xi T1 876 6 ∧ Xi T1 876 6 ≤ 5002 := hHT1.c _ _
                have w250 : Xi U10 876 7 = Xi T9 876 7 := (show Xi U10 876 7 = Xi T9 876 7 from by rw [eU10]; exact Xi_ne (by omega))
                have w251 : 0 ≤ Xi T9 876 7 ∧ Xi T9 876 7 ≤ 5125 := hHT9.c _ _
                have w252 : Xi U10 895 4 = Xi T1 895 4 := (show Xi U10 895 4 = Xi T9 895 4 from by rw [eU10]; exact Xi_ne (by omega)).trans ( (show Xi T9 895 4 = Xi T4 895 4 from w225.x _ _ rfl).trans ((show Xi T4 895 4 = Xi T1 895 4 from w69.x _ _ rfl)))
                have w253 : -1 ≤ Xi T1 895 4 ∧ Xi T1 895 4 ≤ 15 := hHT1.c _ _
                have w254 : Xi U10 899 6 = Xi T1 899 6 := (show Xi U10 899 6 = Xi T9 899 6 from by rw [eU10]; exact Xi_ne (by omega)).trans ( (show Xi T9 899 6 = Xi T4 899 6 from w225.x _ _ rfl).trans ((show Xi T4 899 6 = Xi T1 899 6 from w69.x _ _ rfl)))
                have w255 : 0 ≤ Xi T1 899 6 ∧ Xi T1 899 6 ≤ 6 := hHT1.c _ _
                exact Rl_weak (ih11 _ (by omega) U10 hHU10 hFU10 ((z58 + 1)) (0) ((v3 + 1)) (by omega) (by omega) (by omega) (by first | exact sG.rf hH | exact sG.tr hg11 (sG_i ((show FR md_rr_rulePhrases T1 U10 from by rw [eU10]; exact FR.wI (FR.tr (FR.tr FR.rf w69 rfl) w225 rfl) (mdf_i (r := (248, 272, 0, 100000)) (List.mem_of_getElem? (i := 3) rfl) (inR_i (by omega) (by omega) (by omega) (by omega)))) : FR md_rr_rulePhrases T1 U10) rfl (kcl_o eU10 (by omega) (kcl_tr (kcl_tr KCL.rf (by assumption : KCL T1 T4 _)) (by assumption : KCL T4 T9 _))) i140 (by omega) (by omega))) ((kru_w eU10 (kru_f w225 rfl (kru_f w69 rfl hq11)))) (by first | exact hb | exact RB_p hHT1 hrk (sG_i ((show FR md_rr_rulePhrases T1 U10 from by rw [eU10]; exact FR.wI (FR.tr (FR.tr FR.rf w69 rfl) w225 rfl) (mdf_i (r := (248, 272, 0, 100000)) (List.mem_of_getElem? (i := 3) rfl) (inR_i (by omega) (by omega) (by omega) (by omega)))) : FR md_rr_rulePhrases T1 U10) rfl (kcl_o eU10 (by omega) (kcl_tr (kcl_tr KCL.rf (by assumption : KCL T1 T4 _)) (by assumption : KCL T4 T9 _))) i140 (by omega) (by omega)) (by omega) (by omega) (by omega) (by omega) (by omega) (by omega) (by omega) (by omega) (o140.mono (fun e => by omega)) (by omega) hb11) (by omega) (by omega) (by first | exact hT | exact t140) (by omega) (by first | exact KTK.rf | exact k140) (by omega) (by omega) rfl) (And.intro rfl (And.intro rfl (And.intro rfl (And.intro rfl (True.intro)))))
              · refine l_iconst rfl ?_
                refine l_goto rfl rfl ?_
                refine l_istore_n rfl rfl rfl ?_
                refine l_iload rfl rfl ?_
                refine l_iconst rfl ?_
                refine l_iadd rfl ?_
                refine l_istore_n rfl rfl rfl ?_
                refine l_iinc rfl rfl rfl rfl ?_
                refine l_goto rfl rfl ?_
                have w256 : Xi U10 246 5 = Xi T4 246 5 := (show Xi U10 246 5 = Xi T9 246 5 from by rw [eU10]; exact Xi_ne (by omega)).trans ((show Xi T9 246 5 = Xi T4 246 5 from w225.x _ _ rfl))
                have w257 : 0 ≤ Xi T4 246 5 ∧ Xi T4 246 5 ≤ 200000 := hHT4.c _ _
                have w258 : Xi U10 876 6 = Xi T1 876 6 := (show Xi U10 876 6 = Xi T9 876 6 from by rw [eU10]; exact Xi_ne (by omega)).trans ( (show Xi T9 876 6 = Xi T4 876 6 from w225.x _ _ rfl).trans ((show Xi T4 876 6 = Xi T1 876 6 from w69.x _ _ rfl)))
                have w259 : 0 ≤ Xi T1 876 6 ∧ Xi T1 876 6 ≤ 5002 := hHT1.c _ _
                have w260 : Xi U10 876 7 = Xi T9 876 7 := (show Xi U10 876 7 = Xi T9 876 7 from by rw [eU10]; exact Xi_ne (by omega))
                have w261 : 0 ≤ Xi T9 876 7 ∧ Xi T9 876 7 ≤ 5125 := hHT9.c _ _
                have w262 : Xi U10 895 4 = Xi T1 895 4 := (show Xi U10 895 4 = Xi T9 895 4 from by rw [eU10]; exact Xi_ne (by omega)).trans ( (show Xi T9 895 4 = Xi T4 895 4 from w225.x _ _ rfl).trans ((show Xi T4 895 4 = Xi T1 895 4 from w69.x _ _ rfl)))
                have w263 : -1 ≤ Xi T1 895 4 ∧ Xi T1 895 4 ≤ 15 := hHT1.c _ _
                have w264 : Xi U10 899 6 = Xi T1 899 6 := (show Xi U10 899 6 = Xi T9 899 6 from by rw [eU10]; exact Xi_ne (by omega)).trans ( (show Xi T9 899 6 = Xi T4 899 6 from w225.x _ _ rfl).trans ((show Xi T4 899 6 = Xi T1 899 6 from w69.x _ _ rfl)))
                have w265 : 0 ≤ Xi T1 899 6 ∧ Xi T1 899 6 ≤ 6 := hHT1.c _ _
                exact Rl_weak (ih11 _ (by omega) U10 hHU10 hFU10 ((z58 + 1)) (1) ((v3 + 1)) (by omega) (by omega) (by omega) (by first | exact sG.rf hH | exact sG.tr hg11 (sG_i ((show FR md_rr_rulePhrases T1 U10 from by rw [eU10]; exact FR.wI (FR.tr (FR.tr FR.rf w69 rfl) w225 rfl) (mdf_i (r := (248, 272, 0, 100000)) (List.mem_of_getElem? (i := 3) rfl) (inR_i (by omega) (by omega) (by omega) (by omega)))) : FR md_rr_rulePhrases T1 U10) rfl (kcl_o eU10 (by omega) (kcl_tr (kcl_tr KCL.rf (by assumption : KCL T1 T4 _)) (by assumption : KCL T4 T9 _))) i140 (by omega) (by omega))) ((kru_w eU10 (kru_f w225 rfl (kru_f w69 rfl hq11)))) (by first | exact hb | exact RB_p hHT1 hrk (sG_i ((show FR md_rr_rulePhrases T1 U10 from by rw [eU10]; exact FR.wI (FR.tr (FR.tr FR.rf w69 rfl) w225 rfl) (mdf_i (r := (248, 272, 0, 100000)) (List.mem_of_getElem? (i := 3) rfl) (inR_i (by omega) (by omega) (by omega) (by omega)))) : FR md_rr_rulePhrases T1 U10) rfl (kcl_o eU10 (by omega) (kcl_tr (kcl_tr KCL.rf (by assumption : KCL T1 T4 _)) (by assumption : KCL T4 T9 _))) i140 (by omega) (by omega)) (by omega) (by omega) (by omega) (by omega) (by omega) (by omega) (by omega) (by omega) (o140.mono (fun e => by omega)) (by omega) hb11) (by omega) (by omega) (by first | exact hT | exact t140) (by omega) (by first | exact KTK.rf | exact k140) (by omega) (by omega) rfl) (And.intro rfl (And.intro rfl (And.intro rfl (And.intro rfl (True.intro)))))
            · refine l_iconst rfl ?_
              refine l_ireturn rfl rfl ?_
              have w266 : Xi T9 246 2 = Xi T1 246 2 := (show Xi T9 246 2 = Xi T4 246 2 from w225.x _ _ rfl).trans ((show Xi T4 246 2 = Xi T1 246 2 from w69.x _ _ rfl))
              have w267 : 0 ≤ Xi T1 246 2 ∧ Xi T1 246 2 ≤ 24 := hHT1.c _ _
              have w268 : Xi T9 246 5 = Xi T4 246 5 := (show Xi T9 246 5 = Xi T4 246 5 from w225.x _ _ rfl)
              have w269 : 0 ≤ Xi T4 246 5 ∧ Xi T4 246 5 ≤ 200000 := hHT4.c _ _
              have w270 : Xi T9 876 6 = Xi T1 876 6 := (show Xi T9 876 6 = Xi T4 876 6 from w225.x _ _ rfl).trans ((show Xi T4 876 6 = Xi T1 876 6 from w69.x _ _ rfl))
              have w271 : 0 ≤ Xi T1 876 6 ∧ Xi T1 876 6 ≤ 5002 := hHT1.c _ _
              have w272 : 0 ≤ Xi T9 876 7 ∧ Xi T9 876 7 ≤ 5125 := hHT9.c _ _
              have w273 : 0 ≤ Xi T9 876 8 ∧ Xi T9 876 8 ≤ 9 := hHT9.c _ _
              have w274 : Xi T9 895 4 = Xi T1 895 4 := (show Xi T9 895 4 = Xi T4 895 4 from w225.x _ _ rfl).trans ((show Xi T4 895 4 = Xi T1 895 4 from w69.x _ _ rfl))
              have w275 : -1 ≤ Xi T1 895 4 ∧ Xi T1 895 4 ≤ 15 := hHT1.c _ _
              have w276 : Xi T9 899 6 = Xi T1 899 6 := (show Xi T9 899 6 = Xi T4 899 6 from w225.x _ _ rfl).trans ((show Xi T4 899 6 = Xi T1 899 6 from w69.x _ _ rfl))
              have w277 : 0 ≤ Xi T1 899 6 ∧ Xi T1 899 6 ≤ 6 := hHT1.c _ _
              exact ⟨hHT9, hFT9, _, rfl, ⟨by omega, by omega⟩, (fun q => by first | (exfalso; omega) | exact sG.tr hg11 (sG.tr g181 g192)), (fun q => (kru_f w225 rfl (kru_f w69 rfl hq11))), (by omega), (fun q => by first | (exfalso; omega) | exact RB_e hHT1 hrk (sG.tr g181 g192) (by omega) (by omega) (by omega) (by omega) (by omega) (by omega) (by omega) (by omega) (by omega) (by omega) hb11), (fun q => by first | omega | (exfalso; omega))⟩
        · refine l_aload_n rfl rfl ?_
          refine l_gfr rfl rfl rfl rfl rfl (hHT1.r 899 0 876 rfl) ?_
          refine l_bipush rfl rfl ?_
          refine l_iload_n rfl rfl ?_
          have w278 : 0 ≤ Xi T1 246 5 ∧ Xi T1 246 5 ≤ 200000 := hHT1.c _ _
          have w279 : 0 ≤ Xi T1 876 6 ∧ Xi T1 876 6 ≤ 5002 := hHT1.c _ _
          have w280 : 0 ≤ Xi T1 876 7 ∧ Xi T1 876 7 ≤ 5125 := hHT1.c _ _
          have w281 : -1 ≤ Xi T1 895 4 ∧ Xi T1 895 4 ≤ 15 := hHT1.c _ _
          have w282 : 0 ≤ Xi T1 899 6 ∧ Xi T1 899 6 ≤ 6 := hHT1.c _ _
          refine l_callV rfl rfl rfl (t_to_wrong hHT1 9 v1 ⟨by omega, by omega⟩ ⟨by omega, by omega⟩ _) ?_
          rintro _ T11 ⟨hHT11, w286, z285, rfl, w285, w283, w284⟩
          have hFT11 : FR md_rr_rulePhrases S T11 := FR.tr hFT1 w286 rfl
          show Rl _ _ _ _ _ [iv z285] _ _
          have rT11_1 : Xi T11 (248 + ru) 1 = Xi T1 (248 + ru) 1 := FR_ru w286 rfl (by omega)
          have rT11_2 : Xi T11 (248 + ru) 2 = Xi T1 (248 + ru) 2 := FR_ru w286 rfl (by omega)
          have rT11_3 : Xi T11 (248 + ru) 3 = Xi T1 (248 + ru) 3 := FR_ru w286 rfl (by omega)
          have rT11_4 : Xi T11 (248 + ru) 4 = Xi T1 (248 + ru) 4 := FR_ru w286 rfl (by omega)
          have rT11_5 : Xi T11 (248 + ru) 5 = Xi T1 (248 + ru) 5 := FR_ru w286 rfl (by omega)
          have rT11_6 : Xi T11 (248 + ru) 6 = Xi T1 (248 + ru) 6 := FR_ru w286 rfl (by omega)
          have rT11_7 : Xi T11 (248 + ru) 7 = Xi T1 (248 + ru) 7 := FR_ru w286 rfl (by omega)
          refine l_ireturn rfl (retI_z (by omega)) ?_
          have w287 : Xi T11 246 2 = Xi T1 246 2 := (show Xi T11 246 2 = Xi T1 246 2 from w286.x _ _ rfl)
          have w288 : 0 ≤ Xi T1 246 2 ∧ Xi T1 246 2 ≤ 24 := hHT1.c _ _
          have w289 : Xi T11 246 5 = Xi T1 246 5 := (show Xi T11 246 5 = Xi T1 246 5 from w286.x _ _ rfl)
          have w290 : 0 ≤ Xi T1 246 5 ∧ Xi T1 246 5 ≤ 200000 := hHT1.c _ _
          have w291 : Xi T11 876 6 = Xi T1 876 6 := (show Xi T11 876 6 = Xi T1 876 6 from w286.x _ _ rfl)
          have w292 : 0 ≤ Xi T1 876 6 ∧ Xi T1 876 6 ≤ 5002 := hHT1.c _ _
          have w293 : Xi T11 876 7 = Xi T1 876 7 := (show Xi T11 876 7 = Xi T1 876 7 from w286.x _ _ rfl)
          have w294 : 0 ≤ Xi T1 876 7 ∧ Xi T1 876 7 ≤ 5125 := hHT1.c _ _
          have w295 : 0 ≤ Xi T11 876 8 ∧ Xi T11 876 8 ≤ 9 := hHT11.c _ _
          have w296 : Xi T11 895 4 = Xi T1 895 4 := (show Xi T11 895 4 = Xi T1 895 4 from w286.x _ _ rfl)
          have w297 : -1 ≤ Xi T1 895 4 ∧ Xi T1 895 4 ≤ 15 := hHT1.c _ _
          have w298 : Xi T11 899 6 = Xi T1 899 6 := (show Xi T11 899 6 = Xi T1 899 6 from w286.x _ _ rfl)
          have w299 : 0 ≤ Xi T1 899 6 ∧ Xi T1 899 6 ≤ 6 := hHT1.c _ _
          exact ⟨hHT11, hFT11, _, rfl, ⟨by omega, by omega⟩, (fun q => by first | (exfalso; omega) | exact sG.tr hg11 (sG.tr g181 g192)), (fun q => (kru_f w286 rfl hq11)), (by omega), (fun q => by first | (exfalso; omega) | exact RB_e hHT1 hrk (sG.tr g181 g192) (by omega) (by omega) (by omega) (by omega) (by omega) (by omega) (by omega) (by omega) (by omega) (by omega) hb11), (fun q => by first | omega | (exfalso; omega))⟩
  refine l_aload_n rfl rfl ?_
  refine l_gfi rfl rfl rfl rfl rfl ?_
  have w300 : -1 ≤ (Xi S 899 5) ∧ (Xi S 899 5) ≤ 5131 := hH.c _ _
  refine l_iconst rfl ?_
  refine l_iadd rfl ?_
  refine l_istore_n rfl rfl rfl ?_
  refine l_iconst rfl ?_
  refine l_istore_n rfl rfl rfl ?_
  refine l_iconst rfl ?_
  refine l_istore_n rfl rfl rfl ?_
  have w301 : 0 ≤ Xi S 246 5 ∧ Xi S 246 5 ≤ 200000 := hH.c _ _
  have w302 : 0 ≤ Xi S 876 6 ∧ Xi S 876 6 ≤ 5002 := hH.c _ _
  have w303 : 0 ≤ Xi S 876 7 ∧ Xi S 876 7 ≤ 5125 := hH.c _ _
  have w304 : -1 ≤ Xi S 895 4 ∧ Xi S 895 4 ≤ 15 := hH.c _ _
  have w305 : 0 ≤ Xi S 899 6 ∧ Xi S 899 6 ≤ 6 := hH.c _ _
  exact Rl_weak (C11 _ S hH hF (((Xi S 899 5) + 1)) (1) (0) (by omega) (by omega) (by omega) (by first | exact sG.rf hH | exact sG.tr hg11 (sG_i (FR.rf : FR md_rr_rulePhrases S S) rfl KCL.rf i140 (by omega) (by omega))) (KRU.rf) (by first | exact hb | exact RB_p hH hrk (sG_i (FR.rf : FR md_rr_rulePhrases S S) rfl KCL.rf i140 (by omega) (by omega)) (by omega) (by omega) (by omega) (by omega) (by omega) (by omega) (by omega) (by omega) (o140.mono (fun e => by omega)) (by omega) hb11) (by omega) (by omega) (by first | exact hT | exact t140) (by omega) (by first | exact KTK.rf | exact k140) (by omega) (by omega) rfl) (And.intro rfl (And.intro rfl (And.intro rfl (And.intro rfl (True.intro)))))
/-! SAFETY: definitions and rules told -/
/-- what holds between sentences, but for the count of clauses -/
def WX (S : sS) : Prop := LEX S ∧ TX S ∧ DEF S ∧ RUL S ∧ CMD S ∧ AK S ∧ VAL S
theorem wx_of {S : sS} (h : WI S) : WX S := ⟨h.1, h.2.1, h.2.2.1, h.2.2.2.1, h.2.2.2.2.1, h.2.2.2.2.2.1, h.2.2.2.2.2.2.2⟩
theorem WX_g {l : List rec} {S T : sS} (hH : HI S) (h : FR l S T) (g : sG S T) (e1 : mdf l 1 3 = false) (e2 : dL l = true) (e3 : (kdis l kX && !(mdf l 20 1)) = true) (e5 : kdis l [(5, 6), (11, 14)] = true) (e6 : (kdis l [(248, 272)] && !(mdf l 246 2)) = true) (e7 : (kdis l [(5, 6), (19, 20), (883, 884), (885, 887)] && !(mdf l 882 3)) = true) (e8 : kdis l [(8, 9)] = true) (e9 : kdis l [(19, 20), (5, 6)] = true) (hW : WX S) : WX T := by
  obtain ⟨w1, w2, w3, w4, w5, w6, w8⟩ := hW
  have k5 := h.smk e5
  simp only [Bool.and_eq_true, Bool.not_eq_true'] at e6
  have k6 := h.smk e6.1
  have h24 : 0 ≤ Xi S 246 2 ∧ Xi S 246 2 ≤ 24 := hH.c _ _
  exact ⟨LEX_FR h e1 e2 w1, TX_FR h e3 w2, DEF_sG hH g (fun a _ => ⟨k5.x 11 rfl a, k5.x 12 rfl a, k5.x 13 rfl a⟩) (fun a h1 h2 => by rw [k5.x 5 rfl] at h2; omega) w3, RUL_sG hH g (fun i hi j => k6.x _ (inK_i (a := 248) (b := 272) (by decide) (by omega) (by omega)) j) (h.x 246 2 e6.2) w4, CMD_FR h e7 w5, AK_FR h e9 w6, VAL_fr h e8 (k5.x 5 rfl 4) w8⟩
theorem WI_df {l : List rec} {S T : sS} {n : Int} (hH : HI S) (h : FR l S T) (e3 : (kdis l kX && !(mdf l 20 1)) = true) (e4 : (kdis l kG && (!(mdf l 20 1) && (!(mdf l 246 8) && !(mdf l 246 5)))) = true) (e6 : (kdis l [(248, 272)] && !(mdf l 246 2)) = true) (e7 : (kdis l [(883, 884), (885, 887), (19, 20)] && !(mdf l 882 3)) = true) (e8 : kdis l [(8, 9)] = true) (hL : LEX T) (ho : ∀ j, j ≠ 3 → Xi T 5 j = Xi S 5 j) (h3 : Xi T 5 3 = Xi S 5 3 + 1) (hn : n = Xi S 5 3) (h11 : ∀ a : Nat, a ≠ n.toNat → Xi T 11 a = Xi S 11 a ∧ Xi T 12 a = Xi S 12 a ∧ Xi T 13 a = Xi S 13 a) (hf : Xi T 12 n.toNat = Xi S 246 5 - Xi S 899 6) (ht : Xi T 13 n.toNat = Xi S 899 6) (hb : 0 ≤ Xi S 899 6 ∧ Xi S 899 6 ≤ Xi S 246 5 ∧ Xi S 246 5 ≤ 600) (hk : ∀ i : Nat, (i : Int) < Xi S 899 6 → TSok S True ((Xi S 246 5 - Xi S 899 6).toNat + i)) (hcc : Xi S 246 5 ≤ 19 * Xi S 246 2 + 6 * (Xi S 5 3 + 1)) (hW : WX S) : WI T := by
  obtain ⟨w1, w2, w3, w4, w5, w6, w8⟩ := hW
  have h5 : ∀ j, Xi S 5 j ≤ Xi T 5 j := fun j => by
    by_cases e : j = 3
    · rw [e, h3]; omega
    · rw [ho j e]; exact Int.le_refl _
  have g := FR_sG hH h e4 (h5 3) (h5 8)
  simp only [Bool.and_eq_true, Bool.not_eq_true'] at e6 e7 e4
  have k6 := h.smk e6.1
  have k7 := h.smk e7.1
  have h24 : 0 ≤ Xi S 246 2 ∧ Xi S 246 2 ≤ 24 := hH.c _ _
  have h53 : 0 ≤ Xi S 5 3 ∧ Xi S 5 3 ≤ 24 := hH.c _ _
  have x5 := h.x 246 5 e4.2.2.2
  refine ⟨hL, TX_FR h e3 w2, fun a ha hc => ?_, RUL_sG hH g (fun i hi j => k6.x _ (inK_i (a := 248) (b := 272) (by decide) (by omega) (by omega)) j) (h.x 246 2 e6.2) w4, ?_, ?_, ?_, VAL_fr h e8 (ho 4 (by decide)) w8⟩
  · by_cases e : a = n.toNat
    · subst e
      rw [hf, ht, x5]
      exact ⟨⟨by omega, by omega, by omega⟩, fun i hi => TSok_sG hH g (by omega) (by omega) (hk i hi)⟩
    · obtain ⟨x, y, z⟩ := h11 a e
      rw [x] at hc
      rw [y, z, x5]
      obtain ⟨⟨b1, b2, b3⟩, b4⟩ := w3 a (by omega) hc
      exact ⟨⟨b1, b2, b3⟩, fun i hi => TSok_sG hH g (by omega) (by omega) (b4 i hi)⟩
  · intro i hi
    rw [h.x 882 3 e7.2] at hi
    rw [k7.x 883 rfl, k7.x 885 rfl, k7.x 886 rfl, k7.x 19 rfl, ho 8 (by decide)]
    exact w5 i hi
  · obtain ⟨a, b⟩ := w6
    refine ⟨by rw [ho 8 (by decide)]; exact a, ?_⟩
    simp only [k7.x 19 rfl]
    exact b
  · unfold CC
    rw [x5, h.x 246 2 e6.2, h3]
    exact hcc
theorem WI_ru {l : List rec} {S T : sS} {r : Nat} (hH : HI S) (h : FR l S T) (g : sG S T) (k : KRU S T r) (e1 : mdf l 1 3 = false) (e2 : dL l = true) (e3 : (kdis l kX && !(mdf l 20 1)) = true) (e5 : kdis l [(5, 6), (11, 14)] = true) (e7 : (kdis l [(5, 6), (19, 20), (883, 884), (885, 887)] && !(mdf l 882 3)) = true) (e8 : kdis l [(8, 9)] = true) (e9 : kdis l [(19, 20), (5, 6)] = true) (hr : (r : Int) = Xi S 246 2) (h2 : Xi T 246 2 = Xi S 246 2 + 1) (hc : Xi T 246 5 ≤ Xi S 246 5 + 19) (hu : RUL1 T r) (hW : WI S) : WI T := by
  obtain ⟨w1, w2, w3, w4, w5, w6, w7, w8⟩ := hW
  have k5 := h.smk e5
  have h24 : 0 ≤ Xi S 246 2 ∧ Xi S 246 2 ≤ 24 := hH.c _ _
  refine ⟨LEX_FR h e1 e2 w1, TX_FR h e3 w2, DEF_sG hH g (fun a _ => ⟨k5.x 11 rfl a, k5.x 12 rfl a, k5.x 13 rfl a⟩) (fun a h1 h2 => by rw [k5.x 5 rfl] at h2; omega) w3, fun i hi => ?_, CMD_FR h e7 w5, AK_FR h e9 w6, ?_, VAL_fr h e8 (k5.x 5 rfl 4) w8⟩
  · by_cases e : i = r
    · rw [e]; exact hu
    · exact RUL1_sG hH g (by omega) (fun j => k i j (by omega) e) (w4 i (by omega))
  · unfold CC at *
    rw [k5.x 5 rfl 3, h2]
    omega
def md_rr_keepTests : List rec := [(12, 13, 0, 100000), (13, 14, 0, 100000)]
abbrev Q_rr_keepTests (S : sS) (adj : Int) : pst := fun r S1 => HI S1 ∧ FR md_rr_keepTests S S1 ∧ (r = none ∧ (Xi S1 12 adj.toNat = Xi S 246 5 - Xi S 899 6 ∧ Xi S1 13 adj.toNat = Xi S 899 6) ∧ (∀ j : Nat, j ≠ adj.toNat → Xi S1 12 j = Xi S 12 j ∧ Xi S1 13 j = Xi S 13 j))
set_option maxRecDepth 100000 in
theorem t_rr_keepTests {S : sS} (hH : HI S) (adj : Int) (hadj : 0 ≤ adj ∧ adj ≤ 23) (d : Nat) : Mt lay0 (d + 1) m_rr_keepTests [.ref 899, iv adj] S (Q_rr_keepTests S adj) := by
  refine Mt_R rfl rfl ?_
  have hF : FR md_rr_keepTests S S := FR.rf
  have w1 : 0 ≤ Xi S 246 5 ∧ Xi S 246 5 ≤ 200000 := hH.c _ _
  have w2 : 0 ≤ Xi S 899 6 ∧ Xi S 899 6 ≤ 6 := hH.c _ _
  refine l_aload_n rfl rfl ?_
  refine l_gfr rfl rfl rfl rfl rfl (hH.r 899 1 1 rfl) ?_
  refine l_gfr rfl rfl rfl rfl rfl (hH.r 1 11 12 rfl) ?_
  refine l_iload_n rfl rfl ?_
  refine l_aload_n rfl rfl ?_
  refine l_gfr rfl rfl rfl rfl rfl (hH.r 899 3 246 rfl) ?_
  refine l_gfi rfl rfl rfl rfl rfl ?_
  refine l_aload_n rfl rfl ?_
  refine l_gfi rfl rfl rfl rfl rfl ?_
  refine l_isub rfl ?_
  refine l_iastore (n := 24) rfl rfl (by omega) (by omega) (by unfold rg; omega) ?_
  obtain ⟨U1, eU1⟩ : ∃ T : sS, T = uI S 12 ((adj).toNat) (Int32.ofInt ((Xi S 246 5) - (Xi S 899 6))) := ⟨_, rfl⟩
  rw [← eU1]
  have hHU1 : HI U1 := by rw [eU1]; exact HI_any hH (rfl)
  have hFU1 : FR md_rr_keepTests S U1 := by rw [eU1]; exact FR.wI hF (mdf_i (r := (12, 13, 0, 100000)) (List.mem_of_getElem? (i := 0) rfl) (inR_i (by omega) (by omega) (by omega) (by omega)))
  have w3 : Xi U1 12 ((adj).toNat) = ((Xi S 246 5) - (Xi S 899 6)) := by rw [eU1]; exact Xi_same (by unfold rg; omega)
  refine l_aload_n rfl rfl ?_
  refine l_gfr rfl rfl rfl rfl rfl (hHU1.r 899 1 1 rfl) ?_
  refine l_gfr rfl rfl rfl rfl rfl (hHU1.r 1 12 13 rfl) ?_
  refine l_iload_n rfl rfl ?_
  refine l_aload_n rfl rfl ?_
  refine l_gfi rfl rfl rfl rfl rfl ?_
  have w4 : (Xi U1 899 6) = (Xi S 899 6) := (show Xi U1 899 6 = Xi S 899 6 from by rw [eU1]; exact Xi_ne (by omega))
  rw [w4]
  refine l_iastore (n := 24) rfl rfl (by omega) (by omega) (by unfold rg; omega) ?_
  obtain ⟨U2, eU2⟩ : ∃ T : sS, T = uI U1 13 ((adj).toNat) (Int32.ofInt (Xi S 899 6)) := ⟨_, rfl⟩
  rw [← eU2]
  have hHU2 : HI U2 := by rw [eU2]; exact HI_w hHU1 (show 0 ≤ (Xi S 899 6) by omega) (show (Xi S 899 6) ≤ 6 by omega)
  have hFU2 : FR md_rr_keepTests S U2 := by rw [eU2]; exact FR.wI hFU1 (mdf_i (r := (13, 14, 0, 100000)) (List.mem_of_getElem? (i := 1) rfl) (inR_i (by omega) (by omega) (by omega) (by omega)))
  have w5 : Xi U2 13 ((adj).toNat) = (Xi S 899 6) := by rw [eU2]; exact Xi_same (by unfold rg; omega)
  refine l_return rfl rfl ?_
  exact ⟨hHU2, hFU2, rfl, (⟨by rw [eU2, Xi_ne (by omega), eU1]; exact Xi_same (by unfold rg; omega), by rw [eU2]; exact Xi_same (by unfold rg; omega)⟩), (fun j hj => ⟨by rw [eU2, Xi_ne (by omega), eU1, Xi_ne (by omega)], by rw [eU2, Xi_ne (by omega), eU1, Xi_ne (by omega)]⟩)⟩
def md_re_startDefinition__2 : List rec := [(876, 877, 8, 9), (876, 877, 9, 10), (891, 892, 9, 10), (892, 893, 0, 100000), (893, 894, 0, 100000), (895, 896, 3, 4), (895, 896, 4, 5)]
abbrev Q_re_startDefinition__2 (S : sS) : pst := fun r S1 => HI S1 ∧ FR md_re_startDefinition__2 S S1 ∧ (∃ z : Int, r = some (iv z) ∧ (0 ≤ z ∧ z ≤ 1) ∧ (z = 0 → Xi S1 876 8 ≠ 0) ∧ (z = 1 → Xi S1 5 3 < 24) ∧ (z = 1 → 0 ≤ Xi S1 895 4))
set_option maxRecDepth 100000 in
theorem t_re_startDefinition__2 {S : sS} (hH : HI S) (hL : LEX S) (hn0 : Xi S 891 9 = 0) (d : Nat) : Mt lay0 (d + 3) m_re_startDefinition [.ref 891] S (Q_re_startDefinition__2 S) := by
  refine Mt_R rfl rfl ?_
  have hF : FR md_re_startDefinition__2 S S := FR.rf
  have w1 : 0 ≤ Xi S 891 9 ∧ Xi S 891 9 ≤ 24 := hH.c _ _
  refine l_aload_n rfl rfl ?_
  refine l_gfr rfl rfl rfl rfl rfl (hH.r 891 0 876 rfl) ?_
  refine l_iconst rfl ?_
  have w2 : 0 ≤ Xi S 5 3 ∧ Xi S 5 3 ≤ 24 := hH.c _ _
  have w3 : 0 ≤ Xi S 876 7 ∧ Xi S 876 7 ≤ 5125 := hH.c _ _
  have w4 : 0 ≤ Xi S 891 9 ∧ Xi S 891 9 ≤ 24 := hH.c _ _
  have w5 : -1 ≤ Xi S 895 4 ∧ Xi S 895 4 ≤ 15 := hH.c _ _
  refine l_callV rfl rfl rfl (t_to_runEnd hH 3 ⟨by omega, by omega⟩ _) ?_
  rintro _ _ ⟨rfl, z13, rfl, w13, w6, w7, w8, w9, w10, w11, w12⟩
  clear w8 w9 w10 w11
  show Rl _ _ _ _ _ [iv z13] _ _
  refine l_istore_n rfl rfl rfl ?_
  refine l_aload_n rfl rfl ?_
  refine l_gfr rfl rfl rfl rfl rfl (hH.r 891 4 895 rfl) ?_
  refine l_iconst rfl ?_
  refine l_iconst rfl ?_
  refine l_iload_n rfl rfl ?_
  have w14 : 0 ≤ Xi S 5 3 ∧ Xi S 5 3 ≤ 24 := hH.c _ _
  have w15 : 0 ≤ Xi S 891 9 ∧ Xi S 891 9 ≤ 24 := hH.c _ _
  have w16 : -1 ≤ Xi S 895 4 ∧ Xi S 895 4 ≤ 15 := hH.c _ _
  refine l_callV rfl rfl rfl (t_me_find hH 0 3 z13 ⟨by omega, by omega⟩ ⟨by omega, by omega⟩ ⟨by omega, by omega⟩ (by first | assumption | exact (LEX_FR hF rfl rfl (by assumption : LEX S))) _) ?_
  rintro _ _ ⟨rfl, z20, rfl, w20, w17, w18, w19⟩
  have w21 : z20 ≠ -1 → _ := fun h => fb0 hH (w17 h)
  clear w18
  show Rl _ _ _ _ _ [iv z20] _ _
  refine l_istore_n rfl rfl rfl ?_
  refine l_aload_n rfl rfl ?_
  refine l_gfr rfl rfl rfl rfl rfl (hH.r 891 0 876 rfl) ?_
  refine l_iload_n rfl rfl ?_
  refine l_iconst rfl ?_
  refine l_iadd rfl ?_
  have w22 : 0 ≤ Xi S 5 3 ∧ Xi S 5 3 ≤ 24 := hH.c _ _
  have w23 : 0 ≤ Xi S 876 7 ∧ Xi S 876 7 ≤ 5125 := hH.c _ _
  have w24 : 0 ≤ Xi S 891 9 ∧ Xi S 891 9 ≤ 24 := hH.c _ _
  have w25 : -1 ≤ Xi S 895 4 ∧ Xi S 895 4 ≤ 15 := hH.c _ _
  refine l_callV rfl rfl rfl (t_to_runEnd hH (z13 + 1) ⟨by omega, by omega⟩ _) ?_
  rintro _ _ ⟨rfl, z33, rfl, w33, w26, w27, w28, w29, w30, w31, w32⟩
  clear w28 w29 w30 w31
  show Rl _ _ _ _ _ [iv z33] _ _
  refine l_istore_n rfl rfl rfl ?_
  refine l_aload_n rfl rfl ?_
  refine l_gfr rfl rfl rfl rfl rfl (hH.r 891 4 895 rfl) ?_
  refine l_bipush rfl rfl ?_
  refine l_iload_n rfl rfl ?_
  have w34 : 0 ≤ Xi S 5 3 ∧ Xi S 5 3 ≤ 24 := hH.c _ _
  have w35 : 0 ≤ Xi S 891 9 ∧ Xi S 891 9 ≤ 24 := hH.c _ _
  have w36 : -1 ≤ Xi S 895 4 ∧ Xi S 895 4 ≤ 15 := hH.c _ _
  refine l_callV rfl rfl rfl (t_me_startSelf hH 54 z20 ⟨by omega, by omega⟩ ⟨by omega, by omega⟩ _) ?_
  rintro _ T1 ⟨hHT1, w39, rfl, w37⟩
  have hFT1 : FR md_re_startDefinition__2 S T1 := FR.tr hF w39 rfl
  show Rl _ _ _ _ _ [] _ _
  refine l_iload_n rfl rfl ?_
  refine l_iconst rfl ?_
  refine l_icmp_ne rfl rfl (by unfold rg; omega) (by unfold rg; omega) (fun w40 => ?_) (fun w41 => ?_)
  · refine l_aload_n rfl rfl ?_
    refine l_iload_n rfl rfl ?_
    refine l_iconst rfl ?_
    refine l_iadd rfl ?_
    refine l_iload_n rfl rfl ?_
    refine l_aload_n rfl rfl ?_
    refine l_gfr rfl rfl rfl rfl rfl (hHT1.r 891 2 1 rfl) ?_
    refine l_iconst rfl ?_
    have w42 : Xi T1 5 3 = Xi S 5 3 := (show Xi T1 5 3 = Xi S 5 3 from w39.x _ _ rfl)
    have w43 : 0 ≤ Xi S 5 3 ∧ Xi S 5 3 ≤ 24 := hH.c _ _
    have w44 : Xi T1 891 9 = Xi S 891 9 := (show Xi T1 891 9 = Xi S 891 9 from w39.x _ _ rfl)
    have w45 : 0 ≤ Xi S 891 9 ∧ Xi S 891 9 ≤ 24 := hH.c _ _
    have w46 : -1 ≤ Xi T1 895 4 ∧ Xi T1 895 4 ≤ 15 := hHT1.c _ _
    refine l_callV rfl rfl rfl (t_vo_countOf hHT1 3 ⟨by omega, by omega⟩ _) ?_
    rintro _ _ ⟨rfl, z50, rfl, w50, w47, w48, w49⟩
    have w51 : z50 = Xi T1 5 3 ∧ 0 ≤ Xi T1 5 3 ∧ Xi T1 5 3 ≤ 24 := ⟨(w47 (by omega) (by omega)).1, hHT1.c 5 3⟩
    clear w47 w48 w49
    show Rl _ _ _ _ _ [iv z50, iv z33, iv (z13 + 1), .ref 891] _ _
    refine l_bipush rfl rfl ?_
    have w52 : Xi T1 5 3 = Xi S 5 3 := (show Xi T1 5 3 = Xi S 5 3 from w39.x _ _ rfl)
    have w53 : 0 ≤ Xi S 5 3 ∧ Xi S 5 3 ≤ 24 := hH.c _ _
    have w54 : Xi T1 891 9 = Xi S 891 9 := (show Xi T1 891 9 = Xi S 891 9 from w39.x _ _ rfl)
    have w55 : 0 ≤ Xi S 891 9 ∧ Xi S 891 9 ≤ 24 := hH.c _ _
    have w56 : -1 ≤ Xi T1 895 4 ∧ Xi T1 895 4 ≤ 15 := hHT1.c _ _
    refine l_callV rfl rfl rfl (t_re_takeNew hHT1 (z13 + 1) z33 z50 24 ⟨by omega, by omega⟩ ⟨by omega, by omega⟩ ⟨by omega, by omega⟩ ⟨by omega, by omega⟩ (by first | assumption | exact (LEX_FR hFT1 rfl rfl (by assumption : LEX S))) _) ?_
    rintro _ T2 ⟨hHT2, w63, z62, rfl, w62, w57, w58, w59, w60, w61⟩
    have hFT2 : FR md_re_startDefinition__2 S T2 := FR.tr hFT1 w63 rfl
    show Rl _ _ _ _ _ [iv z62] _ _
    refine l_ireturn rfl (retI_z (by omega)) ?_
    have w64 : Xi T2 5 3 = Xi S 5 3 := (show Xi T2 5 3 = Xi T1 5 3 from w63.x _ _ rfl).trans ((show Xi T1 5 3 = Xi S 5 3 from w39.x _ _ rfl))
    have w65 : 0 ≤ Xi S 5 3 ∧ Xi S 5 3 ≤ 24 := hH.c _ _
    have w66 : 0 ≤ Xi T2 876 8 ∧ Xi T2 876 8 ≤ 9 := hHT2.c _ _
    have w67 : 0 ≤ Xi T2 891 9 ∧ Xi T2 891 9 ≤ 24 := hHT2.c _ _
    have w68 : Xi T2 895 4 = Xi T1 895 4 := (show Xi T2 895 4 = Xi T1 895 4 from w63.x _ _ rfl)
    have w69 : -1 ≤ Xi T1 895 4 ∧ Xi T1 895 4 ≤ 15 := hHT1.c _ _
    exact ⟨hHT2, hFT2, _, rfl, ⟨by omega, by omega⟩, (by first | assumption | omega), (by omega), (by omega)⟩
  · refine l_aload_n rfl rfl ?_
    refine l_gfr rfl rfl rfl rfl rfl (hHT1.r 891 0 876 rfl) ?_
    refine l_iconst rfl ?_
    refine l_iconst rfl ?_
    have w70 : Xi T1 5 3 = Xi S 5 3 := (show Xi T1 5 3 = Xi S 5 3 from w39.x _ _ rfl)
    have w71 : 0 ≤ Xi S 5 3 ∧ Xi S 5 3 ≤ 24 := hH.c _ _
    have w72 : Xi T1 891 9 = Xi S 891 9 := (show Xi T1 891 9 = Xi S 891 9 from w39.x _ _ rfl)
    have w73 : 0 ≤ Xi S 891 9 ∧ Xi S 891 9 ≤ 24 := hH.c _ _
    have w74 : -1 ≤ Xi T1 895 4 ∧ Xi T1 895 4 ≤ 15 := hHT1.c _ _
    refine l_callV rfl rfl rfl (t_to_wrong hHT1 4 3 ⟨by omega, by omega⟩ ⟨by omega, by omega⟩ _) ?_
    rintro _ T3 ⟨hHT3, w78, z77, rfl, w77, w75, w76⟩
    have hFT3 : FR md_re_startDefinition__2 S T3 := FR.tr hFT1 w78 rfl
    show Rl _ _ _ _ _ [iv z77] _ _
    refine l_ireturn rfl (retI_z (by omega)) ?_
    have w79 : Xi T3 5 3 = Xi S 5 3 := (show Xi T3 5 3 = Xi T1 5 3 from w78.x _ _ rfl).trans ((show Xi T1 5 3 = Xi S 5 3 from w39.x _ _ rfl))
    have w80 : 0 ≤ Xi S 5 3 ∧ Xi S 5 3 ≤ 24 := hH.c _ _
    have w81 : 0 ≤ Xi T3 876 8 ∧ Xi T3 876 8 ≤ 9 := hHT3.c _ _
    have w82 : Xi T3 891 9 = Xi S 891 9 := (show Xi T3 891 9 = Xi T1 891 9 from w78.x _ _ rfl).trans ((show Xi T1 891 9 = Xi S 891 9 from w39.x _ _ rfl))
    have w83 : 0 ≤ Xi S 891 9 ∧ Xi S 891 9 ≤ 24 := hH.c _ _
    have w84 : Xi T3 895 4 = Xi T1 895 4 := (show Xi T3 895 4 = Xi T1 895 4 from w78.x _ _ rfl)
    have w85 : -1 ≤ Xi T1 895 4 ∧ Xi T1 895 4 ≤ 15 := hHT1.c _ _
    exact ⟨hHT3, hFT3, _, rfl, ⟨by omega, by omega⟩, (by first | assumption | omega), (by omega), (by omega)⟩
def md_re_endDefinition : List rec := [(1, 2, 3, 4), (2, 3, 0, 100000), (3, 4, 0, 100000), (4, 5, 0, 100000), (5, 6, 0, 100000), (10, 11, 0, 100000), (11, 12, 0, 100000), (12, 13, 0, 100000), (13, 14, 0, 100000)]
abbrev Q_re_endDefinition (S : sS) : pst := fun r S1 => HI S1 ∧ FR md_re_endDefinition S S1 ∧ (∃ z : Int, r = some (iv z) ∧ (0 ≤ z ∧ z ≤ 1) ∧ (WI S1) ∧ (z = 1))
set_option maxRecDepth 100000 in
theorem t_re_endDefinition {S : sS} (hH : HI S) (hX : WX S) (hc3 : Xi S 5 3 < 24) (hs : 0 ≤ Xi S 895 4) (hcc : Xi S 246 5 ≤ 19 * Xi S 246 2 + 6 * (Xi S 5 3 + 1)) (h6 : Xi S 899 6 ≤ Xi S 246 5 ∧ Xi S 246 5 ≤ 600) (ht : ∀ i : Nat, (i : Int) < Xi S 899 6 → TSok S True ((Xi S 246 5 - Xi S 899 6).toNat + i)) (d : Nat) : Mt lay0 (d + 4) m_re_endDefinition [.ref 891] S (Q_re_endDefinition S) := by
  refine Mt_R rfl rfl ?_
  have hF : FR md_re_endDefinition S S := FR.rf
  have w1 : 0 ≤ Xi S 246 2 ∧ Xi S 246 2 ≤ 24 := hH.c _ _
  have w2 : 0 ≤ Xi S 246 5 ∧ Xi S 246 5 ≤ 200000 := hH.c _ _
  have w3 : 0 ≤ Xi S 5 3 ∧ Xi S 5 3 ≤ 24 := hH.c _ _
  have w4 : -1 ≤ Xi S 895 4 ∧ Xi S 895 4 ≤ 15 := hH.c _ _
  have w5 : 0 ≤ Xi S 899 6 ∧ Xi S 899 6 ≤ 6 := hH.c _ _
  have hL := hX.1
  have h06 : 0 ≤ Xi S 899 6 ∧ Xi S 899 6 ≤ 6 := hH.c _ _
  refine l_aload_n rfl rfl ?_
  refine l_gfr rfl rfl rfl rfl rfl (hH.r 891 2 1 rfl) ?_
  refine l_iconst rfl ?_
  refine l_aload_n rfl rfl ?_
  refine l_gfr rfl rfl rfl rfl rfl (hH.r 891 0 876 rfl) ?_
  refine l_gfr rfl rfl rfl rfl rfl (hH.r 876 2 879 rfl) ?_
  refine l_aload_n rfl rfl ?_
  refine l_gfr rfl rfl rfl rfl rfl (hH.r 891 7 892 rfl) ?_
  refine l_iconst rfl ?_
  refine l_iaload (n := 24) rfl rfl (by omega) (by omega) (by unfold rg; omega) ?_
  have w6 : 0 ≤ (Xi S 892 ((0 : Int).toNat)) ∧ (Xi S 892 ((0 : Int).toNat)) ≤ 5130 := hH.c _ _
  have w7 : (Xi S 892 ((0 : Int).toNat)) = Xi S 892 0 := rfl
  refine l_aload_n rfl rfl ?_
  refine l_gfr rfl rfl rfl rfl rfl (hH.r 891 8 893 rfl) ?_
  refine l_iconst rfl ?_
  refine l_iaload (n := 24) rfl rfl (by omega) (by omega) (by unfold rg; omega) ?_
  have w8 : 0 ≤ (Xi S 893 ((0 : Int).toNat)) ∧ (Xi S 893 ((0 : Int).toNat)) ≤ 5130 := hH.c _ _
  have w9 : (Xi S 893 ((0 : Int).toNat)) = Xi S 893 0 := rfl
  have w10 : 0 ≤ Xi S 246 5 ∧ Xi S 246 5 ≤ 200000 := hH.c _ _
  have w11 : -1 ≤ Xi S 895 4 ∧ Xi S 895 4 ≤ 15 := hH.c _ _
  have w12 : 0 ≤ Xi S 899 6 ∧ Xi S 899 6 ≤ 6 := hH.c _ _
  refine l_callV rfl rfl rfl (t_vo_tellNew hH 3 879 5130 (Xi S 892 ((0 : Int).toNat)) (Xi S 893 ((0 : Int).toNat)) ⟨by omega, by omega⟩ rfl ⟨by omega, by omega⟩ ⟨by omega, by omega⟩ ⟨by omega, by omega⟩ (by first | assumption | exact (by first | assumption | exact (by assumption : WI S).1 : LEX S)) (show Xi S 5 3 + 1 ≤ 24 by first | omega | (have hz : Xi S 5 3 = Xi S 5 (3 : Int).toNat := rfl; omega)) (by first | assumption | omega) _) ?_
  rintro _ T1 ⟨hHT1, w19, z18, rfl, w18, w13, w14, w15, w16, w17⟩
  have hFT1 : FR md_re_endDefinition S T1 := FR.tr hF w19 rfl
  show Rl _ _ _ _ _ [iv z18] _ _
  have z24 : z18 = Xi S 5 3 := by have t := (by assumption : z18 = Xi S 5 (3 : Int).toNat); exact t
  have c24 : Xi T1 5 3 = Xi S 5 3 + 1 := by have t := (by assumption : Xi T1 5 (3 : Int).toNat = Xi S 5 (3 : Int).toNat + 1); exact t
  have o24 : ∀ j, j ≠ 3 → Xi T1 5 j = Xi S 5 j := by have t := (by assumption : ∀ j, j ≠ (3 : Int).toNat → Xi T1 5 j = Xi S 5 j); exact t
  have l24 : LEX T1 := by assumption
  have e24 : ∀ j, Xi T1 11 j = Xi S 11 j ∧ Xi T1 12 j = Xi S 12 j ∧ Xi T1 13 j = Xi S 13 j := fun j => ⟨((by assumption : FR md_vo_tellNew S T1).cx 11 rfl j).1, ((by assumption : FR md_vo_tellNew S T1).cx 12 rfl j).1, ((by assumption : FR md_vo_tellNew S T1).cx 13 rfl j).1⟩
  refine l_istore_n rfl rfl rfl ?_
  refine l_aload_n rfl rfl ?_
  refine l_gfr rfl rfl rfl rfl rfl (hHT1.r 891 2 1 rfl) ?_
  refine l_gfr rfl rfl rfl rfl rfl (hHT1.r 1 9 10 rfl) ?_
  refine l_iload_n rfl rfl ?_
  refine l_aload_n rfl rfl ?_
  refine l_gfr rfl rfl rfl rfl rfl (hHT1.r 891 4 895 rfl) ?_
  refine l_gfi rfl rfl rfl rfl rfl ?_
  have w20 : (Xi T1 895 4) = (Xi S 895 4) := (show Xi T1 895 4 = Xi S 895 4 from w19.x _ _ rfl)
  rw [w20]
  refine l_iastore (n := 24) rfl rfl (by omega) (by omega) (by unfold rg; omega) ?_
  obtain ⟨U2, eU2⟩ : ∃ T : sS, T = uI T1 10 ((z18).toNat) (Int32.ofInt (Xi S 895 4)) := ⟨_, rfl⟩
  rw [← eU2]
  have hHU2 : HI U2 := by rw [eU2]; exact HI_w hHT1 (show 0 ≤ (Xi S 895 4) by omega) (show (Xi S 895 4) ≤ 15 by omega)
  have hFU2 : FR md_re_endDefinition S U2 := by rw [eU2]; exact FR.wI hFT1 (mdf_i (r := (10, 11, 0, 100000)) (List.mem_of_getElem? (i := 5) rfl) (inR_i (by omega) (by omega) (by omega) (by omega)))
  have w21 : Xi U2 10 ((z18).toNat) = (Xi S 895 4) := by rw [eU2]; exact Xi_same (by unfold rg; omega)
  have q43 : ∀ k j, k ≠ 10 → Xi U2 k j = Xi T1 k j := fun k j hk => by rw [eU2, Xi_ne (by omega)]
  have l43 : LEX U2 := LEX_FR (FR_e eU2) rfl rfl l24
  refine l_aload_n rfl rfl ?_
  refine l_gfr rfl rfl rfl rfl rfl (hHU2.r 891 2 1 rfl) ?_
  refine l_gfr rfl rfl rfl rfl rfl (hHU2.r 1 10 11 rfl) ?_
  refine l_iload_n rfl rfl ?_
  refine l_iconst rfl ?_
  refine l_iastore (n := 24) rfl rfl (by omega) (by omega) (by unfold rg; omega) ?_
  obtain ⟨U3, eU3⟩ : ∃ T : sS, T = uI U2 11 ((z18).toNat) (Int32.ofInt (-1)) := ⟨_, rfl⟩
  rw [← eU3]
  have hHU3 : HI U3 := by rw [eU3]; exact HI_w hHU2 (show -1 ≤ (-1) by omega) (show (-1) ≤ 23 by omega)
  have hFU3 : FR md_re_endDefinition S U3 := by rw [eU3]; exact FR.wI hFU2 (mdf_i (r := (11, 12, 0, 100000)) (List.mem_of_getElem? (i := 6) rfl) (inR_i (by omega) (by omega) (by omega) (by omega)))
  have w22 : Xi U3 11 ((z18).toNat) = (-1) := by rw [eU3]; exact Xi_same (by unfold rg; omega)
  have q53 : ∀ k j, k ≠ 11 → Xi U3 k j = Xi U2 k j := fun k j hk => by rw [eU3, Xi_ne (by omega)]
  have r53 : ∀ j : Nat, j ≠ (z18).toNat → Xi U3 11 j = Xi U2 11 j := fun j hj => by rw [eU3, Xi_ne (by omega)]
  have l53 : LEX U3 := LEX_FR (FR_e eU3) rfl rfl l43
  refine l_aload_n rfl rfl ?_
  refine l_gfr rfl rfl rfl rfl rfl (hHU3.r 891 5 899 rfl) ?_
  refine l_iload_n rfl rfl ?_
  have w23 : Xi U3 246 5 = Xi S 246 5 := (show Xi U3 246 5 = Xi U2 246 5 from by rw [eU3]; exact Xi_ne (by omega)).trans ( (show Xi U2 246 5 = Xi T1 246 5 from by rw [eU2]; exact Xi_ne (by omega)).trans ((show Xi T1 246 5 = Xi S 246 5 from w19.x _ _ rfl)))
  have w24 : 0 ≤ Xi S 246 5 ∧ Xi S 246 5 ≤ 200000 := hH.c _ _
  have w25 : Xi U3 895 4 = Xi S 895 4 := (show Xi U3 895 4 = Xi U2 895 4 from by rw [eU3]; exact Xi_ne (by omega)).trans ( (show Xi U2 895 4 = Xi T1 895 4 from by rw [eU2]; exact Xi_ne (by omega)).trans ((show Xi T1 895 4 = Xi S 895 4 from w19.x _ _ rfl)))
  have w26 : -1 ≤ Xi S 895 4 ∧ Xi S 895 4 ≤ 15 := hH.c _ _
  have w27 : Xi U3 899 6 = Xi S 899 6 := (show Xi U3 899 6 = Xi U2 899 6 from by rw [eU3]; exact Xi_ne (by omega)).trans ( (show Xi U2 899 6 = Xi T1 899 6 from by rw [eU2]; exact Xi_ne (by omega)).trans ((show Xi T1 899 6 = Xi S 899 6 from w19.x _ _ rfl)))
  have w28 : 0 ≤ Xi S 899 6 ∧ Xi S 899 6 ≤ 6 := hH.c _ _
  refine l_callV rfl rfl rfl (t_rr_keepTests hHU3 z18 ⟨by omega, by omega⟩ _) ?_
  rintro _ T4 ⟨hHT4, w32, rfl, w29, w30⟩
  have hFT4 : FR md_re_endDefinition S T4 := FR.tr hFU3 w32 rfl
  show Rl _ _ _ _ _ [] _ _
  have l59 : LEX T4 := LEX_FR (by assumption : FR md_rr_keepTests U3 T4) rfl rfl l53
  have q59 : ∀ j, Xi T4 5 j = Xi U3 5 j ∧ Xi T4 11 j = Xi U3 11 j := fun j => ⟨((by assumption : FR md_rr_keepTests U3 T4).cx 5 rfl j).1, ((by assumption : FR md_rr_keepTests U3 T4).cx 11 rfl j).1⟩
  have p59 : ∀ j, Xi T4 5 j = Xi T1 5 j := fun j => ((q59 j).1.trans (q53 5 j (by decide))).trans (q43 5 j (by decide))
  have a59 : Xi T4 12 (z18).toNat = Xi U3 246 5 - Xi U3 899 6 ∧ Xi T4 13 (z18).toNat = Xi U3 899 6 := by assumption
  have b59 : ∀ j : Nat, j ≠ (z18).toNat → Xi T4 12 j = Xi U3 12 j ∧ Xi T4 13 j = Xi U3 13 j := by assumption
  have k59 : ∀ j : Nat, j ≠ (z18).toNat → Xi T4 11 j = Xi S 11 j ∧ Xi T4 12 j = Xi S 12 j ∧ Xi T4 13 j = Xi S 13 j := fun j hj => ⟨((q59 j).2.trans (r53 j hj)).trans ((q43 11 j (by decide)).trans (e24 j).1), ((b59 j hj).1.trans (q53 12 j (by decide))).trans ((q43 12 j (by decide)).trans (e24 j).2.1), ((b59 j hj).2.trans (q53 13 j (by decide))).trans ((q43 13 j (by decide)).trans (e24 j).2.2)⟩
  have w59 : WI T4 := WI_df hH hFT4 rfl rfl rfl rfl rfl l59 (fun j hj => (p59 j).trans (o24 j hj)) ((p59 3).trans c24) z24 k59 (by omega) (by omega) (by omega) ht hcc hX
  refine l_iconst rfl ?_
  refine l_ireturn rfl rfl ?_
  have w33 : Xi T4 246 5 = Xi S 246 5 := (show Xi T4 246 5 = Xi U3 246 5 from w32.x _ _ rfl).trans ( (show Xi U3 246 5 = Xi U2 246 5 from by rw [eU3]; exact Xi_ne (by omega)).trans ( (show Xi U2 246 5 = Xi T1 246 5 from by rw [eU2]; exact Xi_ne (by omega)).trans ((show Xi T1 246 5 = Xi S 246 5 from w19.x _ _ rfl))))
  have w34 : 0 ≤ Xi S 246 5 ∧ Xi S 246 5 ≤ 200000 := hH.c _ _
  have w35 : Xi T4 895 4 = Xi S 895 4 := (show Xi T4 895 4 = Xi U3 895 4 from w32.x _ _ rfl).trans ( (show Xi U3 895 4 = Xi U2 895 4 from by rw [eU3]; exact Xi_ne (by omega)).trans ( (show Xi U2 895 4 = Xi T1 895 4 from by rw [eU2]; exact Xi_ne (by omega)).trans ((show Xi T1 895 4 = Xi S 895 4 from w19.x _ _ rfl))))
  have w36 : -1 ≤ Xi S 895 4 ∧ Xi S 895 4 ≤ 15 := hH.c _ _
  have w37 : Xi T4 899 6 = Xi S 899 6 := (show Xi T4 899 6 = Xi U3 899 6 from w32.x _ _ rfl).trans ( (show Xi U3 899 6 = Xi U2 899 6 from by rw [eU3]; exact Xi_ne (by omega)).trans ( (show Xi U2 899 6 = Xi T1 899 6 from by rw [eU2]; exact Xi_ne (by omega)).trans ((show Xi T1 899 6 = Xi S 899 6 from w19.x _ _ rfl))))
  have w38 : 0 ≤ Xi S 899 6 ∧ Xi S 899 6 ≤ 6 := hH.c _ _
  exact ⟨hHT4, hFT4, _, rfl, ⟨by omega, by omega⟩, (w59), (by omega)⟩
/-! SAFETY of the reference: kinds, texts -/
def ABV (S : sS) : Prop := ∀ k : Nat, k < 16 → Xi S 917 k < k
theorem ABV_FR {l : List rec} {S T : sS} (h : FR l S T) (e : kdis l [(917, 918)] = true) (hB : ABV S) : ABV T := fun k hk => by rw [(h.smk e).x 917 rfl]; exact hB k hk
def OKT (v n : Int) : Prop := n ≤ 0 ∨ (0 ≤ v ∧ v + n ≤ 5000)
theorem okt_2 {a b c d : Int} (h : OKT a b) (e1 : c = a) (e2 : d = b) : OKT c d := by rw [e1, e2]; exact h
def mD (l : List rec) (js : List Nat) : Bool := js.all (fun j => !(mdf l 904 j))
theorem mD_x {l : List rec} {js : List Nat} {S T : sS} (h : FR l S T) (e : mD l js = true) (j : Nat) (hj : j ∈ js) : Xi T 904 j = Xi S 904 j := h.x 904 j (by
  have t := List.all_eq_true.mp e j hj
  simpa using t)
/-- kinds of objects, and what was told of texts -/
def TXM (S : sS) : Prop := (∀ o : Int, 0 ≤ o → o < Xi S 904 19 → Xi S 918 o.toNat < Xi S 904 16) ∧
  (∀ o p : Int, 0 ≤ o → o < Xi S 904 19 → 0 ≤ p → p < 12 → Xi S 930 (12 * o + p).toNat ≠ 0 → p < Xi S 904 32 ∧ (Xi S 928 p.toNat = 1 → OKT (Xi S 931 (12 * o + p).toNat) (Xi S 932 (12 * o + p).toNat))) ∧
  ∀ o p : Int, 0 ≤ o → o < Xi S 904 16 → 0 ≤ p → p < 12 → Xi S 933 (12 * o + p).toNat ≠ 0 → p < Xi S 904 32 ∧ (Xi S 928 p.toNat = 1 → OKT (Xi S 934 (12 * o + p).toNat) (Xi S 935 (12 * o + p).toNat))
theorem TXM_FR {l : List rec} {S T : sS} (h : FR l S T) (e : (kdis l [(930, 936), (928, 929), (918, 919)] && mD l [16, 19, 32]) = true) (hX : TXM S) : TXM T := by
  rw [Bool.and_eq_true] at e
  have k := h.smk e.1
  unfold TXM
  simp only [k.x 930 rfl, k.x 931 rfl, k.x 932 rfl, k.x 933 rfl, k.x 934 rfl, k.x 935 rfl, k.x 928 rfl, k.x 918 rfl, mD_x h e.2 16 (by decide), mD_x h e.2 19 (by decide), mD_x h e.2 32 (by decide)]
  exact hX
def bp (k : Nat) : Prop := k = 905 ∨ k = 906
theorem bp_sv {k : Nat} (h : bp k) : Nat.ble SV k = false := by rcases h with rfl | rfl <;> rfl
theorem lay_bp {k : Nat} (h : bp k) : lay0 k = (3, 5000) := by rcases h with rfl | rfl <;> rfl
theorem bpc {S : sS} {t j : Nat} (h : HI S) (ht : bp t) : -128 ≤ Xi S t j ∧ Xi S t j ≤ 127 := by
  rcases ht with rfl | rfl
  · exact h.c 905 j
  · exact h.c 906 j
def sml (c : Int) : Int := if 65 ≤ c ∧ c ≤ 90 then c + 32 else c
def ltr (c : Int) : Int := if 97 ≤ sml c ∧ sml c ≤ 122 then 1 else 0
theorem ltr_of {z x : Int} (h0 : 0 ≤ z ∧ z ≤ 1) (h : (z = 1 → 97 ≤ x ∧ x ≤ 122) ∧ (z = 0 → x < 97 ∨ 122 < x)) : z = if 97 ≤ x ∧ x ≤ 122 then 1 else 0 := by
  split <;> omega
abbrev Q_mo_in (S : sS) (v : Int) (lo : Int) (hi : Int) : pst := fun r S1 => S = S1 ∧ (∃ z : Int, r = some (iv z) ∧ (0 ≤ z ∧ z ≤ 1) ∧ ((z = 1 → lo ≤ v ∧ v ≤ hi) ∧ (z = 0 → v < lo ∨ hi < v)))
set_option maxRecDepth 100000 in
theorem t_mo_in {S : sS} (hH : HI S) (v : Int) (lo : Int) (hi : Int) (hv : -2147483648 ≤ v ∧ v ≤ 2147483647) (hlo : -2147483648 ≤ lo ∧ lo ≤ 2147483647) (hhi : -2147483648 ≤ hi ∧ hi ≤ 2147483647) (d : Nat) : Mt lay0 (d + 1) m_mo_in [iv v, iv lo, iv hi] S (Q_mo_in S v lo hi) := by
  refine Mt_R rfl rfl ?_
  refine l_iload_n rfl rfl ?_
  refine l_iload_n rfl rfl ?_
  refine l_icmp_lt rfl rfl (by unfold rg; omega) (by unfold rg; omega) (fun w1 => ?_) (fun w2 => ?_)
  · refine l_iconst rfl ?_
    refine l_ireturn rfl rfl ?_
    exact ⟨rfl, _, rfl, ⟨by omega, by omega⟩, (by first | assumption | omega)⟩
  · refine l_iload_n rfl rfl ?_
    refine l_iload_n rfl rfl ?_
    refine l_icmp_gt rfl rfl (by unfold rg; omega) (by unfold rg; omega) (fun w3 => ?_) (fun w4 => ?_)
    · refine l_iconst rfl ?_
      refine l_ireturn rfl rfl ?_
      exact ⟨rfl, _, rfl, ⟨by omega, by omega⟩, (by first | assumption | omega)⟩
    · refine l_iconst rfl ?_
      refine l_goto rfl rfl ?_
      refine l_ireturn rfl rfl ?_
      exact ⟨rfl, _, rfl, ⟨by omega, by omega⟩, (by first | assumption | omega)⟩
abbrev Q_mo_isBelow (S : sS) (kind : Int) (of_ : Int) : pst := fun r S1 => S = S1 ∧ (∃ z : Int, r = some (iv z) ∧ (0 ≤ z ∧ z ≤ 1) ∧ (z = 1 → 0 ≤ kind ∧ 0 ≤ of_))
set_option maxRecDepth 100000 in
theorem t_mo_isBelow {S : sS} (hH : HI S) (kind : Int) (of_ : Int) (hkind : -1 ≤ kind ∧ kind ≤ 15) (hof_ : -2147483648 ≤ of_ ∧ of_ ≤ 2147483647) (hB : ABV S) (d : Nat) : Mt lay0 (d + 1) m_mo_isBelow [.ref 904, iv kind, iv of_] S (Q_mo_isBelow S kind of_) := by
  refine Mt_R rfl rfl ?_
  have C2 : ∀ (n2 : Nat) (v3 : Int), (-1 ≤ v3 ∧ v3 ≤ 15) → (v3 ≤ kind) → n2 = (v3 + 1).toNat → Rl lay0 (d + 0) m_mo_isBelow 2 [(0, .ref 904), (2, iv of_), (3, iv v3)] [] S (Q_mo_isBelow S kind of_) := by
    intro n2
    induction n2 using Nat.strongRecOn with
    | ind n2 ih2 =>
      intro v3 w1 w2 hm2
      have C21 : ∀  (v3 : Int), (-1 ≤ v3 ∧ v3 ≤ 15) → (v3 ≤ kind) → Rl lay0 (d + 0) m_mo_isBelow 21 [(2, iv of_), (3, iv v3)] [] S (Q_mo_isBelow S kind of_) := by
        intro v3 w3 w4
        refine l_iload_n rfl rfl ?_
        refine l_iload_n rfl rfl ?_
        refine l_icmp_ne rfl rfl (by unfold rg; omega) (by unfold rg; omega) (fun w5 => ?_) (fun w6 => ?_)
        · refine l_iconst rfl ?_
          refine l_ireturn rfl rfl ?_
          exact ⟨rfl, _, rfl, ⟨by omega, by omega⟩, (by first | assumption | omega)⟩
        · refine l_iload_n rfl rfl ?_
          refine l_if_lt rfl rfl (by unfold rg; omega) (fun w7 => ?_) (fun w8 => ?_)
          · refine l_iconst rfl ?_
            refine l_ireturn rfl rfl ?_
            exact ⟨rfl, _, rfl, ⟨by omega, by omega⟩, (by first | assumption | omega)⟩
          · refine l_iconst rfl ?_
            refine l_goto rfl rfl ?_
            refine l_ireturn rfl rfl ?_
            exact ⟨rfl, _, rfl, ⟨by omega, by omega⟩, (by first | assumption | omega)⟩
      refine l_iload_n rfl rfl ?_
      refine l_if_lt rfl rfl (by unfold rg; omega) (fun w9 => ?_) (fun w10 => ?_)
      · exact Rl_weak (C21 (v3) (by omega) (by omega)) (And.intro rfl (And.intro rfl (True.intro)))
      · refine l_iload_n rfl rfl ?_
        refine l_iload_n rfl rfl ?_
        refine l_icmp_eq rfl rfl (by unfold rg; omega) (by unfold rg; omega) (fun w11 => ?_) (fun w12 => ?_)
        · exact Rl_weak (C21 (v3) (by omega) (by omega)) (And.intro rfl (And.intro rfl (True.intro)))
        · refine l_aload_n rfl rfl ?_
          refine l_gfr rfl rfl rfl rfl rfl (hH.r 904 17 917 rfl) ?_
          refine l_iload_n rfl rfl ?_
          refine l_iaload (n := 16) rfl rfl (by omega) (by omega) (by unfold rg; omega) ?_
          have w13 : -1 ≤ (Xi S 917 ((v3).toNat)) ∧ (Xi S 917 ((v3).toNat)) ≤ 15 := hH.c _ _
          have b16 : (Xi S 917 ((v3).toNat)) < v3 := by have t := hB (v3).toNat (by omega); omega
          refine l_istore_n rfl rfl rfl ?_
          refine l_goto rfl rfl ?_
          exact Rl_weak (ih2 _ (by omega) ((Xi S 917 ((v3).toNat))) (by omega) (by omega) rfl) (And.intro rfl (And.intro rfl (And.intro rfl (True.intro))))
  refine l_iload_n rfl rfl ?_
  refine l_istore_n rfl rfl rfl ?_
  exact Rl_weak (C2 _ (kind) (by omega) (by omega) rfl) (And.intro rfl (And.intro rfl (And.intro rfl (True.intro))))
abbrev Q_mo_orderClass (S : sS) (r : Int) : pst := fun r S1 => S = S1 ∧ (∃ z : Int, r = some (iv z) ∧ (0 ≤ z ∧ z ≤ 2))
set_option maxRecDepth 100000 in
theorem t_mo_orderClass {S : sS} (hH : HI S) (r : Int) (hr : 0 ≤ r ∧ r ≤ 23) (d : Nat) : Mt lay0 (d + 1) m_mo_orderClass [.ref 904, iv r] S (Q_mo_orderClass S r) := by
  refine Mt_R rfl rfl ?_
  refine l_aload_n rfl rfl ?_
  refine l_gfr rfl rfl rfl rfl rfl (hH.r 904 133 980 rfl) ?_
  refine l_iload_n rfl rfl ?_
  refine l_iaload (n := 24) rfl rfl (by omega) (by omega) (by unfold rg; omega) ?_
  have w1 : -1 ≤ (Xi S 980 ((r).toNat)) ∧ (Xi S 980 ((r).toNat)) ≤ 23 := hH.c _ _
  refine l_iconst rfl ?_
  refine l_icmp_eq rfl rfl (by unfold rg; omega) (by unfold rg; omega) (fun w2 => ?_) (fun w3 => ?_)
  · refine l_aload_n rfl rfl ?_
    refine l_gfr rfl rfl rfl rfl rfl (hH.r 904 134 981 rfl) ?_
    refine l_iload_n rfl rfl ?_
    refine l_iaload (n := 24) rfl rfl (by omega) (by omega) (by unfold rg; omega) ?_
    have w4 : -1 ≤ (Xi S 981 ((r).toNat)) ∧ (Xi S 981 ((r).toNat)) ≤ 15 := hH.c _ _
    refine l_iconst rfl ?_
    refine l_icmp_eq rfl rfl (by unfold rg; omega) (by unfold rg; omega) (fun w5 => ?_) (fun w6 => ?_)
    · refine l_iconst rfl ?_
      refine l_ireturn rfl rfl ?_
      exact ⟨rfl, _, rfl, ⟨by omega, by omega⟩⟩
    · refine l_iconst rfl ?_
      refine l_goto rfl rfl ?_
      refine l_ireturn rfl rfl ?_
      exact ⟨rfl, _, rfl, ⟨by omega, by omega⟩⟩
  · refine l_iconst rfl ?_
    refine l_goto rfl rfl ?_
    refine l_ireturn rfl rfl ?_
    exact ⟨rfl, _, rfl, ⟨by omega, by omega⟩⟩
abbrev Q_mo_depthOf (S : sS) (kind : Int) : pst := fun r S1 => S = S1 ∧ (∃ z : Int, r = some (iv z) ∧ (0 ≤ z ∧ z ≤ 16))
set_option maxRecDepth 100000 in
theorem t_mo_depthOf {S : sS} (hH : HI S) (kind : Int) (hkind : -1 ≤ kind ∧ kind ≤ 15) (hB : ABV S) (d : Nat) : Mt lay0 (d + 1) m_mo_depthOf [.ref 904, iv kind] S (Q_mo_depthOf S kind) := by
  refine Mt_R rfl rfl ?_
  have C4 : ∀ (n4 : Nat) (v2 : Int) (v3 : Int), (0 ≤ v2 ∧ v2 ≤ 16) → (-1 ≤ v3 ∧ v3 ≤ 15) → (v2 + v3 ≤ 15) → (v2 ≤ 16) → n4 = (v3 + 1).toNat → Rl lay0 (d + 0) m_mo_depthOf 4 [(0, .ref 904), (2, iv v2), (3, iv v3)] [] S (Q_mo_depthOf S kind) := by
    intro n4
    induction n4 using Nat.strongRecOn with
    | ind n4 ih4 =>
      intro v2 v3 w1 w2 w3 w4 hm4
      refine l_iload_n rfl rfl ?_
      refine l_if_lt rfl rfl (by unfold rg; omega) (fun w5 => ?_) (fun w6 => ?_)
      · refine l_iload_n rfl rfl ?_
        refine l_ireturn rfl rfl ?_
        exact ⟨rfl, _, rfl, ⟨by omega, by omega⟩⟩
      · refine l_iinc rfl rfl rfl rfl ?_
        refine l_aload_n rfl rfl ?_
        refine l_gfr rfl rfl rfl rfl rfl (hH.r 904 17 917 rfl) ?_
        refine l_iload_n rfl rfl ?_
        refine l_iaload (n := 16) rfl rfl (by omega) (by omega) (by unfold rg; omega) ?_
        have w7 : -1 ≤ (Xi S 917 ((v3).toNat)) ∧ (Xi S 917 ((v3).toNat)) ≤ 15 := hH.c _ _
        have b16 : (Xi S 917 ((v3).toNat)) < v3 := by have t := hB (v3).toNat (by omega); omega
        refine l_istore_n rfl rfl rfl ?_
        refine l_goto rfl rfl ?_
        exact Rl_weak (ih4 _ (by omega) ((v2 + 1)) ((Xi S 917 ((v3).toNat))) (by omega) (by omega) (by omega) (by omega) rfl) (And.intro rfl (And.intro rfl (And.intro rfl (True.intro))))
  refine l_iconst rfl ?_
  refine l_istore_n rfl rfl rfl ?_
  refine l_iload_n rfl rfl ?_
  refine l_istore_n rfl rfl rfl ?_
  exact Rl_weak (C4 _ (0) (kind) (by omega) (by omega) (by omega) (by omega) rfl) (And.intro rfl (And.intro rfl (And.intro rfl (True.intro))))
abbrev Q_mo_isAhead (S : sS) (r : Int) (s : Int) : pst := fun r S1 => S = S1 ∧ (∃ z : Int, r = some (iv z) ∧ (0 ≤ z ∧ z ≤ 1))
set_option maxRecDepth 100000 in
theorem t_mo_isAhead {S : sS} (hH : HI S) (r : Int) (s : Int) (hr : 0 ≤ r ∧ r ≤ 23) (hs : 0 ≤ s ∧ s ≤ 23) (hB : ABV S) (d : Nat) : Mt lay0 (d + 2) m_mo_isAhead [.ref 904, iv r, iv s] S (Q_mo_isAhead S r s) := by
  refine Mt_R rfl rfl ?_
  have C93 : Rl lay0 (d + 1) m_mo_isAhead 93 [(0, .ref 904), (1, iv r), (2, iv s)] [] S (Q_mo_isAhead S r s) := by
    have C138 : Rl lay0 (d + 1) m_mo_isAhead 138 [(0, .ref 904), (1, iv r), (2, iv s)] [] S (Q_mo_isAhead S r s) := by
      refine l_aload_n rfl rfl ?_
      refine l_gfr rfl rfl rfl rfl rfl (hH.r 904 138 985 rfl) ?_
      refine l_iload_n rfl rfl ?_
      refine l_iaload (n := 24) rfl rfl (by omega) (by omega) (by unfold rg; omega) ?_
      have w1 : 0 ≤ (Xi S 985 ((r).toNat)) ∧ (Xi S 985 ((r).toNat)) ≤ 6 := hH.c _ _
      refine l_aload_n rfl rfl ?_
      refine l_gfr rfl rfl rfl rfl rfl (hH.r 904 138 985 rfl) ?_
      refine l_iload_n rfl rfl ?_
      refine l_iaload (n := 24) rfl rfl (by omega) (by omega) (by unfold rg; omega) ?_
      have w2 : 0 ≤ (Xi S 985 ((s).toNat)) ∧ (Xi S 985 ((s).toNat)) ≤ 6 := hH.c _ _
      refine l_icmp_eq rfl rfl (by unfold rg; omega) (by unfold rg; omega) (fun w3 => ?_) (fun w4 => ?_)
      · refine l_iload_n rfl rfl ?_
        refine l_iload_n rfl rfl ?_
        refine l_icmp_ge rfl rfl (by unfold rg; omega) (by unfold rg; omega) (fun w5 => ?_) (fun w6 => ?_)
        · refine l_iconst rfl ?_
          refine l_ireturn rfl rfl ?_
          exact ⟨rfl, _, rfl, ⟨by omega, by omega⟩⟩
        · refine l_iconst rfl ?_
          refine l_goto rfl rfl ?_
          refine l_ireturn rfl rfl ?_
          exact ⟨rfl, _, rfl, ⟨by omega, by omega⟩⟩
      · refine l_aload_n rfl rfl ?_
        refine l_gfr rfl rfl rfl rfl rfl (hH.r 904 138 985 rfl) ?_
        refine l_iload_n rfl rfl ?_
        refine l_iaload (n := 24) rfl rfl (by omega) (by omega) (by unfold rg; omega) ?_
        refine l_aload_n rfl rfl ?_
        refine l_gfr rfl rfl rfl rfl rfl (hH.r 904 138 985 rfl) ?_
        refine l_iload_n rfl rfl ?_
        refine l_iaload (n := 24) rfl rfl (by omega) (by omega) (by unfold rg; omega) ?_
        refine l_icmp_le rfl rfl (by unfold rg; omega) (by unfold rg; omega) (fun w7 => ?_) (fun w8 => ?_)
        · refine l_iconst rfl ?_
          refine l_goto rfl rfl ?_
          refine l_ireturn rfl rfl ?_
          exact ⟨rfl, _, rfl, ⟨by omega, by omega⟩⟩
        · refine l_iconst rfl ?_
          refine l_goto rfl rfl ?_
          refine l_ireturn rfl rfl ?_
          exact ⟨rfl, _, rfl, ⟨by omega, by omega⟩⟩
    refine l_aload_n rfl rfl ?_
    refine l_iload_n rfl rfl ?_
    refine l_callV rfl rfl rfl (t_mo_orderClass hH r ⟨by omega, by omega⟩ _) ?_
    rintro _ _ ⟨rfl, z9, rfl, w9⟩
    show Rl _ _ _ _ _ [iv z9] _ _
    refine l_iconst rfl ?_
    refine l_icmp_ne rfl rfl (by unfold rg; omega) (by unfold rg; omega) (fun w10 => ?_) (fun w11 => ?_)
    · exact Rl_weak (C138  ) (And.intro rfl (And.intro rfl (And.intro rfl (True.intro))))
    · refine l_aload_n rfl rfl ?_
      refine l_gfr rfl rfl rfl rfl rfl (hH.r 904 135 982 rfl) ?_
      refine l_iload_n rfl rfl ?_
      refine l_iaload (n := 24) rfl rfl (by omega) (by omega) (by unfold rg; omega) ?_
      have w12 : 0 ≤ (Xi S 982 ((r).toNat)) ∧ (Xi S 982 ((r).toNat)) ≤ 6 := hH.c _ _
      refine l_aload_n rfl rfl ?_
      refine l_gfr rfl rfl rfl rfl rfl (hH.r 904 135 982 rfl) ?_
      refine l_iload_n rfl rfl ?_
      refine l_iaload (n := 24) rfl rfl (by omega) (by omega) (by unfold rg; omega) ?_
      have w13 : 0 ≤ (Xi S 982 ((s).toNat)) ∧ (Xi S 982 ((s).toNat)) ≤ 6 := hH.c _ _
      refine l_icmp_eq rfl rfl (by unfold rg; omega) (by unfold rg; omega) (fun w14 => ?_) (fun w15 => ?_)
      · exact Rl_weak (C138  ) (And.intro rfl (And.intro rfl (And.intro rfl (True.intro))))
      · refine l_aload_n rfl rfl ?_
        refine l_gfr rfl rfl rfl rfl rfl (hH.r 904 135 982 rfl) ?_
        refine l_iload_n rfl rfl ?_
        refine l_iaload (n := 24) rfl rfl (by omega) (by omega) (by unfold rg; omega) ?_
        refine l_aload_n rfl rfl ?_
        refine l_gfr rfl rfl rfl rfl rfl (hH.r 904 135 982 rfl) ?_
        refine l_iload_n rfl rfl ?_
        refine l_iaload (n := 24) rfl rfl (by omega) (by omega) (by unfold rg; omega) ?_
        refine l_icmp_le rfl rfl (by unfold rg; omega) (by unfold rg; omega) (fun w16 => ?_) (fun w17 => ?_)
        · refine l_iconst rfl ?_
          refine l_ireturn rfl rfl ?_
          exact ⟨rfl, _, rfl, ⟨by omega, by omega⟩⟩
        · refine l_iconst rfl ?_
          refine l_goto rfl rfl ?_
          refine l_ireturn rfl rfl ?_
          exact ⟨rfl, _, rfl, ⟨by omega, by omega⟩⟩
  refine l_aload_n rfl rfl ?_
  refine l_iload_n rfl rfl ?_
  refine l_callV rfl rfl rfl (t_mo_orderClass hH r ⟨by omega, by omega⟩ _) ?_
  rintro _ _ ⟨rfl, z18, rfl, w18⟩
  show Rl _ _ _ _ _ [iv z18] _ _
  refine l_aload_n rfl rfl ?_
  refine l_iload_n rfl rfl ?_
  refine l_callV rfl rfl rfl (t_mo_orderClass hH s ⟨by omega, by omega⟩ _) ?_
  rintro _ _ ⟨rfl, z19, rfl, w19⟩
  show Rl _ _ _ _ _ [iv z19, iv z18] _ _
  refine l_icmp_eq rfl rfl (by unfold rg; omega) (by unfold rg; omega) (fun w20 => ?_) (fun w21 => ?_)
  · refine l_aload_n rfl rfl ?_
    refine l_iload_n rfl rfl ?_
    refine l_callV rfl rfl rfl (t_mo_orderClass hH r ⟨by omega, by omega⟩ _) ?_
    rintro _ _ ⟨rfl, z22, rfl, w22⟩
    show Rl _ _ _ _ _ [iv z22] _ _
    refine l_iconst rfl ?_
    refine l_icmp_ne rfl rfl (by unfold rg; omega) (by unfold rg; omega) (fun w23 => ?_) (fun w24 => ?_)
    · exact Rl_weak (C93  ) (And.intro rfl (And.intro rfl (And.intro rfl (True.intro))))
    · refine l_aload_n rfl rfl ?_
      refine l_aload_n rfl rfl ?_
      refine l_gfr rfl rfl rfl rfl rfl (hH.r 904 134 981 rfl) ?_
      refine l_iload_n rfl rfl ?_
      refine l_iaload (n := 24) rfl rfl (by omega) (by omega) (by unfold rg; omega) ?_
      have w25 : -1 ≤ (Xi S 981 ((r).toNat)) ∧ (Xi S 981 ((r).toNat)) ≤ 15 := hH.c _ _
      refine l_callV rfl rfl rfl (t_mo_depthOf hH (Xi S 981 ((r).toNat)) ⟨by omega, by omega⟩ (by first | assumption | exact (by assumption : ABV S)) _) ?_
      rintro _ _ ⟨rfl, z26, rfl, w26⟩
      show Rl _ _ _ _ _ [iv z26] _ _
      refine l_aload_n rfl rfl ?_
      refine l_aload_n rfl rfl ?_
      refine l_gfr rfl rfl rfl rfl rfl (hH.r 904 134 981 rfl) ?_
      refine l_iload_n rfl rfl ?_
      refine l_iaload (n := 24) rfl rfl (by omega) (by omega) (by unfold rg; omega) ?_
      have w27 : -1 ≤ (Xi S 981 ((s).toNat)) ∧ (Xi S 981 ((s).toNat)) ≤ 15 := hH.c _ _
      refine l_callV rfl rfl rfl (t_mo_depthOf hH (Xi S 981 ((s).toNat)) ⟨by omega, by omega⟩ (by first | assumption | exact (by assumption : ABV S)) _) ?_
      rintro _ _ ⟨rfl, z28, rfl, w28⟩
      show Rl _ _ _ _ _ [iv z28, iv z26] _ _
      refine l_icmp_eq rfl rfl (by unfold rg; omega) (by unfold rg; omega) (fun w29 => ?_) (fun w30 => ?_)
      · exact Rl_weak (C93  ) (And.intro rfl (And.intro rfl (And.intro rfl (True.intro))))
      · refine l_aload_n rfl rfl ?_
        refine l_aload_n rfl rfl ?_
        refine l_gfr rfl rfl rfl rfl rfl (hH.r 904 134 981 rfl) ?_
        refine l_iload_n rfl rfl ?_
        refine l_iaload (n := 24) rfl rfl (by omega) (by omega) (by unfold rg; omega) ?_
        refine l_callV rfl rfl rfl (t_mo_depthOf hH (Xi S 981 ((r).toNat)) ⟨by omega, by omega⟩ (by first | assumption | exact (by assumption : ABV S)) _) ?_
        rintro _ _ ⟨rfl, z31, rfl, w31⟩
        show Rl _ _ _ _ _ [iv z31] _ _
        refine l_aload_n rfl rfl ?_
        refine l_aload_n rfl rfl ?_
        refine l_gfr rfl rfl rfl rfl rfl (hH.r 904 134 981 rfl) ?_
        refine l_iload_n rfl rfl ?_
        refine l_iaload (n := 24) rfl rfl (by omega) (by omega) (by unfold rg; omega) ?_
        refine l_callV rfl rfl rfl (t_mo_depthOf hH (Xi S 981 ((s).toNat)) ⟨by omega, by omega⟩ (by first | assumption | exact (by assumption : ABV S)) _) ?_
        rintro _ _ ⟨rfl, z32, rfl, w32⟩
        show Rl _ _ _ _ _ [iv z32, iv z31] _ _
        refine l_icmp_le rfl rfl (by unfold rg; omega) (by unfold rg; omega) (fun w33 => ?_) (fun w34 => ?_)
        · refine l_iconst rfl ?_
          refine l_ireturn rfl rfl ?_
          exact ⟨rfl, _, rfl, ⟨by omega, by omega⟩⟩
        · refine l_iconst rfl ?_
          refine l_goto rfl rfl ?_
          refine l_ireturn rfl rfl ?_
          exact ⟨rfl, _, rfl, ⟨by omega, by omega⟩⟩
  · refine l_aload_n rfl rfl ?_
    refine l_iload_n rfl rfl ?_
    refine l_callV rfl rfl rfl (t_mo_orderClass hH r ⟨by omega, by omega⟩ _) ?_
    rintro _ _ ⟨rfl, z35, rfl, w35⟩
    show Rl _ _ _ _ _ [iv z35] _ _
    refine l_aload_n rfl rfl ?_
    refine l_iload_n rfl rfl ?_
    refine l_callV rfl rfl rfl (t_mo_orderClass hH s ⟨by omega, by omega⟩ _) ?_
    rintro _ _ ⟨rfl, z36, rfl, w36⟩
    show Rl _ _ _ _ _ [iv z36, iv z35] _ _
    refine l_icmp_ge rfl rfl (by unfold rg; omega) (by unfold rg; omega) (fun w37 => ?_) (fun w38 => ?_)
    · refine l_iconst rfl ?_
      refine l_ireturn rfl rfl ?_
      exact ⟨rfl, _, rfl, ⟨by omega, by omega⟩⟩
    · refine l_iconst rfl ?_
      refine l_goto rfl rfl ?_
      refine l_ireturn rfl rfl ?_
      exact ⟨rfl, _, rfl, ⟨by omega, by omega⟩⟩
abbrev Q_mo_orderOf (S : sS) (r : Int) : pst := fun r S1 => S = S1 ∧ (∃ z : Int, r = some (iv z) ∧ (0 ≤ z ∧ z ≤ 24))
set_option maxRecDepth 100000 in
theorem t_mo_orderOf {S : sS} (hH : HI S) (r : Int) (hr : 0 ≤ r ∧ r ≤ 23) (hB : ABV S) (d : Nat) : Mt lay0 (d + 3) m_mo_orderOf [.ref 904, iv r] S (Q_mo_orderOf S r) := by
  refine Mt_R rfl rfl ?_
  have C4 : ∀ (n4 : Nat) (v2 : Int) (v3 : Int), (0 ≤ v2 ∧ v2 ≤ 24) → (0 ≤ v3 ∧ v3 ≤ 24) → (0 ≤ v2 ∧ v2 ≤ v3) → n4 = (25 - v3).toNat → Rl lay0 (d + 2) m_mo_orderOf 4 [(0, .ref 904), (1, iv r), (2, iv v2), (3, iv v3)] [] S (Q_mo_orderOf S r) := by
    intro n4
    induction n4 using Nat.strongRecOn with
    | ind n4 ih4 =>
      intro v2 v3 w1 w2 w3 hm4
      refine l_iload_n rfl rfl ?_
      refine l_aload_n rfl rfl ?_
      refine l_gfi rfl rfl rfl rfl rfl ?_
      have w4 : 0 ≤ (Xi S 904 130) ∧ (Xi S 904 130) ≤ 24 := hH.c _ _
      refine l_icmp_ge rfl rfl (by unfold rg; omega) (by unfold rg; omega) (fun w5 => ?_) (fun w6 => ?_)
      · refine l_iload_n rfl rfl ?_
        refine l_ireturn rfl rfl ?_
        exact ⟨rfl, _, rfl, ⟨by omega, by omega⟩⟩
      · refine l_iload_n rfl rfl ?_
        refine l_iload_n rfl rfl ?_
        refine l_iload_n rfl rfl ?_
        refine l_icmp_eq rfl rfl (by unfold rg; omega) (by unfold rg; omega) (fun w7 => ?_) (fun w8 => ?_)
        · refine l_iconst rfl ?_
          refine l_iadd rfl ?_
          refine l_istore_n rfl rfl rfl ?_
          refine l_iinc rfl rfl rfl rfl ?_
          refine l_goto rfl rfl ?_
          exact Rl_weak (ih4 _ (by omega) ((v2 + 0)) ((v3 + 1)) (by omega) (by omega) (by omega) rfl) (And.intro rfl (And.intro rfl (And.intro rfl (And.intro rfl (True.intro)))))
        · refine l_aload_n rfl rfl ?_
          refine l_gfr rfl rfl rfl rfl rfl (hH.r 904 131 978 rfl) ?_
          refine l_iload_n rfl rfl ?_
          refine l_iaload (n := 24) rfl rfl (by omega) (by omega) (by unfold rg; omega) ?_
          have w9 : 0 ≤ (Xi S 978 ((v3).toNat)) ∧ (Xi S 978 ((v3).toNat)) ≤ 3 := hH.c _ _
          refine l_aload_n rfl rfl ?_
          refine l_gfr rfl rfl rfl rfl rfl (hH.r 904 131 978 rfl) ?_
          refine l_iload_n rfl rfl ?_
          refine l_iaload (n := 24) rfl rfl (by omega) (by omega) (by unfold rg; omega) ?_
          have w10 : 0 ≤ (Xi S 978 ((r).toNat)) ∧ (Xi S 978 ((r).toNat)) ≤ 3 := hH.c _ _
          refine l_icmp_ne rfl rfl (by unfold rg; omega) (by unfold rg; omega) (fun w11 => ?_) (fun w12 => ?_)
          · refine l_iconst rfl ?_
            refine l_iadd rfl ?_
            refine l_istore_n rfl rfl rfl ?_
            refine l_iinc rfl rfl rfl rfl ?_
            refine l_goto rfl rfl ?_
            exact Rl_weak (ih4 _ (by omega) ((v2 + 0)) ((v3 + 1)) (by omega) (by omega) (by omega) rfl) (And.intro rfl (And.intro rfl (And.intro rfl (And.intro rfl (True.intro)))))
          · refine l_aload_n rfl rfl ?_
            refine l_iload_n rfl rfl ?_
            refine l_iload_n rfl rfl ?_
            refine l_callV rfl rfl rfl (t_mo_isAhead hH v3 r ⟨by omega, by omega⟩ ⟨by omega, by omega⟩ (by first | assumption | exact (by assumption : ABV S)) _) ?_
            rintro _ _ ⟨rfl, z13, rfl, w13⟩
            show Rl _ _ _ _ _ [iv z13, iv v2] _ _
            refine l_if_eq rfl rfl (by unfold rg; omega) (fun w14 => ?_) (fun w15 => ?_)
            · refine l_iconst rfl ?_
              refine l_iadd rfl ?_
              refine l_istore_n rfl rfl rfl ?_
              refine l_iinc rfl rfl rfl rfl ?_
              refine l_goto rfl rfl ?_
              exact Rl_weak (ih4 _ (by omega) ((v2 + 0)) ((v3 + 1)) (by omega) (by omega) (by omega) rfl) (And.intro rfl (And.intro rfl (And.intro rfl (And.intro rfl (True.intro)))))
            · refine l_iconst rfl ?_
              refine l_goto rfl rfl ?_
              refine l_iadd rfl ?_
              refine l_istore_n rfl rfl rfl ?_
              refine l_iinc rfl rfl rfl rfl ?_
              refine l_goto rfl rfl ?_
              exact Rl_weak (ih4 _ (by omega) ((v2 + 1)) ((v3 + 1)) (by omega) (by omega) (by omega) rfl) (And.intro rfl (And.intro rfl (And.intro rfl (And.intro rfl (True.intro)))))
  refine l_iconst rfl ?_
  refine l_istore_n rfl rfl rfl ?_
  refine l_iconst rfl ?_
  refine l_istore_n rfl rfl rfl ?_
  exact Rl_weak (C4 _ (0) (0) (by omega) (by omega) (by omega) rfl) (And.intro rfl (And.intro rfl (And.intro rfl (And.intro rfl (True.intro)))))
abbrev Q_mo_ruleAt (S : sS) (me : Int) (k : Int) : pst := fun r S1 => S = S1 ∧ (∃ z : Int, r = some (iv z) ∧ (-1 ≤ z ∧ z ≤ 23) ∧ (z ≠ -1 → z < Xi S 904 130) ∧ (z ≠ -1 → k ≤ 24) ∧ (z ≠ -1 → Xi S 978 z.toNat = me))
set_option maxRecDepth 100000 in
theorem t_mo_ruleAt {S : sS} (hH : HI S) (me : Int) (k : Int) (hme : -2147483648 ≤ me ∧ me ≤ 2147483647) (hk : -2147483648 ≤ k ∧ k ≤ 2147483647) (hB : ABV S) (d : Nat) : Mt lay0 (d + 4) m_mo_ruleAt [.ref 904, iv me, iv k] S (Q_mo_ruleAt S me k) := by
  refine Mt_R rfl rfl ?_
  have w1 : 0 ≤ Xi S 904 130 ∧ Xi S 904 130 ≤ 24 := hH.c _ _
  have C2 : ∀ (n2 : Nat) (v3 : Int), (0 ≤ v3 ∧ v3 ≤ 24) → n2 = (25 - v3).toNat → Rl lay0 (d + 3) m_mo_ruleAt 2 [(0, .ref 904), (1, iv me), (2, iv k), (3, iv v3)] [] S (Q_mo_ruleAt S me k) := by
    intro n2
    induction n2 using Nat.strongRecOn with
    | ind n2 ih2 =>
      intro v3 w2 hm2
      refine l_iload_n rfl rfl ?_
      refine l_aload_n rfl rfl ?_
      refine l_gfi rfl rfl rfl rfl rfl ?_
      refine l_icmp_ge rfl rfl (by unfold rg; omega) (by unfold rg; omega) (fun w3 => ?_) (fun w4 => ?_)
      · refine l_iconst rfl ?_
        refine l_ireturn rfl rfl ?_
        exact ⟨rfl, _, rfl, ⟨by omega, by omega⟩, (by first | assumption | omega), (by first | assumption | omega), (by first | assumption | omega)⟩
      · refine l_aload_n rfl rfl ?_
        refine l_gfr rfl rfl rfl rfl rfl (hH.r 904 131 978 rfl) ?_
        refine l_iload_n rfl rfl ?_
        refine l_iaload (n := 24) rfl rfl (by omega) (by omega) (by unfold rg; omega) ?_
        have w5 : 0 ≤ (Xi S 978 ((v3).toNat)) ∧ (Xi S 978 ((v3).toNat)) ≤ 3 := hH.c _ _
        refine l_iload_n rfl rfl ?_
        refine l_icmp_ne rfl rfl (by unfold rg; omega) (by unfold rg; omega) (fun w6 => ?_) (fun w7 => ?_)
        · refine l_iinc rfl rfl rfl rfl ?_
          refine l_goto rfl rfl ?_
          exact Rl_weak (ih2 _ (by omega) ((v3 + 1)) (by omega) rfl) (And.intro rfl (And.intro rfl (And.intro rfl (And.intro rfl (True.intro)))))
        · refine l_aload_n rfl rfl ?_
          refine l_iload_n rfl rfl ?_
          refine l_callV rfl rfl rfl (t_mo_orderOf hH v3 ⟨by omega, by omega⟩ (by first | assumption | exact (by assumption : ABV S)) _) ?_
          rintro _ _ ⟨rfl, z8, rfl, w8⟩
          show Rl _ _ _ _ _ [iv z8] _ _
          refine l_iload_n rfl rfl ?_
          refine l_icmp_ne rfl rfl (by unfold rg; omega) (by unfold rg; omega) (fun w9 => ?_) (fun w10 => ?_)
          · refine l_iinc rfl rfl rfl rfl ?_
            refine l_goto rfl rfl ?_
            exact Rl_weak (ih2 _ (by omega) ((v3 + 1)) (by omega) rfl) (And.intro rfl (And.intro rfl (And.intro rfl (And.intro rfl (True.intro)))))
          · refine l_iload_n rfl rfl ?_
            refine l_ireturn rfl rfl ?_
            exact ⟨rfl, _, rfl, ⟨by omega, by omega⟩, (by first | assumption | omega), (by first | assumption | omega), (by first | assumption | omega)⟩
  refine l_iconst rfl ?_
  refine l_istore_n rfl rfl rfl ?_
  exact Rl_weak (C2 _ (0) (by omega) rfl) (And.intro rfl (And.intro rfl (And.intro rfl (And.intro rfl (True.intro)))))
abbrev Q_mo_thingIs (S : sS) (thing : Int) (it : Int) (noun : Int) : pst := fun r S1 => S = S1 ∧ (∃ z : Int, r = some (iv z) ∧ (-2147483648 ≤ z ∧ z ≤ 2147483647) ∧ ((thing = -1 → z = it) ∧ (thing = -2 → z = noun) ∧ (thing ≠ -1 → thing ≠ -2 → z = thing)))
set_option maxRecDepth 100000 in
theorem t_mo_thingIs {S : sS} (hH : HI S) (thing : Int) (it : Int) (noun : Int) (hthing : -2147483648 ≤ thing ∧ thing ≤ 2147483647) (hit : -2147483648 ≤ it ∧ it ≤ 2147483647) (hnoun : -2147483648 ≤ noun ∧ noun ≤ 2147483647) (d : Nat) : Mt lay0 (d + 1) m_mo_thingIs [iv thing, iv it, iv noun] S (Q_mo_thingIs S thing it noun) := by
  refine Mt_R rfl rfl ?_
  refine l_iload_n rfl rfl ?_
  refine l_iconst rfl ?_
  refine l_icmp_ne rfl rfl (by unfold rg; omega) (by unfold rg; omega) (fun w1 => ?_) (fun w2 => ?_)
  · refine l_iload_n rfl rfl ?_
    refine l_bipush rfl rfl ?_
    refine l_icmp_ne rfl rfl (by unfold rg; omega) (by unfold rg; omega) (fun w3 => ?_) (fun w4 => ?_)
    · refine l_iload_n rfl rfl ?_
      refine l_ireturn rfl rfl ?_
      exact ⟨rfl, _, rfl, ⟨by omega, by omega⟩, (by first | assumption | omega)⟩
    · refine l_iload_n rfl rfl ?_
      refine l_goto rfl rfl ?_
      refine l_ireturn rfl rfl ?_
      exact ⟨rfl, _, rfl, ⟨by omega, by omega⟩, (by first | assumption | omega)⟩
  · refine l_iload_n rfl rfl ?_
    refine l_goto rfl rfl ?_
    refine l_ireturn rfl rfl ?_
    exact ⟨rfl, _, rfl, ⟨by omega, by omega⟩, (by first | assumption | omega)⟩
abbrev Q_mo_small (S : sS) (c : Int) : pst := fun r S1 => S = S1 ∧ (∃ z : Int, r = some (iv z) ∧ (-2147483648 ≤ z ∧ z ≤ 2147483647) ∧ (z = sml c))
set_option maxRecDepth 100000 in
theorem t_mo_small {S : sS} (hH : HI S) (c : Int) (hc : -2147483648 ≤ c ∧ c ≤ 2147483600) (d : Nat) : Mt lay0 (d + 2) m_mo_small [iv c] S (Q_mo_small S c) := by
  refine Mt_R rfl rfl ?_
  refine l_iload_n rfl rfl ?_
  refine l_bipush rfl rfl ?_
  refine l_bipush rfl rfl ?_
  refine l_callS rfl rfl (by decide) rfl (t_mo_in hH c 65 90 ⟨by omega, by omega⟩ ⟨by omega, by omega⟩ ⟨by omega, by omega⟩ _) ?_
  rintro _ _ ⟨rfl, z2, rfl, w2, w1⟩
  show Rl _ _ _ _ _ [iv z2] _ _
  refine l_if_eq rfl rfl (by unfold rg; omega) (fun w3 => ?_) (fun w4 => ?_)
  · refine l_iload_n rfl rfl ?_
    refine l_ireturn rfl rfl ?_
    exact ⟨rfl, _, rfl, ⟨by omega, by omega⟩, (by unfold sml; first | exact (if_pos (by omega)).symm | exact (if_neg (by omega)).symm)⟩
  · refine l_iload_n rfl rfl ?_
    refine l_bipush rfl rfl ?_
    refine l_iadd rfl ?_
    refine l_goto rfl rfl ?_
    refine l_ireturn rfl rfl ?_
    exact ⟨rfl, _, rfl, ⟨by omega, by omega⟩, (by unfold sml; first | exact (if_pos (by omega)).symm | exact (if_neg (by omega)).symm)⟩
abbrev Q_mo_isLetter (S : sS) (c : Int) : pst := fun r S1 => S = S1 ∧ (∃ z : Int, r = some (iv z) ∧ (0 ≤ z ∧ z ≤ 1) ∧ (z = ltr c))
set_option maxRecDepth 100000 in
theorem t_mo_isLetter {S : sS} (hH : HI S) (c : Int) (hc : -2147483648 ≤ c ∧ c ≤ 2147483600) (d : Nat) : Mt lay0 (d + 3) m_mo_isLetter [iv c] S (Q_mo_isLetter S c) := by
  refine Mt_R rfl rfl ?_
  refine l_iload_n rfl rfl ?_
  refine l_callS rfl rfl (by decide) rfl (t_mo_small hH c ⟨by omega, by omega⟩ _) ?_
  rintro _ _ ⟨rfl, z2, rfl, w2, w1⟩
  show Rl _ _ _ _ _ [iv z2] _ _
  refine l_bipush rfl rfl ?_
  refine l_bipush rfl rfl ?_
  refine l_callS rfl rfl (by decide) rfl (t_mo_in hH z2 97 122 ⟨by omega, by omega⟩ ⟨by omega, by omega⟩ ⟨by omega, by omega⟩ _) ?_
  rintro _ _ ⟨rfl, z4, rfl, w4, w3⟩
  show Rl _ _ _ _ _ [iv z4] _ _
  refine l_ireturn rfl (retI_z (by omega)) ?_
  exact ⟨rfl, _, rfl, ⟨by omega, by omega⟩, (by have e : _ = sml c := by assumption; unfold ltr; rw [← e]; exact ltr_of (by omega) (by assumption))⟩
abbrev Q_mo_wordOf (S : sS) (t : Nat) (from_ : Int) (n : Int) : pst := fun r S1 => S = S1 ∧ (∃ z : Int, r = some (jw z))
set_option maxRecDepth 100000 in
theorem t_mo_wordOf {S : sS} (hH : HI S) (t : Nat) (from_ : Int) (n : Int) (ht : bp t) (hfrom_ : 0 ≤ from_ ∧ from_ ≤ 5000) (hn : 0 ≤ n ∧ n ≤ 5000) (hn : from_ + n ≤ 5000) (d : Nat) : Mt lay0 (d + 3) m_mo_wordOf [.ref t, iv from_, iv n] S (Q_mo_wordOf S t from_ n) := by
  refine Mt_R rfl rfl ?_
  have C5 : ∀ (n5 : Nat) (v3 : Int) (v5 : Int), (0 ≤ v5 ∧ v5 ≤ 5000) → n5 = (5001 - v5).toNat → Rl lay0 (d + 2) m_mo_wordOf 5 [(0, .ref t), (1, iv from_), (2, iv n), (3, jw v3), (5, iv v5)] [] S (Q_mo_wordOf S t from_ n) := by
    intro n5
    induction n5 using Nat.strongRecOn with
    | ind n5 ih5 =>
      intro v3 v5 w1 hm5
      refine l_iload rfl rfl ?_
      refine l_iload_n rfl rfl ?_
      refine l_icmp_ge rfl rfl (by unfold rg; omega) (by unfold rg; omega) (fun w2 => ?_) (fun w3 => ?_)
      · refine l_lload_n rfl rfl ?_
        refine l_lreturn rfl rfl ?_
        exact ⟨rfl, _, rfl⟩
      · refine l_lload_n rfl rfl ?_
        refine l_iconst rfl ?_
        refine l_lshlF rfl ?_
        have w4 : rgL (lshlF v3 5) := lshlF_rg
        refine l_aload_n rfl rfl ?_
        refine l_iload_n rfl rfl ?_
        refine l_iload rfl rfl ?_
        refine l_iadd rfl ?_
        refine l_baload (n := 5000) rfl (bp_sv (by assumption)) (lay_bp (by assumption)) (by decide) (by omega) (by omega) (by unfold rg; omega) ?_
        have w5 : -128 ≤ (Xi S t (((from_ + v5)).toNat)) ∧ (Xi S t (((from_ + v5)).toNat)) ≤ 127 := bpc hH (by assumption)
        refine l_callS rfl rfl (by decide) rfl (t_mo_small hH (Xi S t (((from_ + v5)).toNat)) ⟨by omega, by omega⟩ _) ?_
        rintro _ _ ⟨rfl, z7, rfl, w7, w6⟩
        show Rl _ _ _ _ _ [iv z7, jw (lshlF v3 5)] _ _
        refine l_bipush rfl rfl ?_
        refine l_isub rfl ?_
        refine l_i2l rfl (by unfold rg; omega) ?_
        refine l_lorF rfl ?_
        have w8 : rgL (lorF (lshlF v3 5) (z7 - 96)) := lorF_rg
        refine l_lstore_n rfl rfl rfl rfl ?_
        refine l_iinc rfl rfl rfl rfl ?_
        refine l_goto rfl rfl ?_
        exact Rl_weak (ih5 _ (by omega) ((lorF (lshlF v3 5) (z7 - 96))) ((v5 + 1)) (by omega) rfl) (And.intro rfl (And.intro rfl (And.intro rfl (And.intro rfl (And.intro rfl (True.intro))))))
  refine l_lconst (z := 0) rfl rfl ?_
  refine l_lstore_n rfl rfl rfl rfl ?_
  refine l_iconst rfl ?_
  refine l_istore rfl rfl rfl ?_
  exact Rl_weak (C5 _ (0) (0) (by omega) rfl) (And.intro rfl (And.intro rfl (And.intro rfl (And.intro rfl (And.intro rfl (True.intro))))))
abbrev Q_mo_keyOf (S : sS) (w : Int) : pst := fun r S1 => S = S1 ∧ (∃ z : Int, r = some (iv z) ∧ (0 ≤ z ∧ z ≤ 154))
set_option maxRecDepth 100000 in
theorem t_mo_keyOf {S : sS} (hH : HI S) (w : Int) (d : Nat) : Mt lay0 (d + 1) m_mo_keyOf [.ref 904, jw w] S (Q_mo_keyOf S w) := by
  refine Mt_R rfl rfl ?_
  have C2 : ∀ (n2 : Nat) (v3 : Int), (0 ≤ v3 ∧ v3 ≤ 55) → n2 = (56 - v3).toNat → Rl lay0 (d + 0) m_mo_keyOf 2 [(0, .ref 904), (1, jw w), (3, iv v3)] [] S (Q_mo_keyOf S w) := by
    intro n2
    induction n2 using Nat.strongRecOn with
    | ind n2 ih2 =>
      intro v3 w1 hm2
      refine l_iload_n rfl rfl ?_
      refine l_bipush rfl rfl ?_
      refine l_icmp_ge rfl rfl (by unfold rg; omega) (by unfold rg; omega) (fun w2 => ?_) (fun w3 => ?_)
      · refine l_iconst rfl ?_
        refine l_ireturn rfl rfl ?_
        exact ⟨rfl, _, rfl, ⟨by omega, by omega⟩⟩
      · refine l_aload_n rfl rfl ?_
        refine l_gfr rfl rfl rfl rfl rfl (hH.r 904 9 911 rfl) ?_
        refine l_iload_n rfl rfl ?_
        refine l_laload (n := 55) rfl rfl (by omega) (by omega) (by unfold rg; omega) ?_
        have w4 : -9223372036854775808 ≤ (Xj S 911 ((v3).toNat)) ∧ (Xj S 911 ((v3).toNat)) < 9223372036854775808 := Xj_rg
        refine l_lload_n rfl rfl ?_
        refine l_lcmpA rfl (fun c5 w5 => ?_)
        refine l_if_ne rfl rfl (by unfold rg; omega) (fun w6 => ?_) (fun w7 => ?_)
        · refine l_iinc rfl rfl rfl rfl ?_
          refine l_goto rfl rfl ?_
          exact Rl_weak (ih2 _ (by omega) ((v3 + 1)) (by omega) rfl) (And.intro rfl (And.intro rfl (And.intro rfl (True.intro))))
        · refine l_bipush rfl rfl ?_
          refine l_iload_n rfl rfl ?_
          refine l_iadd rfl ?_
          refine l_ireturn rfl rfl ?_
          exact ⟨rfl, _, rfl, ⟨by omega, by omega⟩⟩
  refine l_iconst rfl ?_
  refine l_istore_n rfl rfl rfl ?_
  exact Rl_weak (C2 _ (0) (by omega) rfl) (And.intro rfl (And.intro rfl (And.intro rfl (True.intro))))
abbrev Q_mo_isArt (S : sS) (k : Int) : pst := fun r S1 => S = S1 ∧ (∃ z : Int, r = some (iv z) ∧ (0 ≤ z ∧ z ≤ 1) ∧ (z = 1 → 100 ≤ k ∧ k ≤ 103))
set_option maxRecDepth 100000 in
theorem t_mo_isArt {S : sS} (hH : HI S) (k : Int) (hk : -2147483648 ≤ k ∧ k ≤ 2147483647) (d : Nat) : Mt lay0 (d + 1) m_mo_isArt [iv k] S (Q_mo_isArt S k) := by
  refine Mt_R rfl rfl ?_
  refine l_iload_n rfl rfl ?_
  refine l_bipush rfl rfl ?_
  refine l_icmp_lt rfl rfl (by unfold rg; omega) (by unfold rg; omega) (fun w1 => ?_) (fun w2 => ?_)
  · refine l_iconst rfl ?_
    refine l_ireturn rfl rfl ?_
    exact ⟨rfl, _, rfl, ⟨by omega, by omega⟩, (by first | assumption | omega)⟩
  · refine l_iload_n rfl rfl ?_
    refine l_bipush rfl rfl ?_
    refine l_icmp_gt rfl rfl (by unfold rg; omega) (by unfold rg; omega) (fun w3 => ?_) (fun w4 => ?_)
    · refine l_iconst rfl ?_
      refine l_ireturn rfl rfl ?_
      exact ⟨rfl, _, rfl, ⟨by omega, by omega⟩, (by first | assumption | omega)⟩
    · refine l_iconst rfl ?_
      refine l_goto rfl rfl ?_
      refine l_ireturn rfl rfl ?_
      exact ⟨rfl, _, rfl, ⟨by omega, by omega⟩, (by first | assumption | omega)⟩
abbrev Q_mo_find (S : sS) (a : Int) (b : Int) (c : Int) (n : Int) : pst := fun r S1 => S = S1 ∧ (∃ z : Int, r = some (iv z) ∧ (-1 ≤ z ∧ z ≤ 299) ∧ (z ≠ -1 → z < Xi S 904 15))
set_option maxRecDepth 100000 in
theorem t_mo_find {S : sS} (hH : HI S) (a : Int) (b : Int) (c : Int) (n : Int) (hn : -2147483648 ≤ n ∧ n ≤ 2147483647) (d : Nat) : Mt lay0 (d + 1) m_mo_find [.ref 904, jw a, jw b, jw c, iv n] S (Q_mo_find S a b c n) := by
  refine Mt_R rfl rfl ?_
  have w1 : 0 ≤ Xi S 904 15 ∧ Xi S 904 15 ≤ 300 := hH.c _ _
  have C3 : ∀ (n3 : Nat) (v8 : Int), (0 ≤ v8 ∧ v8 ≤ 300) → n3 = (301 - v8).toNat → Rl lay0 (d + 0) m_mo_find 3 [(0, .ref 904), (1, jw a), (3, jw b), (5, jw c), (7, iv n), (8, iv v8)] [] S (Q_mo_find S a b c n) := by
    intro n3
    induction n3 using Nat.strongRecOn with
    | ind n3 ih3 =>
      intro v8 w2 hm3
      have C60 : ∀  (v8 : Int), (0 ≤ v8 ∧ v8 ≤ 299) → ((301 - v8).toNat ≤ n3) → Rl lay0 (d + 0) m_mo_find 60 [(0, .ref 904), (1, jw a), (3, jw b), (5, jw c), (7, iv n), (8, iv v8)] [] S (Q_mo_find S a b c n) := by
        intro v8 w3 w4
        have C83 : ∀  (v8 : Int), (0 ≤ v8 ∧ v8 ≤ 299) → ((301 - v8).toNat ≤ n3) → Rl lay0 (d + 0) m_mo_find 83 [(0, .ref 904), (1, jw a), (3, jw b), (5, jw c), (7, iv n), (8, iv v8)] [] S (Q_mo_find S a b c n) := by
          intro v8 w5 w6
          refine l_aload_n rfl rfl ?_
          refine l_gfr rfl rfl rfl rfl rfl (hH.r 904 14 916 rfl) ?_
          refine l_iload rfl rfl ?_
          refine l_baload (n := 300) rfl rfl rfl (by decide) (by omega) (by omega) (by unfold rg; omega) ?_
          have w7 : 0 ≤ (Xi S 916 ((v8).toNat)) ∧ (Xi S 916 ((v8).toNat)) ≤ 1 := hH.c _ _
          refine l_if_ne rfl rfl (by unfold rg; omega) (fun w8 => ?_) (fun w9 => ?_)
          · refine l_iinc rfl rfl rfl rfl ?_
            refine l_goto rfl rfl ?_
            exact Rl_weak (ih3 _ (by omega) ((v8 + 1)) (by omega) rfl) (And.intro rfl (And.intro rfl (And.intro rfl (And.intro rfl (And.intro rfl (And.intro rfl (True.intro)))))))
          · refine l_aload_n rfl rfl ?_
            refine l_gfr rfl rfl rfl rfl rfl (hH.r 904 12 914 rfl) ?_
            refine l_iload rfl rfl ?_
            refine l_iaload (n := 300) rfl rfl (by omega) (by omega) (by unfold rg; omega) ?_
            have w10 : 0 ≤ (Xi S 914 ((v8).toNat)) ∧ (Xi S 914 ((v8).toNat)) ≤ 12 := hH.c _ _
            refine l_iconst rfl ?_
            refine l_icmp_eq rfl rfl (by unfold rg; omega) (by unfold rg; omega) (fun w11 => ?_) (fun w12 => ?_)
            · refine l_iinc rfl rfl rfl rfl ?_
              refine l_goto rfl rfl ?_
              exact Rl_weak (ih3 _ (by omega) ((v8 + 1)) (by omega) rfl) (And.intro rfl (And.intro rfl (And.intro rfl (And.intro rfl (And.intro rfl (And.intro rfl (True.intro)))))))
            · refine l_iload rfl rfl ?_
              refine l_ireturn rfl rfl ?_
              exact ⟨rfl, _, rfl, ⟨by omega, by omega⟩, (by first | assumption | omega)⟩
        refine l_iload rfl rfl ?_
        refine l_iconst rfl ?_
        refine l_icmp_lt rfl rfl (by unfold rg; omega) (by unfold rg; omega) (fun w13 => ?_) (fun w14 => ?_)
        · exact Rl_weak (C83 (v8) (by omega) (by omega)) (And.intro rfl (And.intro rfl (And.intro rfl (And.intro rfl (And.intro rfl (And.intro rfl (True.intro)))))))
        · refine l_aload_n rfl rfl ?_
          refine l_gfr rfl rfl rfl rfl rfl (hH.r 904 11 913 rfl) ?_
          refine l_iconst rfl ?_
          refine l_iload rfl rfl ?_
          refine l_imul rfl ?_
          refine l_iconst rfl ?_
          refine l_iadd rfl ?_
          refine l_laload (n := 900) rfl rfl (by omega) (by omega) (by unfold rg; omega) ?_
          have w15 : -9223372036854775808 ≤ (Xj S 913 ((((3 * v8) + 2)).toNat)) ∧ (Xj S 913 ((((3 * v8) + 2)).toNat)) < 9223372036854775808 := Xj_rg
          refine l_lload rfl rfl ?_
          refine l_lcmpA rfl (fun c16 w16 => ?_)
          refine l_if_ne rfl rfl (by unfold rg; omega) (fun w17 => ?_) (fun w18 => ?_)
          · refine l_iinc rfl rfl rfl rfl ?_
            refine l_goto rfl rfl ?_
            exact Rl_weak (ih3 _ (by omega) ((v8 + 1)) (by omega) rfl) (And.intro rfl (And.intro rfl (And.intro rfl (And.intro rfl (And.intro rfl (And.intro rfl (True.intro)))))))
          · exact Rl_weak (C83 (v8) (by omega) (by omega)) (And.intro rfl (And.intro rfl (And.intro rfl (And.intro rfl (And.intro rfl (And.intro rfl (True.intro)))))))
      refine l_iload rfl rfl ?_
      refine l_aload_n rfl rfl ?_
      refine l_gfi rfl rfl rfl rfl rfl ?_
      refine l_icmp_ge rfl rfl (by unfold rg; omega) (by unfold rg; omega) (fun w19 => ?_) (fun w20 => ?_)
      · refine l_iconst rfl ?_
        refine l_ireturn rfl rfl ?_
        exact ⟨rfl, _, rfl, ⟨by omega, by omega⟩, (by first | assumption | omega)⟩
      · refine l_aload_n rfl rfl ?_
        refine l_gfr rfl rfl rfl rfl rfl (hH.r 904 10 912 rfl) ?_
        refine l_iload rfl rfl ?_
        refine l_iaload (n := 300) rfl rfl (by omega) (by omega) (by unfold rg; omega) ?_
        have w21 : 0 ≤ (Xi S 912 ((v8).toNat)) ∧ (Xi S 912 ((v8).toNat)) ≤ 3 := hH.c _ _
        refine l_iload rfl rfl ?_
        refine l_icmp_ne rfl rfl (by unfold rg; omega) (by unfold rg; omega) (fun w22 => ?_) (fun w23 => ?_)
        · refine l_iinc rfl rfl rfl rfl ?_
          refine l_goto rfl rfl ?_
          exact Rl_weak (ih3 _ (by omega) ((v8 + 1)) (by omega) rfl) (And.intro rfl (And.intro rfl (And.intro rfl (And.intro rfl (And.intro rfl (And.intro rfl (True.intro)))))))
        · refine l_aload_n rfl rfl ?_
          refine l_gfr rfl rfl rfl rfl rfl (hH.r 904 11 913 rfl) ?_
          refine l_iconst rfl ?_
          refine l_iload rfl rfl ?_
          refine l_imul rfl ?_
          refine l_laload (n := 900) rfl rfl (by omega) (by omega) (by unfold rg; omega) ?_
          have w24 : -9223372036854775808 ≤ (Xj S 913 (((3 * v8)).toNat)) ∧ (Xj S 913 (((3 * v8)).toNat)) < 9223372036854775808 := Xj_rg
          refine l_lload_n rfl rfl ?_
          refine l_lcmpA rfl (fun c25 w25 => ?_)
          refine l_if_ne rfl rfl (by unfold rg; omega) (fun w26 => ?_) (fun w27 => ?_)
          · refine l_iinc rfl rfl rfl rfl ?_
            refine l_goto rfl rfl ?_
            exact Rl_weak (ih3 _ (by omega) ((v8 + 1)) (by omega) rfl) (And.intro rfl (And.intro rfl (And.intro rfl (And.intro rfl (And.intro rfl (And.intro rfl (True.intro)))))))
          · refine l_iload rfl rfl ?_
            refine l_iconst rfl ?_
            refine l_icmp_lt rfl rfl (by unfold rg; omega) (by unfold rg; omega) (fun w28 => ?_) (fun w29 => ?_)
            · exact Rl_weak (C60 (v8) (by omega) (by omega)) (And.intro rfl (And.intro rfl (And.intro rfl (And.intro rfl (And.intro rfl (And.intro rfl (True.intro)))))))
            · refine l_aload_n rfl rfl ?_
              refine l_gfr rfl rfl rfl rfl rfl (hH.r 904 11 913 rfl) ?_
              refine l_iconst rfl ?_
              refine l_iload rfl rfl ?_
              refine l_imul rfl ?_
              refine l_iconst rfl ?_
              refine l_iadd rfl ?_
              refine l_laload (n := 900) rfl rfl (by omega) (by omega) (by unfold rg; omega) ?_
              have w30 : -9223372036854775808 ≤ (Xj S 913 ((((3 * v8) + 1)).toNat)) ∧ (Xj S 913 ((((3 * v8) + 1)).toNat)) < 9223372036854775808 := Xj_rg
              refine l_lload_n rfl rfl ?_
              refine l_lcmpA rfl (fun c31 w31 => ?_)
              refine l_if_ne rfl rfl (by unfold rg; omega) (fun w32 => ?_) (fun w33 => ?_)
              · refine l_iinc rfl rfl rfl rfl ?_
                refine l_goto rfl rfl ?_
                exact Rl_weak (ih3 _ (by omega) ((v8 + 1)) (by omega) rfl) (And.intro rfl (And.intro rfl (And.intro rfl (And.intro rfl (And.intro rfl (And.intro rfl (True.intro)))))))
              · exact Rl_weak (C60 (v8) (by omega) (by omega)) (And.intro rfl (And.intro rfl (And.intro rfl (And.intro rfl (And.intro rfl (And.intro rfl (True.intro)))))))
  refine l_iconst rfl ?_
  refine l_istore rfl rfl rfl ?_
  exact Rl_weak (C3 _ (0) (by omega) rfl) (And.intro rfl (And.intro rfl (And.intro rfl (And.intro rfl (And.intro rfl (And.intro rfl (True.intro)))))))
abbrev Q_mo_lexOf (S : sS) (sort : Int) (ix : Int) : pst := fun r S1 => S = S1 ∧ (∃ z : Int, r = some (iv z) ∧ (-1 ≤ z ∧ z ≤ 299) ∧ (z ≠ -1 → z < Xi S 904 15))
set_option maxRecDepth 100000 in
theorem t_mo_lexOf {S : sS} (hH : HI S) (sort : Int) (ix : Int) (hsort : -2147483648 ≤ sort ∧ sort ≤ 2147483647) (hix : -2147483648 ≤ ix ∧ ix ≤ 2147483647) (d : Nat) : Mt lay0 (d + 1) m_mo_lexOf [.ref 904, iv sort, iv ix] S (Q_mo_lexOf S sort ix) := by
  refine Mt_R rfl rfl ?_
  have w1 : 0 ≤ Xi S 904 15 ∧ Xi S 904 15 ≤ 300 := hH.c _ _
  have C2 : ∀ (n2 : Nat) (v3 : Int), (0 ≤ v3 ∧ v3 ≤ 300) → n2 = (301 - v3).toNat → Rl lay0 (d + 0) m_mo_lexOf 2 [(0, .ref 904), (1, iv sort), (2, iv ix), (3, iv v3)] [] S (Q_mo_lexOf S sort ix) := by
    intro n2
    induction n2 using Nat.strongRecOn with
    | ind n2 ih2 =>
      intro v3 w2 hm2
      refine l_iload_n rfl rfl ?_
      refine l_aload_n rfl rfl ?_
      refine l_gfi rfl rfl rfl rfl rfl ?_
      refine l_icmp_ge rfl rfl (by unfold rg; omega) (by unfold rg; omega) (fun w3 => ?_) (fun w4 => ?_)
      · refine l_iconst rfl ?_
        refine l_ireturn rfl rfl ?_
        exact ⟨rfl, _, rfl, ⟨by omega, by omega⟩, (by first | assumption | omega)⟩
      · refine l_aload_n rfl rfl ?_
        refine l_gfr rfl rfl rfl rfl rfl (hH.r 904 12 914 rfl) ?_
        refine l_iload_n rfl rfl ?_
        refine l_iaload (n := 300) rfl rfl (by omega) (by omega) (by unfold rg; omega) ?_
        have w5 : 0 ≤ (Xi S 914 ((v3).toNat)) ∧ (Xi S 914 ((v3).toNat)) ≤ 12 := hH.c _ _
        refine l_iload_n rfl rfl ?_
        refine l_icmp_ne rfl rfl (by unfold rg; omega) (by unfold rg; omega) (fun w6 => ?_) (fun w7 => ?_)
        · refine l_iinc rfl rfl rfl rfl ?_
          refine l_goto rfl rfl ?_
          exact Rl_weak (ih2 _ (by omega) ((v3 + 1)) (by omega) rfl) (And.intro rfl (And.intro rfl (And.intro rfl (And.intro rfl (True.intro)))))
        · refine l_aload_n rfl rfl ?_
          refine l_gfr rfl rfl rfl rfl rfl (hH.r 904 13 915 rfl) ?_
          refine l_iload_n rfl rfl ?_
          refine l_iaload (n := 300) rfl rfl (by omega) (by omega) (by unfold rg; omega) ?_
          have w8 : 0 ≤ (Xi S 915 ((v3).toNat)) ∧ (Xi S 915 ((v3).toNat)) ≤ 63 := hH.c _ _
          refine l_iload_n rfl rfl ?_
          refine l_icmp_ne rfl rfl (by unfold rg; omega) (by unfold rg; omega) (fun w9 => ?_) (fun w10 => ?_)
          · refine l_iinc rfl rfl rfl rfl ?_
            refine l_goto rfl rfl ?_
            exact Rl_weak (ih2 _ (by omega) ((v3 + 1)) (by omega) rfl) (And.intro rfl (And.intro rfl (And.intro rfl (And.intro rfl (True.intro)))))
          · refine l_iload_n rfl rfl ?_
            refine l_ireturn rfl rfl ?_
            exact ⟨rfl, _, rfl, ⟨by omega, by omega⟩, (by first | assumption | omega)⟩
  refine l_iconst rfl ?_
  refine l_istore_n rfl rfl rfl ?_
  exact Rl_weak (C2 _ (0) (by omega) rfl) (And.intro rfl (And.intro rfl (And.intro rfl (And.intro rfl (True.intro)))))
abbrev Q_mo_letterOf (S : sS) (w : Int) (k : Int) : pst := fun r S1 => S = S1 ∧ (∃ z : Int, r = some (iv z) ∧ (-2147483648 ≤ z ∧ z ≤ 2147483647) ∧ (z ≠ -1 → k < 12))
set_option maxRecDepth 100000 in
theorem t_mo_letterOf {S : sS} (hH : HI S) (w : Int) (k : Int) (hk : 0 ≤ k ∧ k ≤ 2147483647) (d : Nat) : Mt lay0 (d + 1) m_mo_letterOf [jw w, iv k] S (Q_mo_letterOf S w k) := by
  refine Mt_R rfl rfl ?_
  have C2 : ∀ (n2 : Nat) (v3 : Int), (0 ≤ v3 ∧ v3 ≤ 12) → n2 = (13 - v3).toNat → Rl lay0 (d + 0) m_mo_letterOf 2 [(0, jw w), (2, iv k), (3, iv v3)] [] S (Q_mo_letterOf S w k) := by
    intro n2
    induction n2 using Nat.strongRecOn with
    | ind n2 ih2 =>
      intro v3 w1 hm2
      have C24 : ∀  (v3 : Int), (0 ≤ v3 ∧ v3 ≤ 12) → Rl lay0 (d + 0) m_mo_letterOf 24 [(0, jw w), (2, iv k), (3, iv v3)] [] S (Q_mo_letterOf S w k) := by
        intro v3 w2
        refine l_iload_n rfl rfl ?_
        refine l_iload_n rfl rfl ?_
        refine l_icmp_ge rfl rfl (by unfold rg; omega) (by unfold rg; omega) (fun w3 => ?_) (fun w4 => ?_)
        · refine l_iconst rfl ?_
          refine l_ireturn rfl rfl ?_
          exact ⟨rfl, _, rfl, ⟨by omega, by omega⟩, (by first | assumption | omega)⟩
        · refine l_lload_n rfl rfl ?_
          refine l_iconst rfl ?_
          refine l_iload_n rfl rfl ?_
          refine l_iconst rfl ?_
          refine l_isub rfl ?_
          refine l_iload_n rfl rfl ?_
          refine l_isub rfl ?_
          refine l_imul rfl ?_
          refine l_lshrF rfl ?_
          have w5 : rgL (lshrF w (5 * ((v3 - 1) - k))) := lshrF_rg
          refine l_ldc2 (z := 31) rfl rfl ?_
          refine l_landF rfl ?_
          have w6 : rgL (landF (lshrF w (5 * ((v3 - 1) - k))) 31) := landF_rg
          refine l_l2iA rfl (fun c7 w7 => ?_)
          refine l_bipush rfl rfl ?_
          refine l_iadd rfl ?_
          refine l_goto rfl rfl ?_
          refine l_ireturn rfl rfl ?_
          exact ⟨rfl, _, rfl, ⟨by omega, by omega⟩, (by first | assumption | omega)⟩
      refine l_iload_n rfl rfl ?_
      refine l_bipush rfl rfl ?_
      refine l_icmp_ge rfl rfl (by unfold rg; omega) (by unfold rg; omega) (fun w8 => ?_) (fun w9 => ?_)
      · exact Rl_weak (C24 (v3) (by omega)) (And.intro rfl (And.intro rfl (And.intro rfl (True.intro))))
      · refine l_lload_n rfl rfl ?_
        refine l_iconst rfl ?_
        refine l_iload_n rfl rfl ?_
        refine l_imul rfl ?_
        refine l_lshrF rfl ?_
        have w10 : rgL (lshrF w (5 * v3)) := lshrF_rg
        refine l_lconst (z := 0) rfl rfl ?_
        refine l_lcmpA rfl (fun c11 w11 => ?_)
        refine l_if_eq rfl rfl (by unfold rg; omega) (fun w12 => ?_) (fun w13 => ?_)
        · exact Rl_weak (C24 (v3) (by omega)) (And.intro rfl (And.intro rfl (And.intro rfl (True.intro))))
        · refine l_iinc rfl rfl rfl rfl ?_
          refine l_goto rfl rfl ?_
          exact Rl_weak (ih2 _ (by omega) ((v3 + 1)) (by omega) rfl) (And.intro rfl (And.intro rfl (And.intro rfl (True.intro))))
  refine l_iconst rfl ?_
  refine l_istore_n rfl rfl rfl ?_
  exact Rl_weak (C2 _ (0) (by omega) rfl) (And.intro rfl (And.intro rfl (And.intro rfl (True.intro))))
abbrev Q_mo_byteOf (S : sS) (lex : Int) (k : Int) : pst := fun r S1 => S = S1 ∧ (∃ z : Int, r = some (iv z) ∧ (-2147483648 ≤ z ∧ z ≤ 2147483647) ∧ (z ≠ -1 → k ≤ 40))
set_option maxRecDepth 100000 in
theorem t_mo_byteOf {S : sS} (hH : HI S) (lex : Int) (k : Int) (hlex : 0 ≤ lex ∧ lex ≤ 299) (hk : 0 ≤ k ∧ k ≤ 2147483647) (d : Nat) : Mt lay0 (d + 2) m_mo_byteOf [.ref 904, iv lex, iv k] S (Q_mo_byteOf S lex k) := by
  refine Mt_R rfl rfl ?_
  have C5 : ∀ (n5 : Nat) (v3 : Int) (v4 : Int), (0 ≤ v3 ∧ v3 ≤ 2147483647) → (0 ≤ v4 ∧ v4 ≤ 3) → (0 ≤ v3) → (k ≤ v3 + 13 * v4) → n5 = (4 - v4).toNat → Rl lay0 (d + 1) m_mo_byteOf 5 [(0, .ref 904), (1, iv lex), (3, iv v3), (4, iv v4)] [] S (Q_mo_byteOf S lex k) := by
    intro n5
    induction n5 using Nat.strongRecOn with
    | ind n5 ih5 =>
      intro v3 v4 w1 w2 w3 w4 hm5
      have C19 : ∀ (n19 : Nat) (v3 : Int) (v4 : Int) (v5 : Int), (0 ≤ v3 ∧ v3 ≤ 2147483647) → (0 ≤ v4 ∧ v4 ≤ 2) → (0 ≤ v5 ∧ v5 ≤ 12) → (0 ≤ v3) → (k ≤ v3 + 13 * v4) → (v4 < 3) → ((4 - v4).toNat ≤ n5) → n19 = (13 - v5).toNat → Rl lay0 (d + 1) m_mo_byteOf 19 [(0, .ref 904), (1, iv lex), (3, iv v3), (4, iv v4), (5, iv v5)] [] S (Q_mo_byteOf S lex k) := by
        intro n19
        induction n19 using Nat.strongRecOn with
        | ind n19 ih19 =>
          intro v3 v4 v5 w5 w6 w7 w8 w9 w10 w11 hm19
          refine l_aload_n rfl rfl ?_
          refine l_gfr rfl rfl rfl rfl rfl (hH.r 904 11 913 rfl) ?_
          refine l_iconst rfl ?_
          refine l_iload_n rfl rfl ?_
          refine l_imul rfl ?_
          refine l_iload rfl rfl ?_
          refine l_iadd rfl ?_
          refine l_laload (n := 900) rfl rfl (by omega) (by omega) (by unfold rg; omega) ?_
          have w12 : -9223372036854775808 ≤ (Xj S 913 ((((3 * lex) + v4)).toNat)) ∧ (Xj S 913 ((((3 * lex) + v4)).toNat)) < 9223372036854775808 := Xj_rg
          refine l_iload rfl rfl ?_
          refine l_callS rfl rfl (by decide) rfl (t_mo_letterOf hH (Xj S 913 ((((3 * lex) + v4)).toNat)) v5 ⟨by omega, by omega⟩ _) ?_
          rintro _ _ ⟨rfl, z14, rfl, w14, w13⟩
          show Rl _ _ _ _ _ [iv z14] _ _
          refine l_iconst rfl ?_
          refine l_icmp_eq rfl rfl (by unfold rg; omega) (by unfold rg; omega) (fun w15 => ?_) (fun w16 => ?_)
          · refine l_iload_n rfl rfl ?_
            refine l_iload rfl rfl ?_
            refine l_icmp_ge rfl rfl (by unfold rg; omega) (by unfold rg; omega) (fun w17 => ?_) (fun w18 => ?_)
            · refine l_iload_n rfl rfl ?_
              refine l_iload rfl rfl ?_
              refine l_isub rfl ?_
              refine l_istore_n rfl rfl rfl ?_
              refine l_iload rfl rfl ?_
              refine l_iconst rfl ?_
              refine l_iadd rfl ?_
              refine l_aload_n rfl rfl ?_
              refine l_gfr rfl rfl rfl rfl rfl (hH.r 904 10 912 rfl) ?_
              refine l_iload_n rfl rfl ?_
              refine l_iaload (n := 300) rfl rfl (by omega) (by omega) (by unfold rg; omega) ?_
              have w19 : 0 ≤ (Xi S 912 ((lex).toNat)) ∧ (Xi S 912 ((lex).toNat)) ≤ 3 := hH.c _ _
              refine l_icmp_ne rfl rfl (by unfold rg; omega) (by unfold rg; omega) (fun w20 => ?_) (fun w21 => ?_)
              · refine l_iconst rfl ?_
                refine l_istore rfl rfl rfl ?_
                refine l_iload_n rfl rfl ?_
                refine l_if_ne rfl rfl (by unfold rg; omega) (fun w22 => ?_) (fun w23 => ?_)
                · refine l_iinc rfl rfl rfl rfl ?_
                  refine l_iinc rfl rfl rfl rfl ?_
                  refine l_goto rfl rfl ?_
                  exact Rl_weak (ih5 _ (by omega) (((v3 - v5) + (-1))) ((v4 + 1)) (by omega) (by omega) (by omega) (by omega) rfl) (And.intro rfl (And.intro rfl (And.intro rfl (And.intro rfl (True.intro)))))
                · refine l_iload rfl rfl ?_
                  refine l_if_ne rfl rfl (by unfold rg; omega) (fun w24 => absurd w24 (by omega)) (fun w25 => ?_)
                  · refine l_bipush rfl rfl ?_
                    refine l_goto rfl rfl ?_
                    refine l_ireturn rfl rfl ?_
                    exact ⟨rfl, _, rfl, ⟨by omega, by omega⟩, (by first | assumption | omega)⟩
              · refine l_iconst rfl ?_
                refine l_goto rfl rfl ?_
                refine l_istore rfl rfl rfl ?_
                refine l_iload_n rfl rfl ?_
                refine l_if_ne rfl rfl (by unfold rg; omega) (fun w26 => ?_) (fun w27 => ?_)
                · refine l_iinc rfl rfl rfl rfl ?_
                  refine l_iinc rfl rfl rfl rfl ?_
                  refine l_goto rfl rfl ?_
                  exact Rl_weak (ih5 _ (by omega) (((v3 - v5) + (-1))) ((v4 + 1)) (by omega) (by omega) (by omega) (by omega) rfl) (And.intro rfl (And.intro rfl (And.intro rfl (And.intro rfl (True.intro)))))
                · refine l_iload rfl rfl ?_
                  refine l_if_ne rfl rfl (by unfold rg; omega) (fun w28 => ?_) (fun w29 => absurd w29 (by omega))
                  · refine l_aload_n rfl rfl ?_
                    refine l_gfr rfl rfl rfl rfl rfl (hH.r 904 14 916 rfl) ?_
                    refine l_iload_n rfl rfl ?_
                    refine l_baload (n := 300) rfl rfl rfl (by decide) (by omega) (by omega) (by unfold rg; omega) ?_
                    have w30 : 0 ≤ (Xi S 916 ((lex).toNat)) ∧ (Xi S 916 ((lex).toNat)) ≤ 1 := hH.c _ _
                    refine l_if_eq rfl rfl (by unfold rg; omega) (fun w31 => ?_) (fun w32 => ?_)
                    · refine l_iconst rfl ?_
                      refine l_ireturn rfl rfl ?_
                      exact ⟨rfl, _, rfl, ⟨by omega, by omega⟩, (by first | assumption | omega)⟩
                    · refine l_bipush rfl rfl ?_
                      refine l_goto rfl rfl ?_
                      refine l_ireturn rfl rfl ?_
                      exact ⟨rfl, _, rfl, ⟨by omega, by omega⟩, (by first | assumption | omega)⟩
            · refine l_aload_n rfl rfl ?_
              refine l_gfr rfl rfl rfl rfl rfl (hH.r 904 11 913 rfl) ?_
              refine l_iconst rfl ?_
              refine l_iload_n rfl rfl ?_
              refine l_imul rfl ?_
              refine l_iload rfl rfl ?_
              refine l_iadd rfl ?_
              refine l_laload (n := 900) rfl rfl (by omega) (by omega) (by unfold rg; omega) ?_
              have w33 : -9223372036854775808 ≤ (Xj S 913 ((((3 * lex) + v4)).toNat)) ∧ (Xj S 913 ((((3 * lex) + v4)).toNat)) < 9223372036854775808 := Xj_rg
              refine l_iload_n rfl rfl ?_
              refine l_callS rfl rfl (by decide) rfl (t_mo_letterOf hH (Xj S 913 ((((3 * lex) + v4)).toNat)) v3 ⟨by omega, by omega⟩ _) ?_
              rintro _ _ ⟨rfl, z35, rfl, w35, w34⟩
              show Rl _ _ _ _ _ [iv z35] _ _
              refine l_ireturn rfl rfl ?_
              exact ⟨rfl, _, rfl, ⟨by omega, by omega⟩, (by first | assumption | omega)⟩
          · refine l_iinc rfl rfl rfl rfl ?_
            refine l_goto rfl rfl ?_
            exact Rl_weak (ih19 _ (by omega) (v3) (v4) ((v5 + 1)) (by omega) (by omega) (by omega) (by omega) (by omega) (by omega) (by omega) rfl) (And.intro rfl (And.intro rfl (And.intro rfl (And.intro rfl (And.intro rfl (True.intro))))))
      refine l_iload rfl rfl ?_
      refine l_aload_n rfl rfl ?_
      refine l_gfr rfl rfl rfl rfl rfl (hH.r 904 10 912 rfl) ?_
      refine l_iload_n rfl rfl ?_
      refine l_iaload (n := 300) rfl rfl (by omega) (by omega) (by unfold rg; omega) ?_
      have w36 : 0 ≤ (Xi S 912 ((lex).toNat)) ∧ (Xi S 912 ((lex).toNat)) ≤ 3 := hH.c _ _
      refine l_icmp_ge rfl rfl (by unfold rg; omega) (by unfold rg; omega) (fun w37 => ?_) (fun w38 => ?_)
      · refine l_iconst rfl ?_
        refine l_ireturn rfl rfl ?_
        exact ⟨rfl, _, rfl, ⟨by omega, by omega⟩, (by first | assumption | omega)⟩
      · refine l_iconst rfl ?_
        refine l_istore rfl rfl rfl ?_
        exact Rl_weak (C19 _ (v3) (v4) (0) (by omega) (by omega) (by omega) (by omega) (by omega) (by omega) (by omega) rfl) (And.intro rfl (And.intro rfl (And.intro rfl (And.intro rfl (And.intro rfl (True.intro))))))
  refine l_iload_n rfl rfl ?_
  refine l_istore_n rfl rfl rfl ?_
  refine l_iconst rfl ?_
  refine l_istore rfl rfl rfl ?_
  exact Rl_weak (C5 _ (k) (0) (by omega) (by omega) (by omega) (by omega) rfl) (And.intro rfl (And.intro rfl (And.intro rfl (And.intro rfl (True.intro)))))
def md_mo_put : List rec := [(904, 905, 156, 157), (993, 994, 0, 100000)]
abbrev Q_mo_put (S : sS) (c : Int) : pst := fun r S1 => HI S1 ∧ FR md_mo_put S S1 ∧ (r = none)
set_option maxRecDepth 100000 in
theorem t_mo_put {S : sS} (hH : HI S) (c : Int) (hc : -2147483648 ≤ c ∧ c ≤ 2147483647) (d : Nat) : Mt lay0 (d + 1) m_mo_put [.ref 904, iv c] S (Q_mo_put S c) := by
  refine Mt_R rfl rfl ?_
  have hF : FR md_mo_put S S := FR.rf
  refine l_aload_n rfl rfl ?_
  refine l_gfi rfl rfl rfl rfl rfl ?_
  have w1 : 0 ≤ (Xi S 904 156) ∧ (Xi S 904 156) ≤ 2000 := hH.c _ _
  refine l_sipush rfl rfl ?_
  refine l_icmp_ge rfl rfl (by unfold rg; omega) (by unfold rg; omega) (fun w2 => ?_) (fun w3 => ?_)
  · refine l_return rfl rfl ?_
    exact ⟨hH, hF, rfl⟩
  · refine l_aload_n rfl rfl ?_
    refine l_gfi rfl rfl rfl rfl rfl ?_
    have w4 : 0 ≤ (Xi S 904 157) ∧ (Xi S 904 157) ≤ 1 := hH.c _ _
    refine l_if_ne rfl rfl (by unfold rg; omega) (fun w5 => ?_) (fun w6 => ?_)
    · refine l_return rfl rfl ?_
      exact ⟨hH, hF, rfl⟩
    · refine l_aload_n rfl rfl ?_
      refine l_gfr rfl rfl rfl rfl rfl (hH.r 904 155 993 rfl) ?_
      refine l_aload_n rfl rfl ?_
      refine l_gfi rfl rfl rfl rfl rfl ?_
      refine l_iload_n rfl rfl ?_
      refine l_i2b rfl (fun c7 w7 => ?_)
      refine l_bastoreB1 (n := 2000) rfl rfl (by omega) (by omega) (by unfold rg; omega) ⟨by omega, by omega⟩ ?_
      obtain ⟨U1, eU1⟩ : ∃ T : sS, T = uI S 993 (((Xi S 904 156)).toNat) (Int32.ofInt c7) := ⟨_, rfl⟩
      rw [← eU1]
      have hHU1 : HI U1 := by rw [eU1]; exact HI_w hH (show -128 ≤ c7 by omega) (show c7 ≤ 127 by omega)
      have hFU1 : FR md_mo_put S U1 := by rw [eU1]; exact FR.wI hF (mdf_i (r := (993, 994, 0, 100000)) (List.mem_of_getElem? (i := 1) rfl) (inR_i (by omega) (by omega) (by omega) (by omega)))
      have w8 : Xi U1 993 (((Xi S 904 156)).toNat) = c7 := by rw [eU1]; exact Xi_same (by unfold rg; omega)
      refine l_aload_n rfl rfl ?_
      refine l_dup rfl rfl ?_
      refine l_gfi rfl rfl rfl rfl rfl ?_
      have w9 : (Xi U1 904 156) = (Xi S 904 156) := (show Xi U1 904 156 = Xi S 904 156 from by rw [eU1]; exact Xi_ne (by omega))
      rw [w9]
      refine l_iconst rfl ?_
      refine l_iadd rfl ?_
      refine l_pfi rfl rfl rfl rfl ?_
      obtain ⟨U2, eU2⟩ : ∃ T : sS, T = uI U1 904 156 (Int32.ofInt ((Xi S 904 156) + 1)) := ⟨_, rfl⟩
      rw [← eU2]
      have hHU2 : HI U2 := by rw [eU2]; exact HI_w hHU1 (show 0 ≤ ((Xi S 904 156) + 1) by omega) (show ((Xi S 904 156) + 1) ≤ 2000 by omega)
      have hFU2 : FR md_mo_put S U2 := by rw [eU2]; exact FR.wI hFU1 (mdf_i (r := (904, 905, 156, 157)) (List.mem_of_getElem? (i := 0) rfl) (inR_i (by omega) (by omega) (by omega) (by omega)))
      have w10 : Xi U2 904 156 = ((Xi S 904 156) + 1) := by rw [eU2]; exact Xi_same (by unfold rg; omega)
      refine l_return rfl rfl ?_
      exact ⟨hHU2, hFU2, rfl⟩
def md_mo_putNumber : List rec := [(904, 905, 156, 157), (993, 994, 0, 100000)]
abbrev Q_mo_putNumber (S : sS) (x : Int) : pst := fun r S1 => HI S1 ∧ FR md_mo_putNumber S S1 ∧ (r = none)
set_option maxRecDepth 100000 in
theorem t_mo_putNumber {S : sS} (hH : HI S) (x : Int) (hx : -2147483648 ≤ x ∧ x ≤ 2147483647) (d : Nat) : Mt lay0 (d + 2) m_mo_putNumber [.ref 904, iv x] S (Q_mo_putNumber S x) := by
  refine Mt_R rfl rfl ?_
  have hF : FR md_mo_putNumber S S := FR.rf
  have C10 : ∀  (T1 : sS) (_ : HI T1) (_ : FR md_mo_putNumber S T1), Rl lay0 (d + 1) m_mo_putNumber 10 [(0, .ref 904), (1, iv x)] [] T1 (Q_mo_putNumber S x) := by
    intro T1 hHT1 hFT1
    have C17 : ∀ (n17 : Nat) (v2 : Int) (v3 : Int), (-2147483648 ≤ v2 ∧ v2 ≤ 2147483647) → (0 ≤ v3 ∧ v3 ≤ 2147483647) → (1 ≤ v3) → n17 = (2147483648 - v3).toNat → Rl lay0 (d + 1) m_mo_putNumber 17 [(0, .ref 904), (2, iv v2), (3, iv v3)] [] T1 (Q_mo_putNumber S x) := by
      intro n17
      induction n17 using Nat.strongRecOn with
      | ind n17 ih17 =>
        intro v2 v3 w1 w2 w3 hm17
        have C33 : ∀ (n33 : Nat) (T2 : sS) (_ : HI T2) (_ : FR md_mo_putNumber S T2) (v2 : Int) (v3 : Int), (-2147483648 ≤ v2 ∧ v2 ≤ 2147483647) → (0 ≤ v3 ∧ v3 ≤ 2147483647) → (0 ≤ v3) → n33 = (v3).toNat → Rl lay0 (d + 1) m_mo_putNumber 33 [(0, .ref 904), (2, iv v2), (3, iv v3)] [] T2 (Q_mo_putNumber S x) := by
          intro n33
          induction n33 using Nat.strongRecOn with
          | ind n33 ih33 =>
            intro T2 hHT2 hFT2 v2 v3 w4 w5 w6 hm33
            refine l_iload_n rfl rfl ?_
            refine l_if_le rfl rfl (by unfold rg; omega) (fun w7 => ?_) (fun w8 => ?_)
            · refine l_return rfl rfl ?_
              exact ⟨hHT2, hFT2, rfl⟩
            · refine l_aload_n rfl rfl ?_
              refine l_bipush rfl rfl ?_
              refine l_iload_n rfl rfl ?_
              refine l_iload_n rfl rfl ?_
              refine l_idivA rfl (by omega) (by unfold rg; omega) (by unfold rg; omega) (fun c9 w9 w9b w9c => ?_)
              refine l_bipush rfl rfl ?_
              refine l_iremA rfl (by omega) (by unfold rg; omega) (by unfold rg; omega) (fun c10 w10 w10b w10c => ?_)
              refine l_iaddW rfl (fun c11 w11 => ?_)
              refine l_callV rfl rfl rfl (t_mo_put hHT2 c11 ⟨by omega, by omega⟩ _) ?_
              rintro _ T3 ⟨hHT3, w13, rfl⟩
              have hFT3 : FR md_mo_putNumber S T3 := FR.tr hFT2 w13 rfl
              show Rl _ _ _ _ _ [] _ _
              refine l_iload_n rfl rfl ?_
              refine l_bipush rfl rfl ?_
              refine l_idivA rfl (by omega) (by unfold rg; omega) (by unfold rg; omega) (fun c14 w14 w14b w14c => ?_)
              refine l_istore_n rfl rfl rfl ?_
              refine l_goto rfl rfl ?_
              exact Rl_weak (ih33 _ (by omega) T3 hHT3 hFT3 (v2) (c14) (by omega) (by omega) (by omega) rfl) (And.intro rfl (And.intro rfl (And.intro rfl (True.intro))))
        refine l_iload_n rfl rfl ?_
        refine l_iload_n rfl rfl ?_
        refine l_idivA rfl (by omega) (by unfold rg; omega) (by unfold rg; omega) (fun c15 w15 w15b w15c => ?_)
        refine l_bipush rfl rfl ?_
        refine l_icmp_le rfl rfl (by unfold rg; omega) (by unfold rg; omega) (fun w16 => ?_) (fun w17 => ?_)
        · exact Rl_weak (C33 _ T1 hHT1 hFT1 (v2) (v3) (by omega) (by omega) (by omega) rfl) (And.intro rfl (And.intro rfl (And.intro rfl (True.intro))))
        · refine l_iload_n rfl rfl ?_
          refine l_bipush rfl rfl ?_
          refine l_imul rfl ?_
          refine l_istore_n rfl rfl rfl ?_
          refine l_goto rfl rfl ?_
          exact Rl_weak (ih17 _ (by omega) (v2) ((v3 * 10)) (by omega) (by omega) (by omega) rfl) (And.intro rfl (And.intro rfl (And.intro rfl (True.intro))))
    refine l_iload_n rfl rfl ?_
    refine l_abs rfl rfl rfl (by unfold rg; omega) (fun c18 w18 w18b w18c => ?_)
    refine l_istore_n rfl rfl rfl ?_
    refine l_iconst rfl ?_
    refine l_istore_n rfl rfl rfl ?_
    exact Rl_weak (C17 _ (c18) (1) (by omega) (by omega) (by omega) rfl) (And.intro rfl (And.intro rfl (And.intro rfl (True.intro))))
  refine l_iload_n rfl rfl ?_
  refine l_if_ge rfl rfl (by unfold rg; omega) (fun w19 => ?_) (fun w20 => ?_)
  · exact Rl_weak (C10 S hH hF  ) (And.intro rfl (And.intro rfl (True.intro)))
  · refine l_aload_n rfl rfl ?_
    refine l_bipush rfl rfl ?_
    refine l_callV rfl rfl rfl (t_mo_put hH 45 ⟨by omega, by omega⟩ _) ?_
    rintro _ T4 ⟨hHT4, w22, rfl⟩
    have hFT4 : FR md_mo_putNumber S T4 := FR.tr hF w22 rfl
    show Rl _ _ _ _ _ [] _ _
    exact Rl_weak (C10 T4 hHT4 hFT4  ) (And.intro rfl (And.intro rfl (True.intro)))
def md_mo_putLex : List rec := [(904, 905, 156, 157), (993, 994, 0, 100000)]
abbrev Q_mo_putLex (S : sS) (lex : Int) : pst := fun r S1 => HI S1 ∧ FR md_mo_putLex S S1 ∧ (r = none)
set_option maxRecDepth 100000 in
theorem t_mo_putLex {S : sS} (hH : HI S) (lex : Int) (hlex : -1 ≤ lex ∧ lex ≤ 299) (d : Nat) : Mt lay0 (d + 3) m_mo_putLex [.ref 904, iv lex] S (Q_mo_putLex S lex) := by
  refine Mt_R rfl rfl ?_
  have hF : FR md_mo_putLex S S := FR.rf
  have C2 : ∀ (n2 : Nat) (T1 : sS) (_ : HI T1) (_ : FR md_mo_putLex S T1) (v2 : Int), (0 ≤ v2 ∧ v2 ≤ 41) → n2 = (42 - v2).toNat → Rl lay0 (d + 2) m_mo_putLex 2 [(0, .ref 904), (1, iv lex), (2, iv v2)] [] T1 (Q_mo_putLex S lex) := by
    intro n2
    induction n2 using Nat.strongRecOn with
    | ind n2 ih2 =>
      intro T1 hHT1 hFT1 v2 w1 hm2
      refine l_iload_n rfl rfl ?_
      refine l_iconst rfl ?_
      refine l_icmp_eq rfl rfl (by unfold rg; omega) (by unfold rg; omega) (fun w2 => ?_) (fun w3 => ?_)
      · refine l_return rfl rfl ?_
        exact ⟨hHT1, hFT1, rfl⟩
      · refine l_aload_n rfl rfl ?_
        refine l_iload_n rfl rfl ?_
        refine l_iload_n rfl rfl ?_
        refine l_callV rfl rfl rfl (t_mo_byteOf hHT1 lex v2 ⟨by omega, by omega⟩ ⟨by omega, by omega⟩ _) ?_
        rintro _ _ ⟨rfl, z5, rfl, w5, w4⟩
        show Rl _ _ _ _ _ [iv z5] _ _
        refine l_iconst rfl ?_
        refine l_icmp_eq rfl rfl (by unfold rg; omega) (by unfold rg; omega) (fun w6 => ?_) (fun w7 => ?_)
        · refine l_return rfl rfl ?_
          exact ⟨hHT1, hFT1, rfl⟩
        · refine l_aload_n rfl rfl ?_
          refine l_aload_n rfl rfl ?_
          refine l_iload_n rfl rfl ?_
          refine l_iload_n rfl rfl ?_
          refine l_callV rfl rfl rfl (t_mo_byteOf hHT1 lex v2 ⟨by omega, by omega⟩ ⟨by omega, by omega⟩ _) ?_
          rintro _ _ ⟨rfl, z9, rfl, w9, w8⟩
          show Rl _ _ _ _ _ [iv z9, .ref 904] _ _
          refine l_callV rfl rfl rfl (t_mo_put hHT1 z9 ⟨by omega, by omega⟩ _) ?_
          rintro _ T2 ⟨hHT2, w11, rfl⟩
          have hFT2 : FR md_mo_putLex S T2 := FR.tr hFT1 w11 rfl
          show Rl _ _ _ _ _ [] _ _
          refine l_iinc rfl rfl rfl rfl ?_
          refine l_goto rfl rfl ?_
          exact Rl_weak (ih2 _ (by omega) T2 hHT2 hFT2 ((v2 + 1)) (by omega) rfl) (And.intro rfl (And.intro rfl (And.intro rfl (True.intro))))
  refine l_iconst rfl ?_
  refine l_istore_n rfl rfl rfl ?_
  exact Rl_weak (C2 _ S hH hF (0) (by omega) rfl) (And.intro rfl (And.intro rfl (And.intro rfl (True.intro))))
abbrev Q_mo_has (S : sS) (kind : Int) (p : Int) : pst := fun r S1 => S = S1 ∧ (∃ z : Int, r = some (iv z) ∧ (0 ≤ z ∧ z ≤ 1) ∧ (z = 1 → 0 ≤ kind))
set_option maxRecDepth 100000 in
theorem t_mo_has {S : sS} (hH : HI S) (kind : Int) (p : Int) (hkind : -1 ≤ kind ∧ kind ≤ 15) (hp : 0 ≤ p ∧ p ≤ 11) (hB : ABV S) (d : Nat) : Mt lay0 (d + 1) m_mo_has [.ref 904, iv kind, iv p] S (Q_mo_has S kind p) := by
  refine Mt_R rfl rfl ?_
  have C2 : ∀ (n2 : Nat) (v3 : Int), (-1 ≤ v3 ∧ v3 ≤ 15) → (v3 ≤ kind) → n2 = (v3 + 1).toNat → Rl lay0 (d + 0) m_mo_has 2 [(0, .ref 904), (2, iv p), (3, iv v3)] [] S (Q_mo_has S kind p) := by
    intro n2
    induction n2 using Nat.strongRecOn with
    | ind n2 ih2 =>
      intro v3 w1 w2 hm2
      refine l_iload_n rfl rfl ?_
      refine l_if_lt rfl rfl (by unfold rg; omega) (fun w3 => ?_) (fun w4 => ?_)
      · refine l_iconst rfl ?_
        refine l_ireturn rfl rfl ?_
        exact ⟨rfl, _, rfl, ⟨by omega, by omega⟩, (by first | assumption | omega)⟩
      · refine l_aload_n rfl rfl ?_
        refine l_gfr rfl rfl rfl rfl rfl (hH.r 904 34 929 rfl) ?_
        refine l_bipush rfl rfl ?_
        refine l_iload_n rfl rfl ?_
        refine l_imul rfl ?_
        refine l_iload_n rfl rfl ?_
        refine l_iadd rfl ?_
        refine l_baload (n := 192) rfl rfl rfl (by decide) (by omega) (by omega) (by unfold rg; omega) ?_
        have w5 : 0 ≤ (Xi S 929 ((((12 * v3) + p)).toNat)) ∧ (Xi S 929 ((((12 * v3) + p)).toNat)) ≤ 1 := hH.c _ _
        refine l_if_eq rfl rfl (by unfold rg; omega) (fun w6 => ?_) (fun w7 => ?_)
        · refine l_aload_n rfl rfl ?_
          refine l_gfr rfl rfl rfl rfl rfl (hH.r 904 17 917 rfl) ?_
          refine l_iload_n rfl rfl ?_
          refine l_iaload (n := 16) rfl rfl (by omega) (by omega) (by unfold rg; omega) ?_
          have w8 : -1 ≤ (Xi S 917 ((v3).toNat)) ∧ (Xi S 917 ((v3).toNat)) ≤ 15 := hH.c _ _
          have b27 : (Xi S 917 ((v3).toNat)) < v3 := by have t := hB (v3).toNat (by omega); omega
          refine l_istore_n rfl rfl rfl ?_
          refine l_goto rfl rfl ?_
          exact Rl_weak (ih2 _ (by omega) ((Xi S 917 ((v3).toNat))) (by omega) (by omega) rfl) (And.intro rfl (And.intro rfl (And.intro rfl (True.intro))))
        · refine l_iconst rfl ?_
          refine l_ireturn rfl rfl ?_
          exact ⟨rfl, _, rfl, ⟨by omega, by omega⟩, (by first | assumption | omega)⟩
  refine l_iload_n rfl rfl ?_
  refine l_istore_n rfl rfl rfl ?_
  exact Rl_weak (C2 _ (kind) (by omega) (by omega) rfl) (And.intro rfl (And.intro rfl (And.intro rfl (True.intro))))
abbrev Q_mo_kindOfWay (S : sS) (m : Int) : pst := fun r S1 => S = S1 ∧ (∃ z : Int, r = some (iv z) ∧ (0 ≤ z ∧ z ≤ 4))
set_option maxRecDepth 100000 in
theorem t_mo_kindOfWay {S : sS} (hH : HI S) (m : Int) (hm : -2147483648 ≤ m ∧ m ≤ 2147483647) (d : Nat) : Mt lay0 (d + 1) m_mo_kindOfWay [iv m] S (Q_mo_kindOfWay S m) := by
  refine Mt_R rfl rfl ?_
  refine l_iload_n rfl rfl ?_
  refine l_iconst rfl ?_
  refine l_icmp_ne rfl rfl (by unfold rg; omega) (by unfold rg; omega) (fun w1 => ?_) (fun w2 => ?_)
  · refine l_iload_n rfl rfl ?_
    refine l_iconst rfl ?_
    refine l_icmp_ne rfl rfl (by unfold rg; omega) (by unfold rg; omega) (fun w3 => ?_) (fun w4 => ?_)
    · refine l_iconst rfl ?_
      refine l_ireturn rfl rfl ?_
      exact ⟨rfl, _, rfl, ⟨by omega, by omega⟩⟩
    · refine l_iconst rfl ?_
      refine l_goto rfl rfl ?_
      refine l_ireturn rfl rfl ?_
      exact ⟨rfl, _, rfl, ⟨by omega, by omega⟩⟩
  · refine l_iconst rfl ?_
    refine l_goto rfl rfl ?_
    refine l_ireturn rfl rfl ?_
    exact ⟨rfl, _, rfl, ⟨by omega, by omega⟩⟩
abbrev Q_mo_mayHold (S : sS) (m : Int) (kind : Int) : pst := fun r S1 => S = S1 ∧ (∃ z : Int, r = some (iv z) ∧ (0 ≤ z ∧ z ≤ 1))
set_option maxRecDepth 100000 in
theorem t_mo_mayHold {S : sS} (hH : HI S) (m : Int) (kind : Int) (hm : -2147483648 ≤ m ∧ m ≤ 2147483647) (hkind : -1 ≤ kind ∧ kind ≤ 15) (hB : ABV S) (d : Nat) : Mt lay0 (d + 2) m_mo_mayHold [.ref 904, iv m, iv kind] S (Q_mo_mayHold S m kind) := by
  refine Mt_R rfl rfl ?_
  refine l_iload_n rfl rfl ?_
  refine l_iconst rfl ?_
  refine l_icmp_ne rfl rfl (by unfold rg; omega) (by unfold rg; omega) (fun w1 => ?_) (fun w2 => ?_)
  · refine l_aload_n rfl rfl ?_
    refine l_iload_n rfl rfl ?_
    refine l_iload_n rfl rfl ?_
    refine l_callS rfl rfl (by decide) rfl (t_mo_kindOfWay hH m ⟨by omega, by omega⟩ _) ?_
    rintro _ _ ⟨rfl, z3, rfl, w3⟩
    show Rl _ _ _ _ _ [iv z3, iv kind, .ref 904] _ _
    refine l_callV rfl rfl rfl (t_mo_isBelow hH kind z3 ⟨by omega, by omega⟩ ⟨by omega, by omega⟩ (by first | assumption | exact (by assumption : ABV S)) _) ?_
    rintro _ _ ⟨rfl, z5, rfl, w5, w4⟩
    show Rl _ _ _ _ _ [iv z5] _ _
    refine l_ireturn rfl (retI_z (by omega)) ?_
    exact ⟨rfl, _, rfl, ⟨by omega, by omega⟩⟩
  · refine l_aload_n rfl rfl ?_
    refine l_iload_n rfl rfl ?_
    refine l_iconst rfl ?_
    refine l_callV rfl rfl rfl (t_mo_isBelow hH kind 1 ⟨by omega, by omega⟩ ⟨by omega, by omega⟩ (by first | assumption | exact (by assumption : ABV S)) _) ?_
    rintro _ _ ⟨rfl, z7, rfl, w7, w6⟩
    show Rl _ _ _ _ _ [iv z7] _ _
    refine l_if_ne rfl rfl (by unfold rg; omega) (fun w8 => ?_) (fun w9 => ?_)
    · refine l_iconst rfl ?_
      refine l_goto rfl rfl ?_
      refine l_ireturn rfl rfl ?_
      exact ⟨rfl, _, rfl, ⟨by omega, by omega⟩⟩
    · refine l_aload_n rfl rfl ?_
      refine l_iload_n rfl rfl ?_
      refine l_iconst rfl ?_
      refine l_callV rfl rfl rfl (t_mo_isBelow hH kind 2 ⟨by omega, by omega⟩ ⟨by omega, by omega⟩ (by first | assumption | exact (by assumption : ABV S)) _) ?_
      rintro _ _ ⟨rfl, z11, rfl, w11, w10⟩
      show Rl _ _ _ _ _ [iv z11] _ _
      refine l_if_eq rfl rfl (by unfold rg; omega) (fun w12 => ?_) (fun w13 => ?_)
      · refine l_iconst rfl ?_
        refine l_goto rfl rfl ?_
        refine l_ireturn rfl rfl ?_
        exact ⟨rfl, _, rfl, ⟨by omega, by omega⟩⟩
      · refine l_iconst rfl ?_
        refine l_goto rfl rfl ?_
        refine l_ireturn rfl rfl ?_
        exact ⟨rfl, _, rfl, ⟨by omega, by omega⟩⟩
abbrev Q_mo_isWithin (S : sS) (o : Int) (h : Int) : pst := fun r S1 => S = S1 ∧ (∃ z : Int, r = some (iv z) ∧ (0 ≤ z ∧ z ≤ 1))
set_option maxRecDepth 100000 in
theorem t_mo_isWithin {S : sS} (hH : HI S) (o : Int) (h : Int) (ho : -1 ≤ o ∧ o ≤ 23) (hh : -2147483648 ≤ h ∧ h ≤ 2147483647) (d : Nat) : Mt lay0 (d + 1) m_mo_isWithin [.ref 904, iv o, iv h] S (Q_mo_isWithin S o h) := by
  refine Mt_R rfl rfl ?_
  have C5 : ∀ (n5 : Nat) (v3 : Int) (v4 : Int), (-1 ≤ v3 ∧ v3 ≤ 23) → (0 ≤ v4 ∧ v4 ≤ 25) → n5 = (26 - v4).toNat → Rl lay0 (d + 0) m_mo_isWithin 5 [(0, .ref 904), (2, iv h), (3, iv v3), (4, iv v4)] [] S (Q_mo_isWithin S o h) := by
    intro n5
    induction n5 using Nat.strongRecOn with
    | ind n5 ih5 =>
      intro v3 v4 w1 w2 hm5
      refine l_iload rfl rfl ?_
      refine l_bipush rfl rfl ?_
      refine l_icmp_gt rfl rfl (by unfold rg; omega) (by unfold rg; omega) (fun w3 => ?_) (fun w4 => ?_)
      · refine l_iconst rfl ?_
        refine l_ireturn rfl rfl ?_
        exact ⟨rfl, _, rfl, ⟨by omega, by omega⟩⟩
      · refine l_iload_n rfl rfl ?_
        refine l_iconst rfl ?_
        refine l_icmp_eq rfl rfl (by unfold rg; omega) (by unfold rg; omega) (fun w5 => ?_) (fun w6 => ?_)
        · refine l_iconst rfl ?_
          refine l_ireturn rfl rfl ?_
          exact ⟨rfl, _, rfl, ⟨by omega, by omega⟩⟩
        · refine l_iload_n rfl rfl ?_
          refine l_iload_n rfl rfl ?_
          refine l_icmp_ne rfl rfl (by unfold rg; omega) (by unfold rg; omega) (fun w7 => ?_) (fun w8 => ?_)
          · refine l_aload_n rfl rfl ?_
            refine l_gfr rfl rfl rfl rfl rfl (hH.r 904 21 919 rfl) ?_
            refine l_iload_n rfl rfl ?_
            refine l_iaload (n := 24) rfl rfl (by omega) (by omega) (by unfold rg; omega) ?_
            have w9 : 0 ≤ (Xi S 919 ((v3).toNat)) ∧ (Xi S 919 ((v3).toNat)) ≤ 5 := hH.c _ _
            refine l_if_ne rfl rfl (by unfold rg; omega) (fun w10 => ?_) (fun w11 => ?_)
            · refine l_aload_n rfl rfl ?_
              refine l_gfr rfl rfl rfl rfl rfl (hH.r 904 22 920 rfl) ?_
              refine l_iload_n rfl rfl ?_
              refine l_iaload (n := 24) rfl rfl (by omega) (by omega) (by unfold rg; omega) ?_
              have w12 : -1 ≤ (Xi S 920 ((v3).toNat)) ∧ (Xi S 920 ((v3).toNat)) ≤ 23 := hH.c _ _
              refine l_istore_n rfl rfl rfl ?_
              refine l_iinc rfl rfl rfl rfl ?_
              refine l_goto rfl rfl ?_
              exact Rl_weak (ih5 _ (by omega) ((Xi S 920 ((v3).toNat))) ((v4 + 1)) (by omega) (by omega) rfl) (And.intro rfl (And.intro rfl (And.intro rfl (And.intro rfl (True.intro)))))
            · refine l_iconst rfl ?_
              refine l_goto rfl rfl ?_
              refine l_istore_n rfl rfl rfl ?_
              refine l_iinc rfl rfl rfl rfl ?_
              refine l_goto rfl rfl ?_
              exact Rl_weak (ih5 _ (by omega) ((-1)) ((v4 + 1)) (by omega) (by omega) rfl) (And.intro rfl (And.intro rfl (And.intro rfl (And.intro rfl (True.intro)))))
          · refine l_iconst rfl ?_
            refine l_ireturn rfl rfl ?_
            exact ⟨rfl, _, rfl, ⟨by omega, by omega⟩⟩
  refine l_iload_n rfl rfl ?_
  refine l_istore_n rfl rfl rfl ?_
  refine l_iconst rfl ?_
  refine l_istore rfl rfl rfl ?_
  exact Rl_weak (C5 _ (o) (0) (by omega) (by omega) rfl) (And.intro rfl (And.intro rfl (And.intro rfl (And.intro rfl (True.intro)))))
abbrev Q_mo_isHeld (S : sS) (o : Int) : pst := fun r S1 => S = S1 ∧ (∃ z : Int, r = some (iv z) ∧ (0 ≤ z ∧ z ≤ 1))
set_option maxRecDepth 100000 in
theorem t_mo_isHeld {S : sS} (hH : HI S) (o : Int) (ho : 0 ≤ o ∧ o ≤ 23) (d : Nat) : Mt lay0 (d + 1) m_mo_isHeld [.ref 904, iv o] S (Q_mo_isHeld S o) := by
  refine Mt_R rfl rfl ?_
  have C20 : Rl lay0 (d + 0) m_mo_isHeld 20 [(0, .ref 904), (1, iv o)] [] S (Q_mo_isHeld S o) := by
    refine l_aload_n rfl rfl ?_
    refine l_gfr rfl rfl rfl rfl rfl (hH.r 904 22 920 rfl) ?_
    refine l_iload_n rfl rfl ?_
    refine l_iaload (n := 24) rfl rfl (by omega) (by omega) (by unfold rg; omega) ?_
    have w1 : -1 ≤ (Xi S 920 ((o).toNat)) ∧ (Xi S 920 ((o).toNat)) ≤ 23 := hH.c _ _
    refine l_if_ne rfl rfl (by unfold rg; omega) (fun w2 => ?_) (fun w3 => ?_)
    · refine l_iconst rfl ?_
      refine l_ireturn rfl rfl ?_
      exact ⟨rfl, _, rfl, ⟨by omega, by omega⟩⟩
    · refine l_iconst rfl ?_
      refine l_goto rfl rfl ?_
      refine l_ireturn rfl rfl ?_
      exact ⟨rfl, _, rfl, ⟨by omega, by omega⟩⟩
  refine l_aload_n rfl rfl ?_
  refine l_gfr rfl rfl rfl rfl rfl (hH.r 904 21 919 rfl) ?_
  refine l_iload_n rfl rfl ?_
  refine l_iaload (n := 24) rfl rfl (by omega) (by omega) (by unfold rg; omega) ?_
  have w4 : 0 ≤ (Xi S 919 ((o).toNat)) ∧ (Xi S 919 ((o).toNat)) ≤ 5 := hH.c _ _
  refine l_iconst rfl ?_
  refine l_icmp_eq rfl rfl (by unfold rg; omega) (by unfold rg; omega) (fun w5 => ?_) (fun w6 => ?_)
  · exact Rl_weak (C20  ) (And.intro rfl (And.intro rfl (True.intro)))
  · refine l_aload_n rfl rfl ?_
    refine l_gfr rfl rfl rfl rfl rfl (hH.r 904 21 919 rfl) ?_
    refine l_iload_n rfl rfl ?_
    refine l_iaload (n := 24) rfl rfl (by omega) (by omega) (by unfold rg; omega) ?_
    refine l_iconst rfl ?_
    refine l_icmp_ne rfl rfl (by unfold rg; omega) (by unfold rg; omega) (fun w7 => ?_) (fun w8 => ?_)
    · refine l_iconst rfl ?_
      refine l_ireturn rfl rfl ?_
      exact ⟨rfl, _, rfl, ⟨by omega, by omega⟩⟩
    · exact Rl_weak (C20  ) (And.intro rfl (And.intro rfl (True.intro)))
abbrev Q_mo_leadsTo (S : sS) (room : Int) (d : Int) : pst := fun r S1 => S = S1 ∧ (∃ z : Int, r = some (iv z) ∧ (-1 ≤ z ∧ z ≤ 23))
set_option maxRecDepth 100000 in
theorem t_mo_leadsTo {S : sS} (hH : HI S) (room : Int) (d : Int) (hroom : -2147483648 ≤ room ∧ room ≤ 2147483647) (hd : -2147483648 ≤ d ∧ d ≤ 2147483647) (d : Nat) : Mt lay0 (d + 1) m_mo_leadsTo [.ref 904, iv room, iv d] S (Q_mo_leadsTo S room d) := by
  refine Mt_R rfl rfl ?_
  have C2 : ∀ (n2 : Nat) (v3 : Int), (0 ≤ v3 ∧ v3 ≤ 200) → n2 = (201 - v3).toNat → Rl lay0 (d + 0) m_mo_leadsTo 2 [(0, .ref 904), (1, iv room), (2, iv d), (3, iv v3)] [] S (Q_mo_leadsTo S room d) := by
    intro n2
    induction n2 using Nat.strongRecOn with
    | ind n2 ih2 =>
      intro v3 w1 hm2
      have C45 : ∀ (n45 : Nat) (v3 : Int), (0 ≤ v3 ∧ v3 ≤ 200) → n45 = (201 - v3).toNat → Rl lay0 (d + 0) m_mo_leadsTo 45 [(0, .ref 904), (1, iv room), (2, iv d), (3, iv v3)] [] S (Q_mo_leadsTo S room d) := by
        intro n45
        induction n45 using Nat.strongRecOn with
        | ind n45 ih45 =>
          intro v3 w2 hm45
          refine l_iload_n rfl rfl ?_
          refine l_aload_n rfl rfl ?_
          refine l_gfi rfl rfl rfl rfl rfl ?_
          have w3 : 0 ≤ (Xi S 904 51) ∧ (Xi S 904 51) ≤ 200 := hH.c _ _
          refine l_icmp_ge rfl rfl (by unfold rg; omega) (by unfold rg; omega) (fun w4 => ?_) (fun w5 => ?_)
          · refine l_iconst rfl ?_
            refine l_ireturn rfl rfl ?_
            exact ⟨rfl, _, rfl, ⟨by omega, by omega⟩⟩
          · refine l_aload_n rfl rfl ?_
            refine l_gfr rfl rfl rfl rfl rfl (hH.r 904 54 945 rfl) ?_
            refine l_iload_n rfl rfl ?_
            refine l_iaload (n := 200) rfl rfl (by omega) (by omega) (by unfold rg; omega) ?_
            have w6 : 0 ≤ (Xi S 945 ((v3).toNat)) ∧ (Xi S 945 ((v3).toNat)) ≤ 23 := hH.c _ _
            refine l_iload_n rfl rfl ?_
            refine l_icmp_ne rfl rfl (by unfold rg; omega) (by unfold rg; omega) (fun w7 => ?_) (fun w8 => ?_)
            · refine l_iinc rfl rfl rfl rfl ?_
              refine l_goto rfl rfl ?_
              exact Rl_weak (ih45 _ (by omega) ((v3 + 1)) (by omega) rfl) (And.intro rfl (And.intro rfl (And.intro rfl (And.intro rfl (True.intro)))))
            · refine l_aload_n rfl rfl ?_
              refine l_gfr rfl rfl rfl rfl rfl (hH.r 904 53 944 rfl) ?_
              refine l_iload_n rfl rfl ?_
              refine l_iaload (n := 200) rfl rfl (by omega) (by omega) (by unfold rg; omega) ?_
              have w9 : 0 ≤ (Xi S 944 ((v3).toNat)) ∧ (Xi S 944 ((v3).toNat)) ≤ 5 := hH.c _ _
              refine l_iload_n rfl rfl ?_
              refine l_iconst rfl ?_
              refine l_ixorF rfl ?_
              have w10 : -2147483648 ≤ (ixorF d 1) ∧ (ixorF d 1) ≤ 2147483647 := ixorF_rg
              refine l_icmp_ne rfl rfl (by unfold rg; omega) (by unfold rg; omega) (fun w11 => ?_) (fun w12 => ?_)
              · refine l_iinc rfl rfl rfl rfl ?_
                refine l_goto rfl rfl ?_
                exact Rl_weak (ih45 _ (by omega) ((v3 + 1)) (by omega) rfl) (And.intro rfl (And.intro rfl (And.intro rfl (And.intro rfl (True.intro)))))
              · refine l_aload_n rfl rfl ?_
                refine l_gfr rfl rfl rfl rfl rfl (hH.r 904 52 943 rfl) ?_
                refine l_iload_n rfl rfl ?_
                refine l_iaload (n := 200) rfl rfl (by omega) (by omega) (by unfold rg; omega) ?_
                have w13 : 0 ≤ (Xi S 943 ((v3).toNat)) ∧ (Xi S 943 ((v3).toNat)) ≤ 23 := hH.c _ _
                refine l_ireturn rfl rfl ?_
                exact ⟨rfl, _, rfl, ⟨by omega, by omega⟩⟩
      refine l_iload_n rfl rfl ?_
      refine l_aload_n rfl rfl ?_
      refine l_gfi rfl rfl rfl rfl rfl ?_
      have w14 : 0 ≤ (Xi S 904 51) ∧ (Xi S 904 51) ≤ 200 := hH.c _ _
      refine l_icmp_ge rfl rfl (by unfold rg; omega) (by unfold rg; omega) (fun w15 => ?_) (fun w16 => ?_)
      · refine l_iconst rfl ?_
        refine l_istore_n rfl rfl rfl ?_
        exact Rl_weak (C45 _ (0) (by omega) rfl) (And.intro rfl (And.intro rfl (And.intro rfl (And.intro rfl (True.intro)))))
      · refine l_aload_n rfl rfl ?_
        refine l_gfr rfl rfl rfl rfl rfl (hH.r 904 52 943 rfl) ?_
        refine l_iload_n rfl rfl ?_
        refine l_iaload (n := 200) rfl rfl (by omega) (by omega) (by unfold rg; omega) ?_
        have w17 : 0 ≤ (Xi S 943 ((v3).toNat)) ∧ (Xi S 943 ((v3).toNat)) ≤ 23 := hH.c _ _
        refine l_iload_n rfl rfl ?_
        refine l_icmp_ne rfl rfl (by unfold rg; omega) (by unfold rg; omega) (fun w18 => ?_) (fun w19 => ?_)
        · refine l_iinc rfl rfl rfl rfl ?_
          refine l_goto rfl rfl ?_
          exact Rl_weak (ih2 _ (by omega) ((v3 + 1)) (by omega) rfl) (And.intro rfl (And.intro rfl (And.intro rfl (And.intro rfl (True.intro)))))
        · refine l_aload_n rfl rfl ?_
          refine l_gfr rfl rfl rfl rfl rfl (hH.r 904 53 944 rfl) ?_
          refine l_iload_n rfl rfl ?_
          refine l_iaload (n := 200) rfl rfl (by omega) (by omega) (by unfold rg; omega) ?_
          have w20 : 0 ≤ (Xi S 944 ((v3).toNat)) ∧ (Xi S 944 ((v3).toNat)) ≤ 5 := hH.c _ _
          refine l_iload_n rfl rfl ?_
          refine l_icmp_ne rfl rfl (by unfold rg; omega) (by unfold rg; omega) (fun w21 => ?_) (fun w22 => ?_)
          · refine l_iinc rfl rfl rfl rfl ?_
            refine l_goto rfl rfl ?_
            exact Rl_weak (ih2 _ (by omega) ((v3 + 1)) (by omega) rfl) (And.intro rfl (And.intro rfl (And.intro rfl (And.intro rfl (True.intro)))))
          · refine l_aload_n rfl rfl ?_
            refine l_gfr rfl rfl rfl rfl rfl (hH.r 904 54 945 rfl) ?_
            refine l_iload_n rfl rfl ?_
            refine l_iaload (n := 200) rfl rfl (by omega) (by omega) (by unfold rg; omega) ?_
            have w23 : 0 ≤ (Xi S 945 ((v3).toNat)) ∧ (Xi S 945 ((v3).toNat)) ≤ 23 := hH.c _ _
            refine l_ireturn rfl rfl ?_
            exact ⟨rfl, _, rfl, ⟨by omega, by omega⟩⟩
  refine l_iconst rfl ?_
  refine l_istore_n rfl rfl rfl ?_
  exact Rl_weak (C2 _ (0) (by omega) rfl) (And.intro rfl (And.intro rfl (And.intro rfl (And.intro rfl (True.intro)))))
