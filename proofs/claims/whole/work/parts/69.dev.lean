/-! SAFETY of methods: printed by wip/safe (vc.py, decl.py) -/
theorem tok_ru {S U : sS} {r j : Nat} {v : Int32} (e : U = uI S (248 + r) j v) (hr : r < 24) (h : TOK S) : TOK U := fun i hi => by
  rw [e, Xi_ne (by omega)] at hi
  have t := h i hi
  have x7 : Xi U 877 i = Xi S 877 i := by rw [e, Xi_ne (by omega)]
  have x8 : Xi U 878 i = Xi S 878 i := by rw [e, Xi_ne (by omega)]
  have x5 : Xi U 876 5 = Xi S 876 5 := by rw [e, Xi_ne (by omega)]
  have x9 : Xj U 879 i = Xj S 879 i := by rw [e]; rfl
  rw [x7, x8, x5, x9]
  exact t
def md_rr_rulePhrases : List rec := [(246, 247, 2, 3), (246, 247, 5, 6), (246, 247, 8, 9), (248, 272, 0, 100000), (274, 275, 0, 100000), (275, 276, 0, 100000), (276, 876, 0, 1), (276, 876, 1, 2), (276, 876, 2, 3), (276, 876, 3, 4), (276, 876, 4, 5), (276, 876, 5, 6), (276, 876, 6, 7), (876, 877, 7, 8), (876, 877, 8, 9), (876, 877, 9, 10), (877, 878, 0, 100000), (878, 879, 0, 100000), (879, 880, 0, 100000), (895, 896, 5, 6), (895, 896, 6, 7), (895, 896, 7, 8), (895, 896, 8, 9), (895, 896, 9, 10), (895, 896, 10, 11), (895, 896, 11, 12)]
abbrev Q_rr_rulePhrases (S : sS) (ru : Nat) (ts : Nat) : pst := fun r S1 => HI S1 ∧ FR md_rr_rulePhrases S S1 ∧ (∃ z : Int, r = some (iv z) ∧ (0 ≤ z ∧ z ≤ 1) ∧ (z = 1 → sG S S1) ∧ (z = 1 → KRU S S1 ru) ∧ (z = 1 → Xi S1 246 2 = Xi S 246 2 + 1 ∧ Xi S1 246 5 ≤ Xi S 246 5 + 8) ∧ (z = 1 → RUL1 S1 ru) ∧ (z = 0 → Xi S1 876 8 ≠ 0))
set_option maxRecDepth 100000 in
set_option maxHeartbeats 4000000 in
theorem t_rr_rulePhrases {S : sS} (hH : HI S) (ru : Nat) (ts : Nat) (hts : S.2.2 876 4 = some ts) (htp : tp ts) (hru : S.2.2 899 4 = some (248 + ru)) (hrk : ru < 24) (hL : LEX S) (hT : TOK S) (hS : SRX S) (hx : ts = txr S) (hcr : Xi S 876 6 = Xi S 876 7) (hY : SAY S (Xi S 876 6)) (hdot : Xi S 877 (Xi S 876 6 - 1).toNat = 103) (hd1 : 1 ≤ Xi S 876 6) (hn : Xi S 246 5 + 8 ≤ 600) (hb : RB S ru (Xi S (248 + ru) 7) (Xi S 899 6) 0) (h6 : Xi S (248 + ru) 6 = 0) (hr : (ru : Int) = Xi S 246 2) (d : Nat) : Mt lay0 (d + 6) m_rr_rulePhrases [.ref 899] S (Q_rr_rulePhrases S ru ts) := by
  refine Mt_R rfl rfl ?_
  have hF : FR md_rr_rulePhrases S S := FR.rf
  have w1 : 0 ≤ Xi S 246 2 ∧ Xi S 246 2 ≤ 24 := hH.c _ _
  have w2 : 0 ≤ Xi S 246 5 ∧ Xi S 246 5 ≤ 200000 := hH.c _ _
  have w3 : 0 ≤ Xi S 876 6 ∧ Xi S 876 6 ≤ 5002 := hH.c _ _
  have w4 : 0 ≤ Xi S 876 7 ∧ Xi S 876 7 ≤ 5125 := hH.c _ _
  have w5 : 0 ≤ Xi S 876 8 ∧ Xi S 876 8 ≤ 9 := hH.c _ _
  have w6 : -1 ≤ Xi S 895 4 ∧ Xi S 895 4 ≤ 15 := hH.c _ _
  have w7 : 0 ≤ Xi S 899 6 ∧ Xi S 899 6 ≤ 6 := hH.c _ _
  have C11 : ∀ (n11 : Nat) (T1 : sS) (_ : HI T1) (_ : FR md_rr_rulePhrases S T1) (v1 : Int) (v2 : Int) (v3 : Int), (0 ≤ v1 ∧ v1 ≤ 5132) → (0 ≤ v2 ∧ v2 ≤ 1) → (0 ≤ v3 ∧ v3 ≤ 8) → (sG S T1) → (KRU S T1 ru) → (RB T1 ru (Xi S (248 + ru) 7) (Xi S 899 6) v3) → (Xi T1 (248 + ru) 6 = v3) → (Xi T1 246 5 = Xi S 246 5 + v3) → (Xi T1 246 2 = Xi S 246 2) → (TOK T1) → (Xi S 876 6 ≤ Xi T1 876 7) → (KTK S T1 (Xi S 876 6)) → (v2 = 1 → 0 ≤ v1) → (v2 = 1 → Xi S 876 6 ≤ v1 → Xi T1 876 7 = Xi S 876 6) → n11 = (9 - v3).toNat → Rl lay0 (d + 5) m_rr_rulePhrases 11 [(0, .ref 899), (1, iv v1), (2, iv v2), (3, iv v3)] [] T1 (Q_rr_rulePhrases S ru ts) := by
    intro n11
    induction n11 using Nat.strongRecOn with
    | ind n11 ih11 =>
      intro T1 hHT1 hFT1 v1 v2 v3 w8 w9 w10 hg11 hq11 hb11 w11 w12 w13 hT11 w14 hk11 h1_11 h2_11 hm11
      have w15 : Xi T1 876 6 = Xi S 876 6 := hFT1.x _ _ rfl
      have w16 : Xi T1 895 4 = Xi S 895 4 := hFT1.x _ _ rfl
      have w17 : Xi T1 899 6 = Xi S 899 6 := hFT1.x _ _ rfl
      have w18 : 0 ≤ Xi T1 246 2 ∧ Xi T1 246 2 ≤ 24 := hHT1.c _ _
      have w19 : 0 ≤ Xi T1 246 5 ∧ Xi T1 246 5 ≤ 200000 := hHT1.c _ _
      have w20 : 0 ≤ Xi T1 876 7 ∧ Xi T1 876 7 ≤ 5125 := hHT1.c _ _
      have C124 : ∀  (T2 : sS) (_ : HI T2) (_ : FR md_rr_rulePhrases S T2) (w3 : Int) (v5 : Int) (v7 : Int), (0 ≤ w3 ∧ w3 ≤ 7) → (0 ≤ v5 ∧ v5 ≤ 5125) → (0 ≤ v7 ∧ v7 ≤ 1) → (w3 = v3) → (v3 < 8) → (KCL T1 T2 (Xi T1 246 5).toNat) → (KRU T1 T2 ru) → (FR md_rr_rulePhrases T1 T2) → (v7 = 1 → IGR T1 T2 (0 ≤ Xi S 895 4)) → (v7 = 1 → KTK S T2 (Xi S 876 6)) → (v7 = 1 → TOK T2) → (v7 = 1 → Xi S 876 6 ≤ Xi T2 876 7) → (v7 = 1 → CLok T2 (0 ≤ Xi S 895 4) (Xi T1 246 5).toNat) → (Xi T2 246 5 = Xi T1 246 5 + 1) → (Xi T2 (248 + ru) 1 = Xi T1 (248 + ru) 1 ∧ Xi T2 (248 + ru) 3 = Xi T1 (248 + ru) 3 ∧ Xi T2 (248 + ru) 4 = Xi T1 (248 + ru) 4 ∧ Xi T2 (248 + ru) 5 = Xi T1 (248 + ru) 5 ∧ Xi T2 (248 + ru) 6 = Xi T1 (248 + ru) 6 ∧ Xi T2 (248 + ru) 7 = Xi T1 (248 + ru) 7) → (Xi T2 895 4 = Xi S 895 4) → (Xi T2 246 2 = Xi S 246 2) → (Xi T2 876 6 = Xi S 876 6) → (v7 = 0 → Xi T2 876 8 ≠ 0) → (v1 < Xi S 876 6 → v5 ≤ Xi S 876 6 - 1) → (v7 = 1 → Xi S 876 6 ≤ v1 → Xi T2 876 7 = Xi S 876 6 ∧ Xi S 876 6 ≤ v5) → ((9 - v3).toNat ≤ n11) → Rl lay0 (d + 5) m_rr_rulePhrases 124 [(0, .ref 899), (3, iv w3), (5, iv v5), (7, iv v7)] [] T2 (Q_rr_rulePhrases S ru ts) := by
        intro T2 hHT2 hFT2 w3 v5 v7 w21 w22 w23 w24 w25 hk124 hu124 hf124 hi124 hK124 hT124 hc124 ho124 w26 w27 w28 w29 w30 hz124 hd124 hl124 w31
        have w32 : Xi T2 876 6 = Xi S 876 6 := hFT2.x _ _ rfl
        have w33 : Xi T2 895 4 = Xi S 895 4 := hFT2.x _ _ rfl
        have w34 : Xi T2 899 6 = Xi S 899 6 := hFT2.x _ _ rfl
        have w35 : 0 ≤ Xi T2 246 2 ∧ Xi T2 246 2 ≤ 24 := hHT2.c _ _
        have w36 : 0 ≤ Xi T2 246 5 ∧ Xi T2 246 5 ≤ 200000 := hHT2.c _ _
        have w37 : 0 ≤ Xi T2 876 6 ∧ Xi T2 876 6 ≤ 5002 := hHT2.c _ _
        have w38 : 0 ≤ Xi T2 876 7 ∧ Xi T2 876 7 ≤ 5125 := hHT2.c _ _
        have w39 : 0 ≤ Xi T2 876 8 ∧ Xi T2 876 8 ≤ 9 := hHT2.c _ _
        have w40 : -1 ≤ Xi T2 895 4 ∧ Xi T2 895 4 ≤ 15 := hHT2.c _ _
        refine l_iload rfl rfl ?_
        refine l_if_ne rfl rfl (by unfold rg; omega) (fun w41 => ?_) (fun w42 => ?_)
        · refine l_aload_n rfl rfl ?_
          refine l_gfr rfl rfl rfl rfl rfl ((hFT2 899 4 rfl).2.2.trans hru) ?_
          refine l_bipush rfl rfl ?_
          refine l_iload_n rfl rfl ?_
          refine l_iconst rfl ?_
          refine l_iadd rfl ?_
          refine l_iastore (n := 8) rfl (lay_248 (by omega)) (by omega) (by omega) (by unfold rg; omega) ?_
          obtain ⟨U3, eU3⟩ : ∃ T : sS, T = uI T2 (248 + ru) ((6 : Int).toNat) (Int32.ofInt (w3 + 1)) := ⟨_, rfl⟩
          rw [← eU3]
          have hHU3 : HI U3 := by rw [eU3]; exact HI_w hHT2 (by rw [lh_ru6 (by omega)]; omega) (by rw [lh_ru6 (by omega)]; omega)
          have hFU3 : FR md_rr_rulePhrases S U3 := by rw [eU3]; exact FR.wI hFT2 (mdf_i (r := (248, 272, 0, 100000)) (List.mem_of_getElem? (i := 3) rfl) (inR_i (by omega) (by omega) (by omega) (by omega)))
          have w44 : Xi U3 (248 + ru) ((6 : Int).toNat) = (w3 + 1) := by rw [eU3]; exact Xi_same (by unfold rg; omega)
          have rU3_1 : Xi U3 (248 + ru) 1 = Xi T2 (248 + ru) 1 := by rw [eU3, Xi_ne (by omega)]
          have rU3_3 : Xi U3 (248 + ru) 3 = Xi T2 (248 + ru) 3 := by rw [eU3, Xi_ne (by omega)]
          have rU3_4 : Xi U3 (248 + ru) 4 = Xi T2 (248 + ru) 4 := by rw [eU3, Xi_ne (by omega)]
          have rU3_5 : Xi U3 (248 + ru) 5 = Xi T2 (248 + ru) 5 := by rw [eU3, Xi_ne (by omega)]
          have rU3_6 : Xi U3 (248 + ru) 6 = (w3 + 1) := by rw [eU3]; exact Xi_same (by unfold rg; omega)
          have rU3_7 : Xi U3 (248 + ru) 7 = Xi T2 (248 + ru) 7 := by rw [eU3, Xi_ne (by omega)]
          have i140 : IGR T1 U3 (0 ≤ Xi S 895 4) := igr_w eU3 (by omega) (hi124 (by omega))
          have k140 : KTK S U3 (Xi S 876 6) := fun r hr => by rw [eU3, Xi_ne (by omega)]; exact hK124 (by omega) r hr
          have t140 : TOK U3 := tok_ru eU3 (by omega) (hT124 (by omega))
          have r140 : Xi U3 876 7 = Xi T2 876 7 := by rw [eU3, Xi_ne (by omega)]
          have o140 : CLok U3 (0 ≤ Xi S 895 4) (Xi T1 246 5).toNat := CLok_x (sG_ru hHT2 eU3 hrk) (fun j => by rw [eU3, Xi_ne (by omega)]) (ho124 (by omega))
          have f140 : FR md_rr_rulePhrases T1 U3 := FR.tr hf124 ((show FR md_rr_rulePhrases T2 U3 from by rw [eU3]; exact FR.wI FR.rf (mdf_i (r := (248, 272, 0, 100000)) (List.mem_of_getElem? (i := 3) rfl) (inR_i (by omega) (by omega) (by omega) (by omega)))) : FR md_rr_rulePhrases T2 U3) rfl
          have q140 : KCL T1 U3 (Xi T1 246 5).toNat := kcl_o eU3 (by omega) hk124
          have z140 : Xi S 876 6 ≤ Xi U3 876 7 := by have t := hc124 (by omega); omega
          have m140 : Xi S 876 6 ≤ v1 → Xi U3 876 7 = Xi S 876 6 ∧ Xi S 876 6 ≤ v5 := fun q => by have t := hl124 (by omega) q; exact ⟨by omega, t.2⟩
          clear hc124 hl124 hz124
          refine l_aload_n rfl rfl ?_
          refine l_gfr rfl rfl rfl rfl rfl (hHU3.r 899 0 876 rfl) ?_
          refine l_iload rfl rfl ?_
          have w45 : Xi U3 246 2 = Xi T2 246 2 := (show Xi U3 246 2 = Xi T2 246 2 from by rw [eU3]; exact Xi_ne (by omega))
          have w46 : 0 ≤ Xi T2 246 2 ∧ Xi T2 246 2 ≤ 24 := hHT2.c _ _
          have w47 : Xi U3 246 5 = Xi T2 246 5 := (show Xi U3 246 5 = Xi T2 246 5 from by rw [eU3]; exact Xi_ne (by omega))
          have w48 : 0 ≤ Xi T2 246 5 ∧ Xi T2 246 5 ≤ 200000 := hHT2.c _ _
          have w49 : Xi U3 876 6 = Xi T2 876 6 := (show Xi U3 876 6 = Xi T2 876 6 from by rw [eU3]; exact Xi_ne (by omega))
          have w50 : 0 ≤ Xi T2 876 6 ∧ Xi T2 876 6 ≤ 5002 := hHT2.c _ _
          have w51 : Xi U3 876 7 = Xi T2 876 7 := (show Xi U3 876 7 = Xi T2 876 7 from by rw [eU3]; exact Xi_ne (by omega))
          have w52 : 0 ≤ Xi T2 876 7 ∧ Xi T2 876 7 ≤ 5125 := hHT2.c _ _
          have w53 : Xi U3 895 4 = Xi T2 895 4 := (show Xi U3 895 4 = Xi T2 895 4 from by rw [eU3]; exact Xi_ne (by omega))
          have w54 : -1 ≤ Xi T2 895 4 ∧ Xi T2 895 4 ≤ 15 := hHT2.c _ _
          have w55 : Xi U3 899 6 = Xi T2 899 6 := (show Xi U3 899 6 = Xi T2 899 6 from by rw [eU3]; exact Xi_ne (by omega))
          have w56 : 0 ≤ Xi T2 899 6 ∧ Xi T2 899 6 ≤ 6 := hHT2.c _ _
          refine l_callV rfl rfl rfl (t_to_typeAt hHU3 v5 ⟨by omega, by omega⟩ _) ?_
          rintro _ _ ⟨rfl, z59, rfl, w59, hp147, w57, w58⟩
          clear w57 w58
          show Rl _ _ _ _ _ [iv z59] _ _
          have g147 : Xi U3 877 (Xi S 876 6 - 1).toNat = 103 := by rw [k140 _ (by omega)]; exact hdot
          have n147 : z59 = 105 → v5 + 1 ≤ Xi S 876 6 - 1 := fun q => (Int.lt_or_le v1 (Xi S 876 6)).elim (fun h => by have p := hp147 (by omega); have t := hd124 h; have e : v5 ≠ Xi S 876 6 - 1 := (fun e => by rw [← e] at g147; omega); omega) (fun h => by have p := hp147 (by omega); have t := m140 h; omega)
          clear hp147 hd124 m140
          have G147 : sG T1 U3 := sG_i f140 rfl q140 i140 (by omega) (by omega)
          have B147 : RB U3 ru (Xi S (248 + ru) 7) (Xi S 899 6) (v3 + 1) := RB_p hHT1 hrk G147 (by omega) (by omega) (by omega) (by omega) (by omega) (by omega) (by omega) (by omega) (o140.mono (fun e => by omega)) (by omega) hb11
          refine l_bipush rfl rfl ?_
          refine l_icmp_ne rfl rfl (by unfold rg; omega) (by unfold rg; omega) (fun w60 => ?_) (fun w61 => ?_)
          · refine l_iconst rfl ?_
            refine l_istore_n rfl rfl rfl ?_
            refine l_iload rfl rfl ?_
            refine l_iconst rfl ?_
            refine l_iadd rfl ?_
            refine l_istore_n rfl rfl rfl ?_
            refine l_iinc rfl rfl rfl rfl ?_
            refine l_goto rfl rfl ?_
            have w62 : Xi U3 246 2 = Xi T2 246 2 := (show Xi U3 246 2 = Xi T2 246 2 from by rw [eU3]; exact Xi_ne (by omega))
            have w63 : 0 ≤ Xi T2 246 2 ∧ Xi T2 246 2 ≤ 24 := hHT2.c _ _
            have w64 : Xi U3 246 5 = Xi T2 246 5 := (show Xi U3 246 5 = Xi T2 246 5 from by rw [eU3]; exact Xi_ne (by omega))
            have w65 : 0 ≤ Xi T2 246 5 ∧ Xi T2 246 5 ≤ 200000 := hHT2.c _ _
            have w66 : Xi U3 876 6 = Xi T2 876 6 := (show Xi U3 876 6 = Xi T2 876 6 from by rw [eU3]; exact Xi_ne (by omega))
            have w67 : 0 ≤ Xi T2 876 6 ∧ Xi T2 876 6 ≤ 5002 := hHT2.c _ _
            have w68 : Xi U3 876 7 = Xi T2 876 7 := (show Xi U3 876 7 = Xi T2 876 7 from by rw [eU3]; exact Xi_ne (by omega))
            have w69 : 0 ≤ Xi T2 876 7 ∧ Xi T2 876 7 ≤ 5125 := hHT2.c _ _
            have w70 : Xi U3 895 4 = Xi T2 895 4 := (show Xi U3 895 4 = Xi T2 895 4 from by rw [eU3]; exact Xi_ne (by omega))
            have w71 : -1 ≤ Xi T2 895 4 ∧ Xi T2 895 4 ≤ 15 := hHT2.c _ _
            have w72 : Xi U3 899 6 = Xi T2 899 6 := (show Xi U3 899 6 = Xi T2 899 6 from by rw [eU3]; exact Xi_ne (by omega))
            have w73 : 0 ≤ Xi T2 899 6 ∧ Xi T2 899 6 ≤ 6 := hHT2.c _ _
            exact Rl_weak (ih11 _ (by omega) U3 hHU3 hFU3 ((v5 + 1)) (0) ((w3 + 1)) (⟨by omega, by omega⟩) (⟨by omega, by omega⟩) (⟨by omega, by omega⟩) (by first | exact sG.rf hH | exact sG.tr hg11 G147) (by first | exact KRU.rf | exact kru_tr hq11 (kru_w eU3 hu124)) (by first | exact hb | (rw [show w3 + 1 = v3 + 1 by omega]; exact B147)) (by omega) (by omega) (by omega) (by first | exact hT | exact t140) (by omega) (by first | exact KTK.rf | exact k140) (fun _ => by omega) (by first | exact fun _ _ => hcr.symm | exact fun q => absurd q (by decide) | exact fun _ q => by have t := n147 (by omega); omega) rfl) (And.intro rfl (And.intro rfl (And.intro rfl (And.intro rfl (True.intro)))))
          · refine l_iconst rfl ?_
            refine l_goto rfl rfl ?_
            refine l_istore_n rfl rfl rfl ?_
            refine l_iload rfl rfl ?_
            refine l_iconst rfl ?_
            refine l_iadd rfl ?_
            refine l_istore_n rfl rfl rfl ?_
            refine l_iinc rfl rfl rfl rfl ?_
            refine l_goto rfl rfl ?_
            have w74 : Xi U3 246 2 = Xi T2 246 2 := (show Xi U3 246 2 = Xi T2 246 2 from by rw [eU3]; exact Xi_ne (by omega))
            have w75 : 0 ≤ Xi T2 246 2 ∧ Xi T2 246 2 ≤ 24 := hHT2.c _ _
            have w76 : Xi U3 246 5 = Xi T2 246 5 := (show Xi U3 246 5 = Xi T2 246 5 from by rw [eU3]; exact Xi_ne (by omega))
            have w77 : 0 ≤ Xi T2 246 5 ∧ Xi T2 246 5 ≤ 200000 := hHT2.c _ _
            have w78 : Xi U3 876 6 = Xi T2 876 6 := (show Xi U3 876 6 = Xi T2 876 6 from by rw [eU3]; exact Xi_ne (by omega))
            have w79 : 0 ≤ Xi T2 876 6 ∧ Xi T2 876 6 ≤ 5002 := hHT2.c _ _
            have w80 : Xi U3 876 7 = Xi T2 876 7 := (show Xi U3 876 7 = Xi T2 876 7 from by rw [eU3]; exact Xi_ne (by omega))
            have w81 : 0 ≤ Xi T2 876 7 ∧ Xi T2 876 7 ≤ 5125 := hHT2.c _ _
            have w82 : Xi U3 895 4 = Xi T2 895 4 := (show Xi U3 895 4 = Xi T2 895 4 from by rw [eU3]; exact Xi_ne (by omega))
            have w83 : -1 ≤ Xi T2 895 4 ∧ Xi T2 895 4 ≤ 15 := hHT2.c _ _
            have w84 : Xi U3 899 6 = Xi T2 899 6 := (show Xi U3 899 6 = Xi T2 899 6 from by rw [eU3]; exact Xi_ne (by omega))
            have w85 : 0 ≤ Xi T2 899 6 ∧ Xi T2 899 6 ≤ 6 := hHT2.c _ _
            exact Rl_weak (ih11 _ (by omega) U3 hHU3 hFU3 ((v5 + 1)) (1) ((w3 + 1)) (⟨by omega, by omega⟩) (⟨by omega, by omega⟩) (⟨by omega, by omega⟩) (by first | exact sG.rf hH | exact sG.tr hg11 G147) (by first | exact KRU.rf | exact kru_tr hq11 (kru_w eU3 hu124)) (by first | exact hb | (rw [show w3 + 1 = v3 + 1 by omega]; exact B147)) (by omega) (by omega) (by omega) (by first | exact hT | exact t140) (by omega) (by first | exact KTK.rf | exact k140) (fun _ => by omega) (by first | exact fun _ _ => hcr.symm | exact fun q => absurd q (by decide) | exact fun _ q => by have t := n147 (by omega); omega) rfl) (And.intro rfl (And.intro rfl (And.intro rfl (And.intro rfl (True.intro)))))
        · refine l_iconst rfl ?_
          refine l_ireturn rfl rfl ?_
          have w86 : 0 ≤ Xi T2 246 2 ∧ Xi T2 246 2 ≤ 24 := hHT2.c _ _
          have w87 : 0 ≤ Xi T2 246 5 ∧ Xi T2 246 5 ≤ 200000 := hHT2.c _ _
          have w88 : 0 ≤ Xi T2 876 6 ∧ Xi T2 876 6 ≤ 5002 := hHT2.c _ _
          have w89 : 0 ≤ Xi T2 876 8 ∧ Xi T2 876 8 ≤ 9 := hHT2.c _ _
          have w90 : -1 ≤ Xi T2 895 4 ∧ Xi T2 895 4 ≤ 15 := hHT2.c _ _
          have w91 : 0 ≤ Xi T2 899 6 ∧ Xi T2 899 6 ≤ 6 := hHT2.c _ _
          exact ⟨hHT2, hFT2, _, rfl, ⟨by omega, by omega⟩, (fun q => by first | (exfalso; omega) | exact sG.tr hg11 (sG.tr g181 g192)), (fun q => by first | (exfalso; omega) | exact kru_tr hq11 (kru_o rfl (by omega) (kru_w  KRU.rf))), (fun q => by first | (exfalso; omega) | exact ⟨by omega, by omega⟩), (fun q => by first | (exfalso; omega) | exact RB_e hHT2 hrk (sG.tr g181 g192) (by omega) (by omega) (by omega) (by omega) (by omega) (by omega) (by omega) (by omega) (by omega) (by omega) hb11), (fun q => by first | omega | (exfalso; omega))⟩
      refine l_iload_n rfl rfl ?_
      refine l_if_eq rfl rfl (by unfold rg; omega) (fun w92 => ?_) (fun w93 => ?_)
      · refine l_aload_n rfl rfl ?_
        refine l_gfr rfl rfl rfl rfl rfl ((hFT1 899 4 rfl).2.2.trans hru) ?_
        refine l_iconst rfl ?_
        refine l_aload_n rfl rfl ?_
        refine l_gfi rfl rfl rfl rfl rfl ?_
        refine l_iastore (n := 8) rfl (lay_248 (by omega)) (by omega) (by omega) (by unfold rg; omega) ?_
        obtain ⟨U4, eU4⟩ : ∃ T : sS, T = uI T1 (248 + ru) ((5 : Int).toNat) (Int32.ofInt (Xi T1 899 6)) := ⟨_, rfl⟩
        rw [← eU4]
        have hHU4 : HI U4 := by rw [eU4]; exact HI_w hHT1 (by rw [lh_ru5 (by omega)]; omega) (by rw [lh_ru5 (by omega)]; omega)
        have hFU4 : FR md_rr_rulePhrases S U4 := by rw [eU4]; exact FR.wI hFT1 (mdf_i (r := (248, 272, 0, 100000)) (List.mem_of_getElem? (i := 3) rfl) (inR_i (by omega) (by omega) (by omega) (by omega)))
        have w95 : Xi U4 (248 + ru) ((5 : Int).toNat) = (Xi T1 899 6) := by rw [eU4]; exact Xi_same (by unfold rg; omega)
        have rU4_1 : Xi U4 (248 + ru) 1 = Xi T1 (248 + ru) 1 := by rw [eU4, Xi_ne (by omega)]
        have rU4_3 : Xi U4 (248 + ru) 3 = Xi T1 (248 + ru) 3 := by rw [eU4, Xi_ne (by omega)]
        have rU4_4 : Xi U4 (248 + ru) 4 = Xi T1 (248 + ru) 4 := by rw [eU4, Xi_ne (by omega)]
        have rU4_5 : Xi U4 (248 + ru) 5 = (Xi T1 899 6) := by rw [eU4]; exact Xi_same (by unfold rg; omega)
        have rU4_6 : Xi U4 (248 + ru) 6 = Xi T1 (248 + ru) 6 := by rw [eU4, Xi_ne (by omega)]
        have rU4_7 : Xi U4 (248 + ru) 7 = Xi T1 (248 + ru) 7 := by rw [eU4, Xi_ne (by omega)]
        have g181 : sG T1 U4 := sG_ru hHT1 eU4 hrk
        refine l_aload_n rfl rfl ?_
        refine l_gfr rfl rfl rfl rfl rfl (hHU4.r 899 3 246 rfl) ?_
        refine l_dup rfl rfl ?_
        refine l_gfi rfl rfl rfl rfl rfl ?_
        have w96 : (Xi U4 246 2) = (Xi T1 246 2) := (show Xi U4 246 2 = Xi T1 246 2 from by rw [eU4]; exact Xi_ne (by omega))
        rw [w96]
        refine l_iconst rfl ?_
        refine l_iadd rfl ?_
        refine l_pfi rfl rfl rfl rfl ?_
        obtain ⟨U5, eU5⟩ : ∃ T : sS, T = uI U4 246 2 (Int32.ofInt ((Xi T1 246 2) + 1)) := ⟨_, rfl⟩
        rw [← eU5]
        have hHU5 : HI U5 := by rw [eU5]; exact HI_w hHU4 (show 0 ≤ ((Xi T1 246 2) + 1) by omega) (show ((Xi T1 246 2) + 1) ≤ 24 by omega)
        have hFU5 : FR md_rr_rulePhrases S U5 := by rw [eU5]; exact FR.wI hFU4 (mdf_i (r := (246, 247, 2, 3)) (List.mem_of_getElem? (i := 0) rfl) (inR_i (by omega) (by omega) (by omega) (by omega)))
        have w97 : Xi U5 246 2 = ((Xi T1 246 2) + 1) := by rw [eU5]; exact Xi_same (by unfold rg; omega)
        have rU5_1 : Xi U5 (248 + ru) 1 = Xi U4 (248 + ru) 1 := by rw [eU5, Xi_ne (by omega)]
        have rU5_3 : Xi U5 (248 + ru) 3 = Xi U4 (248 + ru) 3 := by rw [eU5, Xi_ne (by omega)]
        have rU5_4 : Xi U5 (248 + ru) 4 = Xi U4 (248 + ru) 4 := by rw [eU5, Xi_ne (by omega)]
        have rU5_5 : Xi U5 (248 + ru) 5 = Xi U4 (248 + ru) 5 := by rw [eU5, Xi_ne (by omega)]
        have rU5_6 : Xi U5 (248 + ru) 6 = Xi U4 (248 + ru) 6 := by rw [eU5, Xi_ne (by omega)]
        have rU5_7 : Xi U5 (248 + ru) 7 = Xi U4 (248 + ru) 7 := by rw [eU5, Xi_ne (by omega)]
        have g192 : sG U4 U5 := FR_sG hHU4 (FR_e eU5) rfl (by rw [((FR_e eU5).x 5 3 rfl)]; exact Int.le_refl _) (by rw [((FR_e eU5).x 5 8 rfl)]; exact Int.le_refl _)
        refine l_iconst rfl ?_
        refine l_ireturn rfl rfl ?_
        have w98 : 0 ≤ Xi U5 246 2 ∧ Xi U5 246 2 ≤ 24 := hHU5.c _ _
        have w99 : Xi U5 246 5 = Xi T1 246 5 := (show Xi U5 246 5 = Xi U4 246 5 from by rw [eU5]; exact Xi_ne (by omega)).trans ((show Xi U4 246 5 = Xi T1 246 5 from by rw [eU4]; exact Xi_ne (by omega)))
        have w100 : 0 ≤ Xi T1 246 5 ∧ Xi T1 246 5 ≤ 200000 := hHT1.c _ _
        have w101 : Xi U5 876 6 = Xi T1 876 6 := (show Xi U5 876 6 = Xi U4 876 6 from by rw [eU5]; exact Xi_ne (by omega)).trans ((show Xi U4 876 6 = Xi T1 876 6 from by rw [eU4]; exact Xi_ne (by omega)))
        have w102 : 0 ≤ Xi T1 876 6 ∧ Xi T1 876 6 ≤ 5002 := hHT1.c _ _
        have w103 : Xi U5 876 8 = Xi T1 876 8 := (show Xi U5 876 8 = Xi U4 876 8 from by rw [eU5]; exact Xi_ne (by omega)).trans ((show Xi U4 876 8 = Xi T1 876 8 from by rw [eU4]; exact Xi_ne (by omega)))
        have w104 : 0 ≤ Xi T1 876 8 ∧ Xi T1 876 8 ≤ 9 := hHT1.c _ _
        have w105 : Xi U5 895 4 = Xi T1 895 4 := (show Xi U5 895 4 = Xi U4 895 4 from by rw [eU5]; exact Xi_ne (by omega)).trans ((show Xi U4 895 4 = Xi T1 895 4 from by rw [eU4]; exact Xi_ne (by omega)))
        have w106 : -1 ≤ Xi T1 895 4 ∧ Xi T1 895 4 ≤ 15 := hHT1.c _ _
        have w107 : Xi U5 899 6 = Xi T1 899 6 := (show Xi U5 899 6 = Xi U4 899 6 from by rw [eU5]; exact Xi_ne (by omega)).trans ((show Xi U4 899 6 = Xi T1 899 6 from by rw [eU4]; exact Xi_ne (by omega)))
        have w108 : 0 ≤ Xi T1 899 6 ∧ Xi T1 899 6 ≤ 6 := hHT1.c _ _
        exact ⟨hHU5, hFU5, _, rfl, ⟨by omega, by omega⟩, (fun q => by first | (exfalso; omega) | exact sG.tr hg11 (sG.tr g181 g192)), (fun q => by first | (exfalso; omega) | exact kru_tr hq11 (kru_o eU5 (by omega) (kru_w eU4 KRU.rf))), (fun q => by first | (exfalso; omega) | exact ⟨by omega, by omega⟩), (fun q => by first | (exfalso; omega) | exact RB_e hHT1 hrk (sG.tr g181 g192) (by omega) (by omega) (by omega) (by omega) (by omega) (by omega) (by omega) (by omega) (by omega) (by omega) hb11), (fun q => by first | omega | (exfalso; omega))⟩
      · refine l_iload_n rfl rfl ?_
        have a15 : 0 ≤ v1 := h1_11 (by omega)
        have b15 : Xi S 876 6 ≤ v1 → Xi T1 876 7 = Xi S 876 6 := h2_11 (by omega)
        clear h1_11 h2_11
        refine l_bipush rfl rfl ?_
        refine l_icmp_ne rfl rfl (by unfold rg; omega) (by unfold rg; omega) (fun w109 => ?_) (fun w110 => ?_)
        · refine l_aload_n rfl rfl ?_
          refine l_gfr rfl rfl rfl rfl rfl (hHT1.r 899 0 876 rfl) ?_
          refine l_iload_n rfl rfl ?_
          have w111 : 0 ≤ Xi T1 246 2 ∧ Xi T1 246 2 ≤ 24 := hHT1.c _ _
          have w112 : 0 ≤ Xi T1 246 5 ∧ Xi T1 246 5 ≤ 200000 := hHT1.c _ _
          have w113 : 0 ≤ Xi T1 876 6 ∧ Xi T1 876 6 ≤ 5002 := hHT1.c _ _
          have w114 : 0 ≤ Xi T1 876 7 ∧ Xi T1 876 7 ≤ 5125 := hHT1.c _ _
          have w115 : -1 ≤ Xi T1 895 4 ∧ Xi T1 895 4 ≤ 15 := hHT1.c _ _
          have w116 : 0 ≤ Xi T1 899 6 ∧ Xi T1 899 6 ≤ 6 := hHT1.c _ _
          refine l_callV rfl rfl rfl (t_to_typeAt hHT1 v1 ⟨by omega, by omega⟩ _) ?_
          rintro _ _ ⟨rfl, z119, rfl, w119, hp37, w117, w118⟩
          clear w117 w118
          show Rl _ _ _ _ _ [iv z119] _ _
          have l37 : z119 ≠ 107 → v1 < Xi T1 876 7 := fun q => (hp37 q).2.1
          have s37 : z119 = 43 → v1 + 1 < Xi S 876 6 ∧ Xi T1 877 (v1 + 1).toNat = 102 := fun q => say_at (say_k hY hk11) a15 ((Int.lt_or_le v1 (Xi S 876 6)).elim (fun h => h) (fun h => by have t := l37 (by omega); have := b15 h; omega)) (x := z119) (hp37 (by omega)).2.2 q
          clear hp37
          refine l_istore rfl rfl rfl ?_
          refine l_aload_n rfl rfl ?_
          refine l_gfr rfl rfl rfl rfl rfl (hHT1.r 899 0 876 rfl) ?_
          refine l_iload_n rfl rfl ?_
          refine l_iconst rfl ?_
          have w120 : 0 ≤ Xi T1 246 2 ∧ Xi T1 246 2 ≤ 24 := hHT1.c _ _
          have w121 : 0 ≤ Xi T1 246 5 ∧ Xi T1 246 5 ≤ 200000 := hHT1.c _ _
          have w122 : 0 ≤ Xi T1 876 6 ∧ Xi T1 876 6 ≤ 5002 := hHT1.c _ _
          have w123 : 0 ≤ Xi T1 876 7 ∧ Xi T1 876 7 ≤ 5125 := hHT1.c _ _
          have w124 : -1 ≤ Xi T1 895 4 ∧ Xi T1 895 4 ≤ 15 := hHT1.c _ _
          have w125 : 0 ≤ Xi T1 899 6 ∧ Xi T1 899 6 ≤ 6 := hHT1.c _ _
          refine l_callV rfl rfl rfl (t_to_testEnd__2 hHT1 v1 1 ⟨by omega, by omega⟩ ⟨by omega, by omega⟩ _) ?_
          rintro _ _ ⟨rfl, z126, rfl, w126, hp48, hq48, he48, hd48⟩
          show Rl _ _ _ _ _ [iv z126] _ _
          have g48 : Xi T1 877 (Xi S 876 6 - 1).toNat = 103 := by rw [hk11 _ (by omega)]; exact hdot
          have d48 : v1 < Xi S 876 6 → z126 ≤ Xi S 876 6 - 1 := fun q => by have t := hd48 (Xi S 876 6 - 1).toNat (by omega) (by omega) g48; omega
          have c48 : Xi S 876 6 ≤ v1 → Xi S 876 6 ≤ z126 := fun q => by have t := b15 q; omega
          clear hp48 hq48 hd48
          refine l_istore rfl rfl rfl ?_
          refine l_aload_n rfl rfl ?_
          refine l_gfr rfl rfl rfl rfl rfl (hHT1.r 899 3 246 rfl) ?_
          refine l_bipush rfl rfl ?_
          have w127 : 0 ≤ Xi T1 246 2 ∧ Xi T1 246 2 ≤ 24 := hHT1.c _ _
          have w128 : 0 ≤ Xi T1 246 5 ∧ Xi T1 246 5 ≤ 200000 := hHT1.c _ _
          have w129 : 0 ≤ Xi T1 876 6 ∧ Xi T1 876 6 ≤ 5002 := hHT1.c _ _
          have w130 : -1 ≤ Xi T1 895 4 ∧ Xi T1 895 4 ≤ 15 := hHT1.c _ _
          have w131 : 0 ≤ Xi T1 899 6 ∧ Xi T1 899 6 ≤ 6 := hHT1.c _ _
          refine l_callV rfl rfl rfl (t_bo_nextClause__2 hHT1 11 ⟨by omega, by omega⟩ (by first | assumption | omega) _) ?_
          rintro _ T6 ⟨hHT6, w137, z136, rfl, w136, w132, w133, w134, w135⟩
          have hFT6 : FR md_rr_rulePhrases S T6 := FR.tr hFT1 w137 rfl
          show Rl _ _ _ _ _ [.ref (276 + z136)] _ _
          have rT6_1 : Xi T6 (248 + ru) 1 = Xi T1 (248 + ru) 1 := FR_ru w137 rfl (by omega)
          have rT6_3 : Xi T6 (248 + ru) 3 = Xi T1 (248 + ru) 3 := FR_ru w137 rfl (by omega)
          have rT6_4 : Xi T6 (248 + ru) 4 = Xi T1 (248 + ru) 4 := FR_ru w137 rfl (by omega)
          have rT6_5 : Xi T6 (248 + ru) 5 = Xi T1 (248 + ru) 5 := FR_ru w137 rfl (by omega)
          have rT6_6 : Xi T6 (248 + ru) 6 = Xi T1 (248 + ru) 6 := FR_ru w137 rfl (by omega)
          have rT6_7 : Xi T6 (248 + ru) 7 = Xi T1 (248 + ru) 7 := FR_ru w137 rfl (by omega)
          have i59 : IGR T1 T6 (0 ≤ Xi S 895 4) := igr_f (by assumption : FR md_bo_nextClause__2 T1 T6) rfl (IGR.rf hHT1)
          have k59 : KTK S T6 (Xi S 876 6) := ktk_f (by assumption : FR md_bo_nextClause__2 T1 T6) rfl hk11
          have t59 : TOK T6 := TOK_FR (by assumption : FR md_bo_nextClause__2 T1 T6) rfl rfl rfl hT11
          have x59 : Xi T6 876 7 = Xi T1 876 7 := (by assumption : FR md_bo_nextClause__2 T1 T6).x 876 7 rfl
          have y59 : Xi T6 876 6 = Xi T1 876 6 := (by assumption : FR md_bo_nextClause__2 T1 T6).x 876 6 rfl
          have s59 : z119 = 43 → v1 + 1 < Xi S 876 6 ∧ Xi T6 877 (v1 + 1).toNat = 102 := fun q => ⟨(s37 q).1, by rw [((by assumption : FR md_bo_nextClause__2 T1 T6).cx 877 rfl _).1]; exact (s37 q).2⟩
          clear s37
          refine l_astore rfl rfl rfl ?_
          refine l_iload rfl rfl ?_
          refine l_bipush rfl rfl ?_
          refine l_icmp_ne rfl rfl (by unfold rg; omega) (by unfold rg; omega) (fun w138 => ?_) (fun w139 => ?_)
          · refine l_iload rfl rfl ?_
            refine l_bipush rfl rfl ?_
            refine l_icmp_ne rfl rfl (by unfold rg; omega) (by unfold rg; omega) (fun w140 => ?_) (fun w141 => ?_)
            · refine l_aload_n rfl rfl ?_
              refine l_iload rfl rfl ?_
              refine l_iload_n rfl rfl ?_
              refine l_iconst rfl ?_
              refine l_iadd rfl ?_
              refine l_iload rfl rfl ?_
              refine l_aload rfl rfl ?_
              have w142 : Xi T6 246 2 = Xi T1 246 2 := (show Xi T6 246 2 = Xi T1 246 2 from w137.x _ _ rfl)
              have w143 : 0 ≤ Xi T1 246 2 ∧ Xi T1 246 2 ≤ 24 := hHT1.c _ _
              have w144 : 0 ≤ Xi T6 246 5 ∧ Xi T6 246 5 ≤ 200000 := hHT6.c _ _
              have w145 : Xi T6 876 6 = Xi T1 876 6 := (show Xi T6 876 6 = Xi T1 876 6 from w137.x _ _ rfl)
              have w146 : 0 ≤ Xi T1 876 6 ∧ Xi T1 876 6 ≤ 5002 := hHT1.c _ _
              have w147 : Xi T6 895 4 = Xi T1 895 4 := (show Xi T6 895 4 = Xi T1 895 4 from w137.x _ _ rfl)
              have w148 : -1 ≤ Xi T1 895 4 ∧ Xi T1 895 4 ≤ 15 := hHT1.c _ _
              have w149 : Xi T6 899 6 = Xi T1 899 6 := (show Xi T6 899 6 = Xi T1 899 6 from w137.x _ _ rfl)
              have w150 : 0 ≤ Xi T1 899 6 ∧ Xi T1 899 6 ≤ 6 := hHT1.c _ _
              refine l_callV rfl rfl rfl (t_rr_otherPhrase hHT6 z119 (v1 + 1) z126 z136 ⟨by omega, by omega⟩ ⟨by omega, by omega⟩ ⟨by omega, by omega⟩ (by omega) (by first | assumption | exact (LEX_FR hFT6 rfl rfl (by assumption : LEX S))) (fun q => ⟨by have t := l37 (by omega); omega, by omega⟩) (by omega) _) ?_
              rintro _ T7 ⟨hHT7, w154, z153, rfl, w153, w151, w152, hz77⟩
              have hFT7 : FR md_rr_rulePhrases S T7 := FR.tr hFT6 w154 rfl
              show Rl _ _ _ _ _ [iv z153] _ _
              have rT7_1 : Xi T7 (248 + ru) 1 = Xi T6 (248 + ru) 1 := FR_ru w154 rfl (by omega)
              have rT7_3 : Xi T7 (248 + ru) 3 = Xi T6 (248 + ru) 3 := FR_ru w154 rfl (by omega)
              have rT7_4 : Xi T7 (248 + ru) 4 = Xi T6 (248 + ru) 4 := FR_ru w154 rfl (by omega)
              have rT7_5 : Xi T7 (248 + ru) 5 = Xi T6 (248 + ru) 5 := FR_ru w154 rfl (by omega)
              have rT7_6 : Xi T7 (248 + ru) 6 = Xi T6 (248 + ru) 6 := FR_ru w154 rfl (by omega)
              have rT7_7 : Xi T7 (248 + ru) 7 = Xi T6 (248 + ru) 7 := FR_ru w154 rfl (by omega)
              have o77 : z153 = 1 → CLok T7 (0 ≤ Xi S 895 4) _ := fun q => ((by assumption : z153 = 1 → CLok T7 (0 ≤ Xi T6 895 4) _) q).mono (fun e => by omega)
              have i77 : z153 = 1 → IGR T1 T7 (0 ≤ Xi S 895 4) := fun q => igr_f (by assumption : FR md_rr_otherPhrase T6 T7) rfl i59
              have k77 : z153 = 1 → KTK S T7 (Xi S 876 6) := fun q => ktk_f (by assumption : FR md_rr_otherPhrase T6 T7) rfl k59
              have t77 : z153 = 1 → TOK T7 := fun _ => TOK_FR (by assumption : FR md_rr_otherPhrase T6 T7) rfl rfl rfl t59
              have r77 : Xi T7 876 7 = Xi T6 876 7 := (by assumption : FR md_rr_otherPhrase T6 T7).x 876 7 rfl
              have c77 : z153 = 1 → Xi S 876 6 ≤ Xi T7 876 7 := fun _ => by omega
              have l77 : z153 = 1 → Xi S 876 6 ≤ v1 → Xi T7 876 7 = Xi S 876 6 ∧ Xi S 876 6 ≤ z126 := fun _ q => ⟨by rw [r77, x59]; exact b15 q, c48 q⟩
              refine l_istore rfl rfl rfl ?_
              have w155 : Xi T7 246 2 = Xi T1 246 2 := (show Xi T7 246 2 = Xi T6 246 2 from w154.x _ _ rfl).trans ((show Xi T6 246 2 = Xi T1 246 2 from w137.x _ _ rfl))
              have w156 : 0 ≤ Xi T1 246 2 ∧ Xi T1 246 2 ≤ 24 := hHT1.c _ _
              have w157 : Xi T7 246 5 = Xi T6 246 5 := (show Xi T7 246 5 = Xi T6 246 5 from w154.x _ _ rfl)
              have w158 : 0 ≤ Xi T6 246 5 ∧ Xi T6 246 5 ≤ 200000 := hHT6.c _ _
              have w159 : Xi T7 876 6 = Xi T1 876 6 := (show Xi T7 876 6 = Xi T6 876 6 from w154.x _ _ rfl).trans ((show Xi T6 876 6 = Xi T1 876 6 from w137.x _ _ rfl))
              have w160 : 0 ≤ Xi T1 876 6 ∧ Xi T1 876 6 ≤ 5002 := hHT1.c _ _
              have w161 : Xi T7 876 7 = Xi T1 876 7 := (show Xi T7 876 7 = Xi T6 876 7 from w154.x _ _ rfl).trans ((show Xi T6 876 7 = Xi T1 876 7 from w137.x _ _ rfl))
              have w162 : 0 ≤ Xi T1 876 7 ∧ Xi T1 876 7 ≤ 5125 := hHT1.c _ _
              have w163 : 0 ≤ Xi T7 876 8 ∧ Xi T7 876 8 ≤ 9 := hHT7.c _ _
              have w164 : Xi T7 895 4 = Xi T1 895 4 := (show Xi T7 895 4 = Xi T6 895 4 from w154.x _ _ rfl).trans ((show Xi T6 895 4 = Xi T1 895 4 from w137.x _ _ rfl))
              have w165 : -1 ≤ Xi T1 895 4 ∧ Xi T1 895 4 ≤ 15 := hHT1.c _ _
              have w166 : Xi T7 899 6 = Xi T1 899 6 := (show Xi T7 899 6 = Xi T6 899 6 from w154.x _ _ rfl).trans ((show Xi T6 899 6 = Xi T1 899 6 from w137.x _ _ rfl))
              have w167 : 0 ≤ Xi T1 899 6 ∧ Xi T1 899 6 ≤ 6 := hHT1.c _ _
              exact Rl_weak (C124 T7 hHT7 hFT7 (v3) (z126) (z153) (⟨by omega, by omega⟩) (⟨by omega, by omega⟩) (⟨by omega, by omega⟩) (by omega) (by omega) (by rw [show (Xi T1 246 5).toNat = (z136) by omega]; exact (kcl_tr (kcl_tr KCL.rf (by assumption : KCL T1 T6 _)) (by assumption : KCL T6 T7 _))) ((kru_f w154 rfl (kru_f w137 rfl KRU.rf))) (((FR.tr (FR.tr FR.rf w137 rfl) w154 rfl) : FR md_rr_rulePhrases T1 T7)) (i77) (k77) (t77) (c77) (by rw [show (Xi T1 246 5).toNat = (z136) by omega]; exact o77) (by omega) (⟨by omega, by omega, by omega, by omega, by omega, by omega⟩) (by omega) (by omega) (by omega) (hz77) (d48) (l77) (by omega)) (And.intro rfl (And.intro rfl (And.intro rfl (And.intro rfl (True.intro)))))
            · refine l_aload_n rfl rfl ?_
              refine l_iload_n rfl rfl ?_
              refine l_iconst rfl ?_
              refine l_iadd rfl ?_
              refine l_iload rfl rfl ?_
              refine l_aload rfl rfl ?_
              refine l_iconst rfl ?_
              have w168 : Xi T6 246 2 = Xi T1 246 2 := (show Xi T6 246 2 = Xi T1 246 2 from w137.x _ _ rfl)
              have w169 : 0 ≤ Xi T1 246 2 ∧ Xi T1 246 2 ≤ 24 := hHT1.c _ _
              have w170 : 0 ≤ Xi T6 246 5 ∧ Xi T6 246 5 ≤ 200000 := hHT6.c _ _
              have w171 : Xi T6 876 6 = Xi T1 876 6 := (show Xi T6 876 6 = Xi T1 876 6 from w137.x _ _ rfl)
              have w172 : 0 ≤ Xi T1 876 6 ∧ Xi T1 876 6 ≤ 5002 := hHT1.c _ _
              have w173 : Xi T6 895 4 = Xi T1 895 4 := (show Xi T6 895 4 = Xi T1 895 4 from w137.x _ _ rfl)
              have w174 : -1 ≤ Xi T1 895 4 ∧ Xi T1 895 4 ≤ 15 := hHT1.c _ _
              have w175 : Xi T6 899 6 = Xi T1 899 6 := (show Xi T6 899 6 = Xi T1 899 6 from w137.x _ _ rfl)
              have w176 : 0 ≤ Xi T1 899 6 ∧ Xi T1 899 6 ≤ 6 := hHT1.c _ _
              refine l_callV rfl rfl rfl (t_rr_test hHT6 (v1 + 1) z126 z136 1 ⟨by omega, by omega⟩ ⟨by omega, by omega⟩ (by omega) ⟨by omega, by omega⟩ (by first | assumption | exact (LEX_FR hFT6 rfl rfl (by assumption : LEX S))) (t59) (by first | assumption | exact (SRX_FR hFT6 rfl (by assumption : SRX S))) (by omega) _) ?_
              rintro _ T8 ⟨hHT8, w180, z179, rfl, w179, w177, w178, hz77⟩
              have hFT8 : FR md_rr_rulePhrases S T8 := FR.tr hFT6 w180 rfl
              show Rl _ _ _ _ _ [iv z179] _ _
              have rT8_1 : Xi T8 (248 + ru) 1 = Xi T6 (248 + ru) 1 := FR_ru w180 rfl (by omega)
              have rT8_3 : Xi T8 (248 + ru) 3 = Xi T6 (248 + ru) 3 := FR_ru w180 rfl (by omega)
              have rT8_4 : Xi T8 (248 + ru) 4 = Xi T6 (248 + ru) 4 := FR_ru w180 rfl (by omega)
              have rT8_5 : Xi T8 (248 + ru) 5 = Xi T6 (248 + ru) 5 := FR_ru w180 rfl (by omega)
              have rT8_6 : Xi T8 (248 + ru) 6 = Xi T6 (248 + ru) 6 := FR_ru w180 rfl (by omega)
              have rT8_7 : Xi T8 (248 + ru) 7 = Xi T6 (248 + ru) 7 := FR_ru w180 rfl (by omega)
              have o77 : z179 = 1 → CLok T8 (0 ≤ Xi S 895 4) _ := fun q => ((by assumption : z179 = 1 → TSok T8 (0 ≤ Xi T6 895 4) _) q).1.mono (fun e => by omega)
              have i77 : z179 = 1 → IGR T1 T8 (0 ≤ Xi S 895 4) := fun q => igr_f (by assumption : FR md_rr_test T6 T8) rfl i59
              have k77 : z179 = 1 → KTK S T8 (Xi S 876 6) := fun q => ktk_f (by assumption : FR md_rr_test T6 T8) rfl k59
              have t77 : z179 = 1 → TOK T8 := fun _ => TOK_FR (by assumption : FR md_rr_test T6 T8) rfl rfl rfl t59
              have r77 : Xi T8 876 7 = Xi T6 876 7 := (by assumption : FR md_rr_test T6 T8).x 876 7 rfl
              have c77 : z179 = 1 → Xi S 876 6 ≤ Xi T8 876 7 := fun _ => by omega
              have l77 : z179 = 1 → Xi S 876 6 ≤ v1 → Xi T8 876 7 = Xi S 876 6 ∧ Xi S 876 6 ≤ z126 := fun _ q => ⟨by rw [r77, x59]; exact b15 q, c48 q⟩
              refine l_istore rfl rfl rfl ?_
              refine l_goto rfl rfl ?_
              have w181 : Xi T8 246 2 = Xi T1 246 2 := (show Xi T8 246 2 = Xi T6 246 2 from w180.x _ _ rfl).trans ((show Xi T6 246 2 = Xi T1 246 2 from w137.x _ _ rfl))
              have w182 : 0 ≤ Xi T1 246 2 ∧ Xi T1 246 2 ≤ 24 := hHT1.c _ _
              have w183 : Xi T8 246 5 = Xi T6 246 5 := (show Xi T8 246 5 = Xi T6 246 5 from w180.x _ _ rfl)
              have w184 : 0 ≤ Xi T6 246 5 ∧ Xi T6 246 5 ≤ 200000 := hHT6.c _ _
              have w185 : Xi T8 876 6 = Xi T1 876 6 := (show Xi T8 876 6 = Xi T6 876 6 from w180.x _ _ rfl).trans ((show Xi T6 876 6 = Xi T1 876 6 from w137.x _ _ rfl))
              have w186 : 0 ≤ Xi T1 876 6 ∧ Xi T1 876 6 ≤ 5002 := hHT1.c _ _
              have w187 : Xi T8 876 7 = Xi T1 876 7 := (show Xi T8 876 7 = Xi T6 876 7 from w180.x _ _ rfl).trans ((show Xi T6 876 7 = Xi T1 876 7 from w137.x _ _ rfl))
              have w188 : 0 ≤ Xi T1 876 7 ∧ Xi T1 876 7 ≤ 5125 := hHT1.c _ _
              have w189 : 0 ≤ Xi T8 876 8 ∧ Xi T8 876 8 ≤ 9 := hHT8.c _ _
              have w190 : Xi T8 895 4 = Xi T1 895 4 := (show Xi T8 895 4 = Xi T6 895 4 from w180.x _ _ rfl).trans ((show Xi T6 895 4 = Xi T1 895 4 from w137.x _ _ rfl))
              have w191 : -1 ≤ Xi T1 895 4 ∧ Xi T1 895 4 ≤ 15 := hHT1.c _ _
              have w192 : Xi T8 899 6 = Xi T1 899 6 := (show Xi T8 899 6 = Xi T6 899 6 from w180.x _ _ rfl).trans ((show Xi T6 899 6 = Xi T1 899 6 from w137.x _ _ rfl))
              have w193 : 0 ≤ Xi T1 899 6 ∧ Xi T1 899 6 ≤ 6 := hHT1.c _ _
              exact Rl_weak (C124 T8 hHT8 hFT8 (v3) (z126) (z179) (⟨by omega, by omega⟩) (⟨by omega, by omega⟩) (⟨by omega, by omega⟩) (by omega) (by omega) (by rw [show (Xi T1 246 5).toNat = (z136) by omega]; exact (kcl_tr (kcl_tr KCL.rf (by assumption : KCL T1 T6 _)) (by assumption : KCL T6 T8 _))) ((kru_f w180 rfl (kru_f w137 rfl KRU.rf))) (((FR.tr (FR.tr FR.rf w137 rfl) w180 rfl) : FR md_rr_rulePhrases T1 T8)) (i77) (k77) (t77) (c77) (by rw [show (Xi T1 246 5).toNat = (z136) by omega]; exact o77) (by omega) (⟨by omega, by omega, by omega, by omega, by omega, by omega⟩) (by omega) (by omega) (by omega) (hz77) (d48) (l77) (by omega)) (And.intro rfl (And.intro rfl (And.intro rfl (And.intro rfl (True.intro)))))
          · refine l_aload_n rfl rfl ?_
            refine l_iload_n rfl rfl ?_
            refine l_iconst rfl ?_
            refine l_iadd rfl ?_
            refine l_aload rfl rfl ?_
            have w194 : Xi T6 246 2 = Xi T1 246 2 := (show Xi T6 246 2 = Xi T1 246 2 from w137.x _ _ rfl)
            have w195 : 0 ≤ Xi T1 246 2 ∧ Xi T1 246 2 ≤ 24 := hHT1.c _ _
            have w196 : 0 ≤ Xi T6 246 5 ∧ Xi T6 246 5 ≤ 200000 := hHT6.c _ _
            have w197 : Xi T6 876 6 = Xi T1 876 6 := (show Xi T6 876 6 = Xi T1 876 6 from w137.x _ _ rfl)
            have w198 : 0 ≤ Xi T1 876 6 ∧ Xi T1 876 6 ≤ 5002 := hHT1.c _ _
            have w199 : Xi T6 876 7 = Xi T1 876 7 := (show Xi T6 876 7 = Xi T1 876 7 from w137.x _ _ rfl)
            have w200 : 0 ≤ Xi T1 876 7 ∧ Xi T1 876 7 ≤ 5125 := hHT1.c _ _
            have w201 : Xi T6 895 4 = Xi T1 895 4 := (show Xi T6 895 4 = Xi T1 895 4 from w137.x _ _ rfl)
            have w202 : -1 ≤ Xi T1 895 4 ∧ Xi T1 895 4 ≤ 15 := hHT1.c _ _
            have w203 : Xi T6 899 6 = Xi T1 899 6 := (show Xi T6 899 6 = Xi T1 899 6 from w137.x _ _ rfl)
            have w204 : 0 ≤ Xi T1 899 6 ∧ Xi T1 899 6 ≤ 6 := hHT1.c _ _
            refine l_callV rfl rfl rfl (t_rr_sayText hHT6 ts (v1 + 1) z136 ⟨by omega, by omega⟩ (by omega) ((hFT6 876 4 rfl).2.2.trans hts) htp (by first | assumption | exact (LEX_FR hFT6 rfl rfl (by assumption : LEX S))) (t59) (by first | assumption | exact (SRX_FR hFT6 rfl (by assumption : SRX S))) (hx.trans (by unfold txr; rw [(hFT6 20 1 rfl).2.2])) (by omega) (⟨by have t := (s59 (by omega)).1; omega, (s59 (by omega)).2⟩) _) ?_
            rintro _ T9 ⟨hHT9, w211, z210, rfl, w210, w205, w206, w207, w208, w209, hc77, hz77⟩
            have hFT9 : FR md_rr_rulePhrases S T9 := FR.tr hFT6 w211 rfl
            show Rl _ _ _ _ _ [iv z210] _ _
            have rT9_1 : Xi T9 (248 + ru) 1 = Xi T6 (248 + ru) 1 := FR_ru w211 rfl (by omega)
            have rT9_3 : Xi T9 (248 + ru) 3 = Xi T6 (248 + ru) 3 := FR_ru w211 rfl (by omega)
            have rT9_4 : Xi T9 (248 + ru) 4 = Xi T6 (248 + ru) 4 := FR_ru w211 rfl (by omega)
            have rT9_5 : Xi T9 (248 + ru) 5 = Xi T6 (248 + ru) 5 := FR_ru w211 rfl (by omega)
            have rT9_6 : Xi T9 (248 + ru) 6 = Xi T6 (248 + ru) 6 := FR_ru w211 rfl (by omega)
            have rT9_7 : Xi T9 (248 + ru) 7 = Xi T6 (248 + ru) 7 := FR_ru w211 rfl (by omega)
            have o77 : z210 = 1 → CLok T9 (0 ≤ Xi S 895 4) _ := fun q => ((by assumption : z210 = 1 → CLok T9 (0 ≤ Xi T6 895 4) _) q).mono (fun e => by omega)
            have i77 : z210 = 1 → IGR T1 T9 (0 ≤ Xi S 895 4) := fun q => IGR.tr i59 ((by assumption : z210 = 1 → IGR T6 T9 (0 ≤ Xi T6 895 4)) q) (fun e => by omega)
            have k77 : z210 = 1 → KTK S T9 (Xi S 876 6) := fun q => ktk_tr k59 ((by assumption : z210 = 1 → KTK T6 T9 (Xi T6 876 6)) q) (by omega)
            have t77 : z210 = 1 → TOK T9 := by assumption
            have c77 : z210 = 1 → Xi S 876 6 ≤ Xi T9 876 7 := fun q => by have t := hc77 q; omega
            have d77 : v1 < Xi S 876 6 := by have t := (s59 (by omega)).1; omega
            have l77 : z210 = 1 → Xi S 876 6 ≤ v1 → Xi T9 876 7 = Xi S 876 6 ∧ Xi S 876 6 ≤ z126 := fun _ q => absurd q (by omega)
            clear hc77
            refine l_istore rfl rfl rfl ?_
            refine l_goto rfl rfl ?_
            have w212 : Xi T9 246 2 = Xi T1 246 2 := (show Xi T9 246 2 = Xi T6 246 2 from w211.x _ _ rfl).trans ((show Xi T6 246 2 = Xi T1 246 2 from w137.x _ _ rfl))
            have w213 : 0 ≤ Xi T1 246 2 ∧ Xi T1 246 2 ≤ 24 := hHT1.c _ _
            have w214 : Xi T9 246 5 = Xi T6 246 5 := (show Xi T9 246 5 = Xi T6 246 5 from w211.x _ _ rfl)
            have w215 : 0 ≤ Xi T6 246 5 ∧ Xi T6 246 5 ≤ 200000 := hHT6.c _ _
            have w216 : Xi T9 876 6 = Xi T1 876 6 := (show Xi T9 876 6 = Xi T6 876 6 from w211.x _ _ rfl).trans ((show Xi T6 876 6 = Xi T1 876 6 from w137.x _ _ rfl))
            have w217 : 0 ≤ Xi T1 876 6 ∧ Xi T1 876 6 ≤ 5002 := hHT1.c _ _
            have w218 : 0 ≤ Xi T9 876 7 ∧ Xi T9 876 7 ≤ 5125 := hHT9.c _ _
            have w219 : 0 ≤ Xi T9 876 8 ∧ Xi T9 876 8 ≤ 9 := hHT9.c _ _
            have w220 : Xi T9 895 4 = Xi T1 895 4 := (show Xi T9 895 4 = Xi T6 895 4 from w211.x _ _ rfl).trans ((show Xi T6 895 4 = Xi T1 895 4 from w137.x _ _ rfl))
            have w221 : -1 ≤ Xi T1 895 4 ∧ Xi T1 895 4 ≤ 15 := hHT1.c _ _
            have w222 : Xi T9 899 6 = Xi T1 899 6 := (show Xi T9 899 6 = Xi T6 899 6 from w211.x _ _ rfl).trans ((show Xi T6 899 6 = Xi T1 899 6 from w137.x _ _ rfl))
            have w223 : 0 ≤ Xi T1 899 6 ∧ Xi T1 899 6 ≤ 6 := hHT1.c _ _
            exact Rl_weak (C124 T9 hHT9 hFT9 (v3) (z126) (z210) (⟨by omega, by omega⟩) (⟨by omega, by omega⟩) (⟨by omega, by omega⟩) (by omega) (by omega) (by rw [show (Xi T1 246 5).toNat = (z136) by omega]; exact (kcl_tr (kcl_tr KCL.rf (by assumption : KCL T1 T6 _)) (by assumption : KCL T6 T9 _))) ((kru_f w211 rfl (kru_f w137 rfl KRU.rf))) (((FR.tr (FR.tr FR.rf w137 rfl) w211 rfl) : FR md_rr_rulePhrases T1 T9)) (i77) (k77) (t77) (c77) (by rw [show (Xi T1 246 5).toNat = (z136) by omega]; exact o77) (by omega) (⟨by omega, by omega, by omega, by omega, by omega, by omega⟩) (by omega) (by omega) (by omega) (hz77) (d48) (l77) (by omega)) (And.intro rfl (And.intro rfl (And.intro rfl (And.intro rfl (True.intro)))))
        · refine l_aload_n rfl rfl ?_
          refine l_gfr rfl rfl rfl rfl rfl (hHT1.r 899 0 876 rfl) ?_
          refine l_bipush rfl rfl ?_
          refine l_iload_n rfl rfl ?_
          have w224 : 0 ≤ Xi T1 246 2 ∧ Xi T1 246 2 ≤ 24 := hHT1.c _ _
          have w225 : 0 ≤ Xi T1 246 5 ∧ Xi T1 246 5 ≤ 200000 := hHT1.c _ _
          have w226 : 0 ≤ Xi T1 876 6 ∧ Xi T1 876 6 ≤ 5002 := hHT1.c _ _
          have w227 : -1 ≤ Xi T1 895 4 ∧ Xi T1 895 4 ≤ 15 := hHT1.c _ _
          have w228 : 0 ≤ Xi T1 899 6 ∧ Xi T1 899 6 ≤ 6 := hHT1.c _ _
          refine l_callV rfl rfl rfl (t_to_wrong hHT1 9 v1 ⟨by omega, by omega⟩ ⟨by omega, by omega⟩ _) ?_
          rintro _ T10 ⟨hHT10, w232, z231, rfl, w231, w229, w230⟩
          have hFT10 : FR md_rr_rulePhrases S T10 := FR.tr hFT1 w232 rfl
          show Rl _ _ _ _ _ [iv z231] _ _
          have rT10_1 : Xi T10 (248 + ru) 1 = Xi T1 (248 + ru) 1 := FR_ru w232 rfl (by omega)
          have rT10_3 : Xi T10 (248 + ru) 3 = Xi T1 (248 + ru) 3 := FR_ru w232 rfl (by omega)
          have rT10_4 : Xi T10 (248 + ru) 4 = Xi T1 (248 + ru) 4 := FR_ru w232 rfl (by omega)
          have rT10_5 : Xi T10 (248 + ru) 5 = Xi T1 (248 + ru) 5 := FR_ru w232 rfl (by omega)
          have rT10_6 : Xi T10 (248 + ru) 6 = Xi T1 (248 + ru) 6 := FR_ru w232 rfl (by omega)
          have rT10_7 : Xi T10 (248 + ru) 7 = Xi T1 (248 + ru) 7 := FR_ru w232 rfl (by omega)
          refine l_ireturn rfl (retI_z (by omega)) ?_
          have w233 : Xi T10 246 2 = Xi T1 246 2 := (show Xi T10 246 2 = Xi T1 246 2 from w232.x _ _ rfl)
          have w234 : 0 ≤ Xi T1 246 2 ∧ Xi T1 246 2 ≤ 24 := hHT1.c _ _
          have w235 : Xi T10 246 5 = Xi T1 246 5 := (show Xi T10 246 5 = Xi T1 246 5 from w232.x _ _ rfl)
          have w236 : 0 ≤ Xi T1 246 5 ∧ Xi T1 246 5 ≤ 200000 := hHT1.c _ _
          have w237 : Xi T10 876 6 = Xi T1 876 6 := (show Xi T10 876 6 = Xi T1 876 6 from w232.x _ _ rfl)
          have w238 : 0 ≤ Xi T1 876 6 ∧ Xi T1 876 6 ≤ 5002 := hHT1.c _ _
          have w239 : 0 ≤ Xi T10 876 8 ∧ Xi T10 876 8 ≤ 9 := hHT10.c _ _
          have w240 : Xi T10 895 4 = Xi T1 895 4 := (show Xi T10 895 4 = Xi T1 895 4 from w232.x _ _ rfl)
          have w241 : -1 ≤ Xi T1 895 4 ∧ Xi T1 895 4 ≤ 15 := hHT1.c _ _
          have w242 : Xi T10 899 6 = Xi T1 899 6 := (show Xi T10 899 6 = Xi T1 899 6 from w232.x _ _ rfl)
          have w243 : 0 ≤ Xi T1 899 6 ∧ Xi T1 899 6 ≤ 6 := hHT1.c _ _
          exact ⟨hHT10, hFT10, _, rfl, ⟨by omega, by omega⟩, (fun q => by first | (exfalso; omega) | exact sG.tr hg11 (sG.tr g181 g192)), (fun q => by first | (exfalso; omega) | exact kru_tr hq11 (kru_o rfl (by omega) (kru_w  KRU.rf))), (fun q => by first | (exfalso; omega) | exact ⟨by omega, by omega⟩), (fun q => by first | (exfalso; omega) | exact RB_e hHT1 hrk (sG.tr g181 g192) (by omega) (by omega) (by omega) (by omega) (by omega) (by omega) (by omega) (by omega) (by omega) (by omega) hb11), (fun q => by first | omega | (exfalso; omega))⟩
  refine l_aload_n rfl rfl ?_
  refine l_gfi rfl rfl rfl rfl rfl ?_
  have w244 : -1 ≤ (Xi S 899 5) ∧ (Xi S 899 5) ≤ 5131 := hH.c _ _
  refine l_iconst rfl ?_
  refine l_iadd rfl ?_
  refine l_istore_n rfl rfl rfl ?_
  refine l_iconst rfl ?_
  refine l_istore_n rfl rfl rfl ?_
  refine l_iconst rfl ?_
  refine l_istore_n rfl rfl rfl ?_
  have w245 : 0 ≤ Xi S 246 2 ∧ Xi S 246 2 ≤ 24 := hH.c _ _
  have w246 : 0 ≤ Xi S 246 5 ∧ Xi S 246 5 ≤ 200000 := hH.c _ _
  have w247 : 0 ≤ Xi S 876 6 ∧ Xi S 876 6 ≤ 5002 := hH.c _ _
  have w248 : 0 ≤ Xi S 876 7 ∧ Xi S 876 7 ≤ 5125 := hH.c _ _
  have w249 : -1 ≤ Xi S 895 4 ∧ Xi S 895 4 ≤ 15 := hH.c _ _
  have w250 : 0 ≤ Xi S 899 6 ∧ Xi S 899 6 ≤ 6 := hH.c _ _
  exact Rl_weak (C11 _ S hH hF (((Xi S 899 5) + 1)) (1) (0) (⟨by omega, by omega⟩) (⟨by omega, by omega⟩) (⟨by omega, by omega⟩) (by first | exact sG.rf hH | exact sG.tr hg11 G147) (by first | exact KRU.rf | exact kru_tr hq11 (kru_w rfl hu124)) (by first | exact hb | (rw [show w3 + 1 = v3 + 1 by omega]; exact B147)) (by omega) (by omega) (by omega) (by first | exact hT | exact t140) (by omega) (by first | exact KTK.rf | exact k140) (fun _ => by omega) (by first | exact fun _ _ => hcr.symm | exact fun q => absurd q (by decide) | exact fun _ q => by have t := n147 (by omega); omega) rfl) (And.intro rfl (And.intro rfl (And.intro rfl (And.intro rfl (True.intro)))))
def md_mo_nows : List rec := [(925, 926, 0, 100000), (930, 931, 0, 100000), (931, 932, 0, 100000), (932, 933, 0, 100000), (940, 941, 0, 100000)]
abbrev Q_mo_nows (S : sS) (q : Int) (noun : Int) : pst := fun r S1 => HI S1 ∧ FR md_mo_nows S S1 ∧ (r = none ∧ (TXM S1))
set_option maxRecDepth 100000 in
theorem t_mo_nows {S : sS} (hH : HI S) (q : Int) (noun : Int) (hq : 0 ≤ q ∧ q ≤ 2399) (hnoun : -1 ≤ noun ∧ noun ≤ 23) (hk : NQ S (0 ≤ noun) q.toNat) (h2 : noun < Xi S 904 19) (hX : TXM S) (d : Nat) : Mt lay0 (d + 2) m_mo_nows [.ref 904, iv q, iv noun] S (Q_mo_nows S q noun) := by
  refine Mt_R rfl rfl ?_
  have hF : FR md_mo_nows S S := FR.rf
  have w1 : 0 ≤ Xi S 904 19 ∧ Xi S 904 19 ≤ 24 := hH.c _ _
  have hc3 : 0 ≤ Xi S 904 23 ∧ Xi S 904 23 ≤ 24 := hH.c _ _
  have hc19 : 0 ≤ Xi S 904 19 ∧ Xi S 904 19 ≤ 24 := hH.c _ _
  have hc32 : 0 ≤ Xi S 904 32 ∧ Xi S 904 32 ≤ 12 := hH.c _ _
  have hk1 := hk.1
  have hk2 := hk.2.1
  have hpr : Xi S 969 q.toNat ≤ 2 → 0 ≤ Xi S 972 q.toNat ∧ Xi S 972 q.toNat < Xi S 904 32 := hk1.2.2.2.1
  have had : Xi S 969 q.toNat = 3 → (0 ≤ Xi S 973 q.toNat ∧ Xi S 973 q.toNat < Xi S 904 23) ∨ (100 ≤ Xi S 973 q.toNat ∧ Xi S 973 q.toNat % 100 < Xi S 904 32 ∧ Xi S 973 q.toNat ≤ 6411) := hk1.2.2.1
  have hct : Xi S 969 q.toNat = 3 → Xi S 973 q.toNat < 100 → Xi S 922 (Xi S 973 q.toNat).toNat ≠ -1 := hk.2.2
  have C46 : ∀ (n46 : Nat) (T1 : sS) (_ : HI T1) (_ : FR md_mo_nows S T1) (v3 : Int) (v4 : Int) (v5 : Int) (v6 : Int), (0 ≤ v3 ∧ v3 ≤ 23) → (0 ≤ v4 ∧ v4 ≤ 5) → (0 ≤ v5 ∧ v5 ≤ 23) → (0 ≤ v6 ∧ v6 ≤ 24) → (TXM T1) → n46 = (25 - v6).toNat → Rl lay0 (d + 1) m_mo_nows 46 [(0, .ref 904), (3, iv v3), (4, iv v4), (5, iv v5), (6, iv v6)] [] T1 (Q_mo_nows S q noun) := by
    intro n46
    induction n46 using Nat.strongRecOn with
    | ind n46 ih46 =>
      intro T1 hHT1 hFT1 v3 v4 v5 v6 w2 w3 w4 w5 hX46 hm46
      have w6 : Xi T1 904 19 = Xi S 904 19 := hFT1.x _ _ rfl
      refine l_iload rfl rfl ?_
      refine l_aload_n rfl rfl ?_
      refine l_gfi rfl rfl rfl rfl rfl ?_
      refine l_icmp_ge rfl rfl (by unfold rg; omega) (by unfold rg; omega) (fun w7 => ?_) (fun w8 => ?_)
      · refine l_aload_n rfl rfl ?_
        refine l_gfr rfl rfl rfl rfl rfl (hHT1.r 904 46 940 rfl) ?_
        refine l_sipush rfl rfl ?_
        refine l_iload rfl rfl ?_
        refine l_imul rfl ?_
        refine l_bipush rfl rfl ?_
        refine l_iload_n rfl rfl ?_
        refine l_imul rfl ?_
        refine l_iadd rfl ?_
        refine l_iload rfl rfl ?_
        refine l_iadd rfl ?_
        refine l_iconst rfl ?_
        refine l_bastoreZ1 (n := 3456) rfl rfl (by omega) (by omega) (by unfold rg; omega) ⟨by omega, by omega⟩ ?_
        obtain ⟨U2, eU2⟩ : ∃ T : sS, T = uI T1 940 (((((576 * v4) + (24 * v3)) + v5)).toNat) (Int32.ofInt 1) := ⟨_, rfl⟩
        rw [← eU2]
        have hHU2 : HI U2 := by rw [eU2]; exact HI_w hHT1 (show 0 ≤ 1 by omega) (show 1 ≤ 1 by omega)
        have hFU2 : FR md_mo_nows S U2 := by rw [eU2]; exact FR.wI hFT1 (mdf_i (r := (940, 941, 0, 100000)) (List.mem_of_getElem? (i := 4) rfl) (inR_i (by omega) (by omega) (by omega) (by omega)))
        have w9 : Xi U2 940 (((((576 * v4) + (24 * v3)) + v5)).toNat) = 1 := by rw [eU2]; exact Xi_same (by unfold rg; omega)
        refine l_goto rfl rfl ?_
        refine l_return rfl rfl ?_
        exact ⟨hHU2, hFU2, rfl, (by first | exact x416 | assumption | exact TXM_FR (FR_e eU2) rfl (by first | assumption | exact TXM_FR (FR_e ) rfl hX))⟩
      · refine l_aload_n rfl rfl ?_
        refine l_gfr rfl rfl rfl rfl rfl (hHT1.r 904 46 940 rfl) ?_
        refine l_sipush rfl rfl ?_
        refine l_iload rfl rfl ?_
        refine l_imul rfl ?_
        refine l_bipush rfl rfl ?_
        refine l_iload rfl rfl ?_
        refine l_imul rfl ?_
        refine l_iadd rfl ?_
        refine l_iload rfl rfl ?_
        refine l_iadd rfl ?_
        refine l_aload_n rfl rfl ?_
        refine l_gfr rfl rfl rfl rfl rfl (hHT1.r 904 46 940 rfl) ?_
        refine l_sipush rfl rfl ?_
        refine l_iload rfl rfl ?_
        refine l_imul rfl ?_
        refine l_bipush rfl rfl ?_
        refine l_iload rfl rfl ?_
        refine l_imul rfl ?_
        refine l_iadd rfl ?_
        refine l_iload rfl rfl ?_
        refine l_iadd rfl ?_
        refine l_baload (n := 3456) rfl rfl rfl (by decide) (by omega) (by omega) (by unfold rg; omega) ?_
        have w10 : 0 ≤ (Xi T1 940 (((((576 * v4) + (24 * v6)) + v5)).toNat)) ∧ (Xi T1 940 (((((576 * v4) + (24 * v6)) + v5)).toNat)) ≤ 1 := hHT1.c _ _
        refine l_if_eq rfl rfl (by unfold rg; omega) (fun w11 => ?_) (fun w12 => ?_)
        · refine l_iconst rfl ?_
          refine l_bastoreZ1 (n := 3456) rfl rfl (by omega) (by omega) (by unfold rg; omega) ⟨by omega, by omega⟩ ?_
          obtain ⟨U3, eU3⟩ : ∃ T : sS, T = uI T1 940 (((((576 * v4) + (24 * v6)) + v5)).toNat) (Int32.ofInt 0) := ⟨_, rfl⟩
          rw [← eU3]
          have hHU3 : HI U3 := by rw [eU3]; exact HI_w hHT1 (show 0 ≤ 0 by omega) (show 0 ≤ 1 by omega)
          have hFU3 : FR md_mo_nows S U3 := by rw [eU3]; exact FR.wI hFT1 (mdf_i (r := (940, 941, 0, 100000)) (List.mem_of_getElem? (i := 4) rfl) (inR_i (by omega) (by omega) (by omega) (by omega)))
          have w13 : Xi U3 940 (((((576 * v4) + (24 * v6)) + v5)).toNat) = 0 := by rw [eU3]; exact Xi_same (by unfold rg; omega)
          refine l_aload_n rfl rfl ?_
          refine l_gfr rfl rfl rfl rfl rfl (hHU3.r 904 46 940 rfl) ?_
          refine l_sipush rfl rfl ?_
          refine l_iload rfl rfl ?_
          refine l_imul rfl ?_
          refine l_bipush rfl rfl ?_
          refine l_iload_n rfl rfl ?_
          refine l_imul rfl ?_
          refine l_iadd rfl ?_
          refine l_iload rfl rfl ?_
          refine l_iadd rfl ?_
          refine l_aload_n rfl rfl ?_
          refine l_gfr rfl rfl rfl rfl rfl (hHU3.r 904 46 940 rfl) ?_
          refine l_sipush rfl rfl ?_
          refine l_iload rfl rfl ?_
          refine l_imul rfl ?_
          refine l_bipush rfl rfl ?_
          refine l_iload_n rfl rfl ?_
          refine l_imul rfl ?_
          refine l_iadd rfl ?_
          refine l_iload rfl rfl ?_
          refine l_iadd rfl ?_
          refine l_baload (n := 3456) rfl rfl rfl (by decide) (by omega) (by omega) (by unfold rg; omega) ?_
          have w14 : 0 ≤ (Xi U3 940 (((((576 * v4) + (24 * v3)) + v6)).toNat)) ∧ (Xi U3 940 (((((576 * v4) + (24 * v3)) + v6)).toNat)) ≤ 1 := hHU3.c _ _
          refine l_if_eq rfl rfl (by unfold rg; omega) (fun w15 => ?_) (fun w16 => ?_)
          · refine l_iconst rfl ?_
            refine l_bastoreZ1 (n := 3456) rfl rfl (by omega) (by omega) (by unfold rg; omega) ⟨by omega, by omega⟩ ?_
            obtain ⟨U4, eU4⟩ : ∃ T : sS, T = uI U3 940 (((((576 * v4) + (24 * v3)) + v6)).toNat) (Int32.ofInt 0) := ⟨_, rfl⟩
            rw [← eU4]
            have hHU4 : HI U4 := by rw [eU4]; exact HI_w hHU3 (show 0 ≤ 0 by omega) (show 0 ≤ 1 by omega)
            have hFU4 : FR md_mo_nows S U4 := by rw [eU4]; exact FR.wI hFU3 (mdf_i (r := (940, 941, 0, 100000)) (List.mem_of_getElem? (i := 4) rfl) (inR_i (by omega) (by omega) (by omega) (by omega)))
            have w17 : Xi U4 940 (((((576 * v4) + (24 * v3)) + v6)).toNat) = 0 := by rw [eU4]; exact Xi_same (by unfold rg; omega)
            refine l_iinc rfl rfl rfl rfl ?_
            refine l_goto rfl rfl ?_
            exact Rl_weak (ih46 _ (by omega) U4 hHU4 hFU4 (v3) (v4) (v5) ((v6 + 1)) (by omega) (by omega) (by omega) (by omega) (by first | assumption | exact (TXM_FR (FR_e eU4) rfl (TXM_FR (FR_e eU3) rfl (by assumption : TXM T1)))) rfl) (And.intro rfl (And.intro rfl (And.intro rfl (And.intro rfl (And.intro rfl (True.intro))))))
          · refine l_aload_n rfl rfl ?_
            refine l_gfr rfl rfl rfl rfl rfl (hHU3.r 904 45 939 rfl) ?_
            refine l_iload rfl rfl ?_
            refine l_baload (n := 6) rfl rfl rfl (by decide) (by omega) (by omega) (by unfold rg; omega) ?_
            have w18 : 0 ≤ (Xi U3 939 ((v4).toNat)) ∧ (Xi U3 939 ((v4).toNat)) ≤ 1 := hHU3.c _ _
            refine l_if_eq rfl rfl (by unfold rg; omega) (fun w19 => ?_) (fun w20 => ?_)
            · refine l_iconst rfl ?_
              refine l_goto rfl rfl ?_
              refine l_bastoreZ1 (n := 3456) rfl rfl (by omega) (by omega) (by unfold rg; omega) ⟨by omega, by omega⟩ ?_
              obtain ⟨U5, eU5⟩ : ∃ T : sS, T = uI U3 940 (((((576 * v4) + (24 * v3)) + v6)).toNat) (Int32.ofInt 1) := ⟨_, rfl⟩
              rw [← eU5]
              have hHU5 : HI U5 := by rw [eU5]; exact HI_w hHU3 (show 0 ≤ 1 by omega) (show 1 ≤ 1 by omega)
              have hFU5 : FR md_mo_nows S U5 := by rw [eU5]; exact FR.wI hFU3 (mdf_i (r := (940, 941, 0, 100000)) (List.mem_of_getElem? (i := 4) rfl) (inR_i (by omega) (by omega) (by omega) (by omega)))
              have w21 : Xi U5 940 (((((576 * v4) + (24 * v3)) + v6)).toNat) = 1 := by rw [eU5]; exact Xi_same (by unfold rg; omega)
              refine l_iinc rfl rfl rfl rfl ?_
              refine l_goto rfl rfl ?_
              exact Rl_weak (ih46 _ (by omega) U5 hHU5 hFU5 (v3) (v4) (v5) ((v6 + 1)) (by omega) (by omega) (by omega) (by omega) (by first | assumption | exact (TXM_FR (FR_e eU5) rfl (TXM_FR (FR_e eU3) rfl (by assumption : TXM T1)))) rfl) (And.intro rfl (And.intro rfl (And.intro rfl (And.intro rfl (And.intro rfl (True.intro))))))
            · refine l_iload rfl rfl ?_
              refine l_iload rfl rfl ?_
              refine l_icmp_ne rfl rfl (by unfold rg; omega) (by unfold rg; omega) (fun w22 => ?_) (fun w23 => ?_)
              · refine l_iconst rfl ?_
                refine l_bastoreZ1 (n := 3456) rfl rfl (by omega) (by omega) (by unfold rg; omega) ⟨by omega, by omega⟩ ?_
                obtain ⟨U6, eU6⟩ : ∃ T : sS, T = uI U3 940 (((((576 * v4) + (24 * v3)) + v6)).toNat) (Int32.ofInt 0) := ⟨_, rfl⟩
                rw [← eU6]
                have hHU6 : HI U6 := by rw [eU6]; exact HI_w hHU3 (show 0 ≤ 0 by omega) (show 0 ≤ 1 by omega)
                have hFU6 : FR md_mo_nows S U6 := by rw [eU6]; exact FR.wI hFU3 (mdf_i (r := (940, 941, 0, 100000)) (List.mem_of_getElem? (i := 4) rfl) (inR_i (by omega) (by omega) (by omega) (by omega)))
                have w24 : Xi U6 940 (((((576 * v4) + (24 * v3)) + v6)).toNat) = 0 := by rw [eU6]; exact Xi_same (by unfold rg; omega)
                refine l_iinc rfl rfl rfl rfl ?_
                refine l_goto rfl rfl ?_
                exact Rl_weak (ih46 _ (by omega) U6 hHU6 hFU6 (v3) (v4) (v5) ((v6 + 1)) (by omega) (by omega) (by omega) (by omega) (by first | assumption | exact (TXM_FR (FR_e eU6) rfl (TXM_FR (FR_e eU3) rfl (by assumption : TXM T1)))) rfl) (And.intro rfl (And.intro rfl (And.intro rfl (And.intro rfl (And.intro rfl (True.intro))))))
              · refine l_iconst rfl ?_
                refine l_goto rfl rfl ?_
                refine l_bastoreZ1 (n := 3456) rfl rfl (by omega) (by omega) (by unfold rg; omega) ⟨by omega, by omega⟩ ?_
                obtain ⟨U7, eU7⟩ : ∃ T : sS, T = uI U3 940 (((((576 * v4) + (24 * v3)) + v6)).toNat) (Int32.ofInt 1) := ⟨_, rfl⟩
                rw [← eU7]
                have hHU7 : HI U7 := by rw [eU7]; exact HI_w hHU3 (show 0 ≤ 1 by omega) (show 1 ≤ 1 by omega)
                have hFU7 : FR md_mo_nows S U7 := by rw [eU7]; exact FR.wI hFU3 (mdf_i (r := (940, 941, 0, 100000)) (List.mem_of_getElem? (i := 4) rfl) (inR_i (by omega) (by omega) (by omega) (by omega)))
                have w25 : Xi U7 940 (((((576 * v4) + (24 * v3)) + v6)).toNat) = 1 := by rw [eU7]; exact Xi_same (by unfold rg; omega)
                refine l_iinc rfl rfl rfl rfl ?_
                refine l_goto rfl rfl ?_
                exact Rl_weak (ih46 _ (by omega) U7 hHU7 hFU7 (v3) (v4) (v5) ((v6 + 1)) (by omega) (by omega) (by omega) (by omega) (by first | assumption | exact (TXM_FR (FR_e eU7) rfl (TXM_FR (FR_e eU3) rfl (by assumption : TXM T1)))) rfl) (And.intro rfl (And.intro rfl (And.intro rfl (And.intro rfl (And.intro rfl (True.intro))))))
        · refine l_aload_n rfl rfl ?_
          refine l_gfr rfl rfl rfl rfl rfl (hHT1.r 904 44 938 rfl) ?_
          refine l_iload rfl rfl ?_
          refine l_baload (n := 6) rfl rfl rfl (by decide) (by omega) (by omega) (by unfold rg; omega) ?_
          have w26 : 0 ≤ (Xi T1 938 ((v4).toNat)) ∧ (Xi T1 938 ((v4).toNat)) ≤ 1 := hHT1.c _ _
          refine l_if_eq rfl rfl (by unfold rg; omega) (fun w27 => ?_) (fun w28 => ?_)
          · refine l_iconst rfl ?_
            refine l_goto rfl rfl ?_
            refine l_bastoreZ1 (n := 3456) rfl rfl (by omega) (by omega) (by unfold rg; omega) ⟨by omega, by omega⟩ ?_
            obtain ⟨U8, eU8⟩ : ∃ T : sS, T = uI T1 940 (((((576 * v4) + (24 * v6)) + v5)).toNat) (Int32.ofInt 1) := ⟨_, rfl⟩
            rw [← eU8]
            have hHU8 : HI U8 := by rw [eU8]; exact HI_w hHT1 (show 0 ≤ 1 by omega) (show 1 ≤ 1 by omega)
            have hFU8 : FR md_mo_nows S U8 := by rw [eU8]; exact FR.wI hFT1 (mdf_i (r := (940, 941, 0, 100000)) (List.mem_of_getElem? (i := 4) rfl) (inR_i (by omega) (by omega) (by omega) (by omega)))
            have w29 : Xi U8 940 (((((576 * v4) + (24 * v6)) + v5)).toNat) = 1 := by rw [eU8]; exact Xi_same (by unfold rg; omega)
            refine l_aload_n rfl rfl ?_
            refine l_gfr rfl rfl rfl rfl rfl (hHU8.r 904 46 940 rfl) ?_
            refine l_sipush rfl rfl ?_
            refine l_iload rfl rfl ?_
            refine l_imul rfl ?_
            refine l_bipush rfl rfl ?_
            refine l_iload_n rfl rfl ?_
            refine l_imul rfl ?_
            refine l_iadd rfl ?_
            refine l_iload rfl rfl ?_
            refine l_iadd rfl ?_
            refine l_aload_n rfl rfl ?_
            refine l_gfr rfl rfl rfl rfl rfl (hHU8.r 904 46 940 rfl) ?_
            refine l_sipush rfl rfl ?_
            refine l_iload rfl rfl ?_
            refine l_imul rfl ?_
            refine l_bipush rfl rfl ?_
            refine l_iload_n rfl rfl ?_
            refine l_imul rfl ?_
            refine l_iadd rfl ?_
            refine l_iload rfl rfl ?_
            refine l_iadd rfl ?_
            refine l_baload (n := 3456) rfl rfl rfl (by decide) (by omega) (by omega) (by unfold rg; omega) ?_
            have w30 : 0 ≤ (Xi U8 940 (((((576 * v4) + (24 * v3)) + v6)).toNat)) ∧ (Xi U8 940 (((((576 * v4) + (24 * v3)) + v6)).toNat)) ≤ 1 := hHU8.c _ _
            refine l_if_eq rfl rfl (by unfold rg; omega) (fun w31 => ?_) (fun w32 => ?_)
            · refine l_iconst rfl ?_
              refine l_bastoreZ1 (n := 3456) rfl rfl (by omega) (by omega) (by unfold rg; omega) ⟨by omega, by omega⟩ ?_
              obtain ⟨U9, eU9⟩ : ∃ T : sS, T = uI U8 940 (((((576 * v4) + (24 * v3)) + v6)).toNat) (Int32.ofInt 0) := ⟨_, rfl⟩
              rw [← eU9]
              have hHU9 : HI U9 := by rw [eU9]; exact HI_w hHU8 (show 0 ≤ 0 by omega) (show 0 ≤ 1 by omega)
              have hFU9 : FR md_mo_nows S U9 := by rw [eU9]; exact FR.wI hFU8 (mdf_i (r := (940, 941, 0, 100000)) (List.mem_of_getElem? (i := 4) rfl) (inR_i (by omega) (by omega) (by omega) (by omega)))
              have w33 : Xi U9 940 (((((576 * v4) + (24 * v3)) + v6)).toNat) = 0 := by rw [eU9]; exact Xi_same (by unfold rg; omega)
              refine l_iinc rfl rfl rfl rfl ?_
              refine l_goto rfl rfl ?_
              exact Rl_weak (ih46 _ (by omega) U9 hHU9 hFU9 (v3) (v4) (v5) ((v6 + 1)) (by omega) (by omega) (by omega) (by omega) (by first | assumption | exact (TXM_FR (FR_e eU9) rfl (TXM_FR (FR_e eU8) rfl (by assumption : TXM T1)))) rfl) (And.intro rfl (And.intro rfl (And.intro rfl (And.intro rfl (And.intro rfl (True.intro))))))
            · refine l_aload_n rfl rfl ?_
              refine l_gfr rfl rfl rfl rfl rfl (hHU8.r 904 45 939 rfl) ?_
              refine l_iload rfl rfl ?_
              refine l_baload (n := 6) rfl rfl rfl (by decide) (by omega) (by omega) (by unfold rg; omega) ?_
              have w34 : 0 ≤ (Xi U8 939 ((v4).toNat)) ∧ (Xi U8 939 ((v4).toNat)) ≤ 1 := hHU8.c _ _
              refine l_if_eq rfl rfl (by unfold rg; omega) (fun w35 => ?_) (fun w36 => ?_)
              · refine l_iconst rfl ?_
                refine l_goto rfl rfl ?_
                refine l_bastoreZ1 (n := 3456) rfl rfl (by omega) (by omega) (by unfold rg; omega) ⟨by omega, by omega⟩ ?_
                obtain ⟨U10, eU10⟩ : ∃ T : sS, T = uI U8 940 (((((576 * v4) + (24 * v3)) + v6)).toNat) (Int32.ofInt 1) := ⟨_, rfl⟩
                rw [← eU10]
                have hHU10 : HI U10 := by rw [eU10]; exact HI_w hHU8 (show 0 ≤ 1 by omega) (show 1 ≤ 1 by omega)
                have hFU10 : FR md_mo_nows S U10 := by rw [eU10]; exact FR.wI hFU8 (mdf_i (r := (940, 941, 0, 100000)) (List.mem_of_getElem? (i := 4) rfl) (inR_i (by omega) (by omega) (by omega) (by omega)))
                have w37 : Xi U10 940 (((((576 * v4) + (24 * v3)) + v6)).toNat) = 1 := by rw [eU10]; exact Xi_same (by unfold rg; omega)
                refine l_iinc rfl rfl rfl rfl ?_
                refine l_goto rfl rfl ?_
                exact Rl_weak (ih46 _ (by omega) U10 hHU10 hFU10 (v3) (v4) (v5) ((v6 + 1)) (by omega) (by omega) (by omega) (by omega) (by first | assumption | exact (TXM_FR (FR_e eU10) rfl (TXM_FR (FR_e eU8) rfl (by assumption : TXM T1)))) rfl) (And.intro rfl (And.intro rfl (And.intro rfl (And.intro rfl (And.intro rfl (True.intro))))))
              · refine l_iload rfl rfl ?_
                refine l_iload rfl rfl ?_
                refine l_icmp_ne rfl rfl (by unfold rg; omega) (by unfold rg; omega) (fun w38 => ?_) (fun w39 => ?_)
                · refine l_iconst rfl ?_
                  refine l_bastoreZ1 (n := 3456) rfl rfl (by omega) (by omega) (by unfold rg; omega) ⟨by omega, by omega⟩ ?_
                  obtain ⟨U11, eU11⟩ : ∃ T : sS, T = uI U8 940 (((((576 * v4) + (24 * v3)) + v6)).toNat) (Int32.ofInt 0) := ⟨_, rfl⟩
                  rw [← eU11]
                  have hHU11 : HI U11 := by rw [eU11]; exact HI_w hHU8 (show 0 ≤ 0 by omega) (show 0 ≤ 1 by omega)
                  have hFU11 : FR md_mo_nows S U11 := by rw [eU11]; exact FR.wI hFU8 (mdf_i (r := (940, 941, 0, 100000)) (List.mem_of_getElem? (i := 4) rfl) (inR_i (by omega) (by omega) (by omega) (by omega)))
                  have w40 : Xi U11 940 (((((576 * v4) + (24 * v3)) + v6)).toNat) = 0 := by rw [eU11]; exact Xi_same (by unfold rg; omega)
                  refine l_iinc rfl rfl rfl rfl ?_
                  refine l_goto rfl rfl ?_
                  exact Rl_weak (ih46 _ (by omega) U11 hHU11 hFU11 (v3) (v4) (v5) ((v6 + 1)) (by omega) (by omega) (by omega) (by omega) (by first | assumption | exact (TXM_FR (FR_e eU11) rfl (TXM_FR (FR_e eU8) rfl (by assumption : TXM T1)))) rfl) (And.intro rfl (And.intro rfl (And.intro rfl (And.intro rfl (And.intro rfl (True.intro))))))
                · refine l_iconst rfl ?_
                  refine l_goto rfl rfl ?_
                  refine l_bastoreZ1 (n := 3456) rfl rfl (by omega) (by omega) (by unfold rg; omega) ⟨by omega, by omega⟩ ?_
                  obtain ⟨U12, eU12⟩ : ∃ T : sS, T = uI U8 940 (((((576 * v4) + (24 * v3)) + v6)).toNat) (Int32.ofInt 1) := ⟨_, rfl⟩
                  rw [← eU12]
                  have hHU12 : HI U12 := by rw [eU12]; exact HI_w hHU8 (show 0 ≤ 1 by omega) (show 1 ≤ 1 by omega)
                  have hFU12 : FR md_mo_nows S U12 := by rw [eU12]; exact FR.wI hFU8 (mdf_i (r := (940, 941, 0, 100000)) (List.mem_of_getElem? (i := 4) rfl) (inR_i (by omega) (by omega) (by omega) (by omega)))
                  have w41 : Xi U12 940 (((((576 * v4) + (24 * v3)) + v6)).toNat) = 1 := by rw [eU12]; exact Xi_same (by unfold rg; omega)
                  refine l_iinc rfl rfl rfl rfl ?_
                  refine l_goto rfl rfl ?_
                  exact Rl_weak (ih46 _ (by omega) U12 hHU12 hFU12 (v3) (v4) (v5) ((v6 + 1)) (by omega) (by omega) (by omega) (by omega) (by first | assumption | exact (TXM_FR (FR_e eU12) rfl (TXM_FR (FR_e eU8) rfl (by assumption : TXM T1)))) rfl) (And.intro rfl (And.intro rfl (And.intro rfl (And.intro rfl (And.intro rfl (True.intro))))))
          · refine l_iload rfl rfl ?_
            refine l_iload_n rfl rfl ?_
            refine l_icmp_ne rfl rfl (by unfold rg; omega) (by unfold rg; omega) (fun w42 => ?_) (fun w43 => ?_)
            · refine l_iconst rfl ?_
              refine l_bastoreZ1 (n := 3456) rfl rfl (by omega) (by omega) (by unfold rg; omega) ⟨by omega, by omega⟩ ?_
              obtain ⟨U13, eU13⟩ : ∃ T : sS, T = uI T1 940 (((((576 * v4) + (24 * v6)) + v5)).toNat) (Int32.ofInt 0) := ⟨_, rfl⟩
              rw [← eU13]
              have hHU13 : HI U13 := by rw [eU13]; exact HI_w hHT1 (show 0 ≤ 0 by omega) (show 0 ≤ 1 by omega)
              have hFU13 : FR md_mo_nows S U13 := by rw [eU13]; exact FR.wI hFT1 (mdf_i (r := (940, 941, 0, 100000)) (List.mem_of_getElem? (i := 4) rfl) (inR_i (by omega) (by omega) (by omega) (by omega)))
              have w44 : Xi U13 940 (((((576 * v4) + (24 * v6)) + v5)).toNat) = 0 := by rw [eU13]; exact Xi_same (by unfold rg; omega)
              refine l_aload_n rfl rfl ?_
              refine l_gfr rfl rfl rfl rfl rfl (hHU13.r 904 46 940 rfl) ?_
              refine l_sipush rfl rfl ?_
              refine l_iload rfl rfl ?_
              refine l_imul rfl ?_
              refine l_bipush rfl rfl ?_
              refine l_iload_n rfl rfl ?_
              refine l_imul rfl ?_
              refine l_iadd rfl ?_
              refine l_iload rfl rfl ?_
              refine l_iadd rfl ?_
              refine l_aload_n rfl rfl ?_
              refine l_gfr rfl rfl rfl rfl rfl (hHU13.r 904 46 940 rfl) ?_
              refine l_sipush rfl rfl ?_
              refine l_iload rfl rfl ?_
              refine l_imul rfl ?_
              refine l_bipush rfl rfl ?_
              refine l_iload_n rfl rfl ?_
              refine l_imul rfl ?_
              refine l_iadd rfl ?_
              refine l_iload rfl rfl ?_
              refine l_iadd rfl ?_
              refine l_baload (n := 3456) rfl rfl rfl (by decide) (by omega) (by omega) (by unfold rg; omega) ?_
              have w45 : 0 ≤ (Xi U13 940 (((((576 * v4) + (24 * v3)) + v6)).toNat)) ∧ (Xi U13 940 (((((576 * v4) + (24 * v3)) + v6)).toNat)) ≤ 1 := hHU13.c _ _
              refine l_if_eq rfl rfl (by unfold rg; omega) (fun w46 => ?_) (fun w47 => ?_)
              · refine l_iconst rfl ?_
                refine l_bastoreZ1 (n := 3456) rfl rfl (by omega) (by omega) (by unfold rg; omega) ⟨by omega, by omega⟩ ?_
                obtain ⟨U14, eU14⟩ : ∃ T : sS, T = uI U13 940 (((((576 * v4) + (24 * v3)) + v6)).toNat) (Int32.ofInt 0) := ⟨_, rfl⟩
                rw [← eU14]
                have hHU14 : HI U14 := by rw [eU14]; exact HI_w hHU13 (show 0 ≤ 0 by omega) (show 0 ≤ 1 by omega)
                have hFU14 : FR md_mo_nows S U14 := by rw [eU14]; exact FR.wI hFU13 (mdf_i (r := (940, 941, 0, 100000)) (List.mem_of_getElem? (i := 4) rfl) (inR_i (by omega) (by omega) (by omega) (by omega)))
                have w48 : Xi U14 940 (((((576 * v4) + (24 * v3)) + v6)).toNat) = 0 := by rw [eU14]; exact Xi_same (by unfold rg; omega)
                refine l_iinc rfl rfl rfl rfl ?_
                refine l_goto rfl rfl ?_
                exact Rl_weak (ih46 _ (by omega) U14 hHU14 hFU14 (v3) (v4) (v5) ((v6 + 1)) (by omega) (by omega) (by omega) (by omega) (by first | assumption | exact (TXM_FR (FR_e eU14) rfl (TXM_FR (FR_e eU13) rfl (by assumption : TXM T1)))) rfl) (And.intro rfl (And.intro rfl (And.intro rfl (And.intro rfl (And.intro rfl (True.intro))))))
              · refine l_aload_n rfl rfl ?_
                refine l_gfr rfl rfl rfl rfl rfl (hHU13.r 904 45 939 rfl) ?_
                refine l_iload rfl rfl ?_
                refine l_baload (n := 6) rfl rfl rfl (by decide) (by omega) (by omega) (by unfold rg; omega) ?_
                have w49 : 0 ≤ (Xi U13 939 ((v4).toNat)) ∧ (Xi U13 939 ((v4).toNat)) ≤ 1 := hHU13.c _ _
                refine l_if_eq rfl rfl (by unfold rg; omega) (fun w50 => ?_) (fun w51 => ?_)
                · refine l_iconst rfl ?_
                  refine l_goto rfl rfl ?_
                  refine l_bastoreZ1 (n := 3456) rfl rfl (by omega) (by omega) (by unfold rg; omega) ⟨by omega, by omega⟩ ?_
                  obtain ⟨U15, eU15⟩ : ∃ T : sS, T = uI U13 940 (((((576 * v4) + (24 * v3)) + v6)).toNat) (Int32.ofInt 1) := ⟨_, rfl⟩
                  rw [← eU15]
                  have hHU15 : HI U15 := by rw [eU15]; exact HI_w hHU13 (show 0 ≤ 1 by omega) (show 1 ≤ 1 by omega)
                  have hFU15 : FR md_mo_nows S U15 := by rw [eU15]; exact FR.wI hFU13 (mdf_i (r := (940, 941, 0, 100000)) (List.mem_of_getElem? (i := 4) rfl) (inR_i (by omega) (by omega) (by omega) (by omega)))
                  have w52 : Xi U15 940 (((((576 * v4) + (24 * v3)) + v6)).toNat) = 1 := by rw [eU15]; exact Xi_same (by unfold rg; omega)
                  refine l_iinc rfl rfl rfl rfl ?_
                  refine l_goto rfl rfl ?_
                  exact Rl_weak (ih46 _ (by omega) U15 hHU15 hFU15 (v3) (v4) (v5) ((v6 + 1)) (by omega) (by omega) (by omega) (by omega) (by first | assumption | exact (TXM_FR (FR_e eU15) rfl (TXM_FR (FR_e eU13) rfl (by assumption : TXM T1)))) rfl) (And.intro rfl (And.intro rfl (And.intro rfl (And.intro rfl (And.intro rfl (True.intro))))))
                · refine l_iload rfl rfl ?_
                  refine l_iload rfl rfl ?_
                  refine l_icmp_ne rfl rfl (by unfold rg; omega) (by unfold rg; omega) (fun w53 => ?_) (fun w54 => ?_)
                  · refine l_iconst rfl ?_
                    refine l_bastoreZ1 (n := 3456) rfl rfl (by omega) (by omega) (by unfold rg; omega) ⟨by omega, by omega⟩ ?_
                    obtain ⟨U16, eU16⟩ : ∃ T : sS, T = uI U13 940 (((((576 * v4) + (24 * v3)) + v6)).toNat) (Int32.ofInt 0) := ⟨_, rfl⟩
                    rw [← eU16]
                    have hHU16 : HI U16 := by rw [eU16]; exact HI_w hHU13 (show 0 ≤ 0 by omega) (show 0 ≤ 1 by omega)
                    have hFU16 : FR md_mo_nows S U16 := by rw [eU16]; exact FR.wI hFU13 (mdf_i (r := (940, 941, 0, 100000)) (List.mem_of_getElem? (i := 4) rfl) (inR_i (by omega) (by omega) (by omega) (by omega)))
                    have w55 : Xi U16 940 (((((576 * v4) + (24 * v3)) + v6)).toNat) = 0 := by rw [eU16]; exact Xi_same (by unfold rg; omega)
                    refine l_iinc rfl rfl rfl rfl ?_
                    refine l_goto rfl rfl ?_
                    exact Rl_weak (ih46 _ (by omega) U16 hHU16 hFU16 (v3) (v4) (v5) ((v6 + 1)) (by omega) (by omega) (by omega) (by omega) (by first | assumption | exact (TXM_FR (FR_e eU16) rfl (TXM_FR (FR_e eU13) rfl (by assumption : TXM T1)))) rfl) (And.intro rfl (And.intro rfl (And.intro rfl (And.intro rfl (And.intro rfl (True.intro))))))
                  · refine l_iconst rfl ?_
                    refine l_goto rfl rfl ?_
                    refine l_bastoreZ1 (n := 3456) rfl rfl (by omega) (by omega) (by unfold rg; omega) ⟨by omega, by omega⟩ ?_
                    obtain ⟨U17, eU17⟩ : ∃ T : sS, T = uI U13 940 (((((576 * v4) + (24 * v3)) + v6)).toNat) (Int32.ofInt 1) := ⟨_, rfl⟩
                    rw [← eU17]
                    have hHU17 : HI U17 := by rw [eU17]; exact HI_w hHU13 (show 0 ≤ 1 by omega) (show 1 ≤ 1 by omega)
                    have hFU17 : FR md_mo_nows S U17 := by rw [eU17]; exact FR.wI hFU13 (mdf_i (r := (940, 941, 0, 100000)) (List.mem_of_getElem? (i := 4) rfl) (inR_i (by omega) (by omega) (by omega) (by omega)))
                    have w56 : Xi U17 940 (((((576 * v4) + (24 * v3)) + v6)).toNat) = 1 := by rw [eU17]; exact Xi_same (by unfold rg; omega)
                    refine l_iinc rfl rfl rfl rfl ?_
                    refine l_goto rfl rfl ?_
                    exact Rl_weak (ih46 _ (by omega) U17 hHU17 hFU17 (v3) (v4) (v5) ((v6 + 1)) (by omega) (by omega) (by omega) (by omega) (by first | assumption | exact (TXM_FR (FR_e eU17) rfl (TXM_FR (FR_e eU13) rfl (by assumption : TXM T1)))) rfl) (And.intro rfl (And.intro rfl (And.intro rfl (And.intro rfl (And.intro rfl (True.intro))))))
            · refine l_iconst rfl ?_
              refine l_goto rfl rfl ?_
              refine l_bastoreZ1 (n := 3456) rfl rfl (by omega) (by omega) (by unfold rg; omega) ⟨by omega, by omega⟩ ?_
              obtain ⟨U18, eU18⟩ : ∃ T : sS, T = uI T1 940 (((((576 * v4) + (24 * v6)) + v5)).toNat) (Int32.ofInt 1) := ⟨_, rfl⟩
              rw [← eU18]
              have hHU18 : HI U18 := by rw [eU18]; exact HI_w hHT1 (show 0 ≤ 1 by omega) (show 1 ≤ 1 by omega)
              have hFU18 : FR md_mo_nows S U18 := by rw [eU18]; exact FR.wI hFT1 (mdf_i (r := (940, 941, 0, 100000)) (List.mem_of_getElem? (i := 4) rfl) (inR_i (by omega) (by omega) (by omega) (by omega)))
              have w57 : Xi U18 940 (((((576 * v4) + (24 * v6)) + v5)).toNat) = 1 := by rw [eU18]; exact Xi_same (by unfold rg; omega)
              refine l_aload_n rfl rfl ?_
              refine l_gfr rfl rfl rfl rfl rfl (hHU18.r 904 46 940 rfl) ?_
              refine l_sipush rfl rfl ?_
              refine l_iload rfl rfl ?_
              refine l_imul rfl ?_
              refine l_bipush rfl rfl ?_
              refine l_iload_n rfl rfl ?_
              refine l_imul rfl ?_
              refine l_iadd rfl ?_
              refine l_iload rfl rfl ?_
              refine l_iadd rfl ?_
              refine l_aload_n rfl rfl ?_
              refine l_gfr rfl rfl rfl rfl rfl (hHU18.r 904 46 940 rfl) ?_
              refine l_sipush rfl rfl ?_
              refine l_iload rfl rfl ?_
              refine l_imul rfl ?_
              refine l_bipush rfl rfl ?_
              refine l_iload_n rfl rfl ?_
              refine l_imul rfl ?_
              refine l_iadd rfl ?_
              refine l_iload rfl rfl ?_
              refine l_iadd rfl ?_
              refine l_baload (n := 3456) rfl rfl rfl (by decide) (by omega) (by omega) (by unfold rg; omega) ?_
              have w58 : 0 ≤ (Xi U18 940 (((((576 * v4) + (24 * v3)) + v6)).toNat)) ∧ (Xi U18 940 (((((576 * v4) + (24 * v3)) + v6)).toNat)) ≤ 1 := hHU18.c _ _
              refine l_if_eq rfl rfl (by unfold rg; omega) (fun w59 => ?_) (fun w60 => ?_)
              · refine l_iconst rfl ?_
                refine l_bastoreZ1 (n := 3456) rfl rfl (by omega) (by omega) (by unfold rg; omega) ⟨by omega, by omega⟩ ?_
                obtain ⟨U19, eU19⟩ : ∃ T : sS, T = uI U18 940 (((((576 * v4) + (24 * v3)) + v6)).toNat) (Int32.ofInt 0) := ⟨_, rfl⟩
                rw [← eU19]
                have hHU19 : HI U19 := by rw [eU19]; exact HI_w hHU18 (show 0 ≤ 0 by omega) (show 0 ≤ 1 by omega)
                have hFU19 : FR md_mo_nows S U19 := by rw [eU19]; exact FR.wI hFU18 (mdf_i (r := (940, 941, 0, 100000)) (List.mem_of_getElem? (i := 4) rfl) (inR_i (by omega) (by omega) (by omega) (by omega)))
                have w61 : Xi U19 940 (((((576 * v4) + (24 * v3)) + v6)).toNat) = 0 := by rw [eU19]; exact Xi_same (by unfold rg; omega)
                refine l_iinc rfl rfl rfl rfl ?_
                refine l_goto rfl rfl ?_
                exact Rl_weak (ih46 _ (by omega) U19 hHU19 hFU19 (v3) (v4) (v5) ((v6 + 1)) (by omega) (by omega) (by omega) (by omega) (by first | assumption | exact (TXM_FR (FR_e eU19) rfl (TXM_FR (FR_e eU18) rfl (by assumption : TXM T1)))) rfl) (And.intro rfl (And.intro rfl (And.intro rfl (And.intro rfl (And.intro rfl (True.intro))))))
              · refine l_aload_n rfl rfl ?_
                refine l_gfr rfl rfl rfl rfl rfl (hHU18.r 904 45 939 rfl) ?_
                refine l_iload rfl rfl ?_
                refine l_baload (n := 6) rfl rfl rfl (by decide) (by omega) (by omega) (by unfold rg; omega) ?_
                have w62 : 0 ≤ (Xi U18 939 ((v4).toNat)) ∧ (Xi U18 939 ((v4).toNat)) ≤ 1 := hHU18.c _ _
                refine l_if_eq rfl rfl (by unfold rg; omega) (fun w63 => ?_) (fun w64 => ?_)
                · refine l_iconst rfl ?_
                  refine l_goto rfl rfl ?_
                  refine l_bastoreZ1 (n := 3456) rfl rfl (by omega) (by omega) (by unfold rg; omega) ⟨by omega, by omega⟩ ?_
                  obtain ⟨U20, eU20⟩ : ∃ T : sS, T = uI U18 940 (((((576 * v4) + (24 * v3)) + v6)).toNat) (Int32.ofInt 1) := ⟨_, rfl⟩
                  rw [← eU20]
                  have hHU20 : HI U20 := by rw [eU20]; exact HI_w hHU18 (show 0 ≤ 1 by omega) (show 1 ≤ 1 by omega)
                  have hFU20 : FR md_mo_nows S U20 := by rw [eU20]; exact FR.wI hFU18 (mdf_i (r := (940, 941, 0, 100000)) (List.mem_of_getElem? (i := 4) rfl) (inR_i (by omega) (by omega) (by omega) (by omega)))
                  have w65 : Xi U20 940 (((((576 * v4) + (24 * v3)) + v6)).toNat) = 1 := by rw [eU20]; exact Xi_same (by unfold rg; omega)
                  refine l_iinc rfl rfl rfl rfl ?_
                  refine l_goto rfl rfl ?_
                  exact Rl_weak (ih46 _ (by omega) U20 hHU20 hFU20 (v3) (v4) (v5) ((v6 + 1)) (by omega) (by omega) (by omega) (by omega) (by first | assumption | exact (TXM_FR (FR_e eU20) rfl (TXM_FR (FR_e eU18) rfl (by assumption : TXM T1)))) rfl) (And.intro rfl (And.intro rfl (And.intro rfl (And.intro rfl (And.intro rfl (True.intro))))))
                · refine l_iload rfl rfl ?_
                  refine l_iload rfl rfl ?_
                  refine l_icmp_ne rfl rfl (by unfold rg; omega) (by unfold rg; omega) (fun w66 => ?_) (fun w67 => ?_)
                  · refine l_iconst rfl ?_
                    refine l_bastoreZ1 (n := 3456) rfl rfl (by omega) (by omega) (by unfold rg; omega) ⟨by omega, by omega⟩ ?_
                    obtain ⟨U21, eU21⟩ : ∃ T : sS, T = uI U18 940 (((((576 * v4) + (24 * v3)) + v6)).toNat) (Int32.ofInt 0) := ⟨_, rfl⟩
                    rw [← eU21]
                    have hHU21 : HI U21 := by rw [eU21]; exact HI_w hHU18 (show 0 ≤ 0 by omega) (show 0 ≤ 1 by omega)
                    have hFU21 : FR md_mo_nows S U21 := by rw [eU21]; exact FR.wI hFU18 (mdf_i (r := (940, 941, 0, 100000)) (List.mem_of_getElem? (i := 4) rfl) (inR_i (by omega) (by omega) (by omega) (by omega)))
                    have w68 : Xi U21 940 (((((576 * v4) + (24 * v3)) + v6)).toNat) = 0 := by rw [eU21]; exact Xi_same (by unfold rg; omega)
                    refine l_iinc rfl rfl rfl rfl ?_
                    refine l_goto rfl rfl ?_
                    exact Rl_weak (ih46 _ (by omega) U21 hHU21 hFU21 (v3) (v4) (v5) ((v6 + 1)) (by omega) (by omega) (by omega) (by omega) (by first | assumption | exact (TXM_FR (FR_e eU21) rfl (TXM_FR (FR_e eU18) rfl (by assumption : TXM T1)))) rfl) (And.intro rfl (And.intro rfl (And.intro rfl (And.intro rfl (And.intro rfl (True.intro))))))
                  · refine l_iconst rfl ?_
                    refine l_goto rfl rfl ?_
                    refine l_bastoreZ1 (n := 3456) rfl rfl (by omega) (by omega) (by unfold rg; omega) ⟨by omega, by omega⟩ ?_
                    obtain ⟨U22, eU22⟩ : ∃ T : sS, T = uI U18 940 (((((576 * v4) + (24 * v3)) + v6)).toNat) (Int32.ofInt 1) := ⟨_, rfl⟩
                    rw [← eU22]
                    have hHU22 : HI U22 := by rw [eU22]; exact HI_w hHU18 (show 0 ≤ 1 by omega) (show 1 ≤ 1 by omega)
                    have hFU22 : FR md_mo_nows S U22 := by rw [eU22]; exact FR.wI hFU18 (mdf_i (r := (940, 941, 0, 100000)) (List.mem_of_getElem? (i := 4) rfl) (inR_i (by omega) (by omega) (by omega) (by omega)))
                    have w69 : Xi U22 940 (((((576 * v4) + (24 * v3)) + v6)).toNat) = 1 := by rw [eU22]; exact Xi_same (by unfold rg; omega)
                    refine l_iinc rfl rfl rfl rfl ?_
                    refine l_goto rfl rfl ?_
                    exact Rl_weak (ih46 _ (by omega) U22 hHU22 hFU22 (v3) (v4) (v5) ((v6 + 1)) (by omega) (by omega) (by omega) (by omega) (by first | assumption | exact (TXM_FR (FR_e eU22) rfl (TXM_FR (FR_e eU18) rfl (by assumption : TXM T1)))) rfl) (And.intro rfl (And.intro rfl (And.intro rfl (And.intro rfl (And.intro rfl (True.intro))))))
  refine l_aload_n rfl rfl ?_
  refine l_gfr rfl rfl rfl rfl rfl (hH.r 904 120 971 rfl) ?_
  refine l_iload_n rfl rfl ?_
  refine l_iaload (n := 2400) rfl rfl (by omega) (by omega) (by unfold rg; omega) ?_
  have w70 : -9 ≤ (Xi S 971 ((q).toNat)) ∧ (Xi S 971 ((q).toNat)) ≤ 23 := hH.c _ _
  refine l_iconst rfl ?_
  refine l_iload_n rfl rfl ?_
  refine l_callS rfl rfl (by decide) rfl (t_mo_thingIs hH (Xi S 971 ((q).toNat)) (-1) noun ⟨by omega, by omega⟩ ⟨by omega, by omega⟩ ⟨by omega, by omega⟩ _) ?_
  rintro _ _ ⟨rfl, z72, rfl, w72, w71⟩
  show Rl _ _ _ _ _ [iv z72] _ _
  have o8 : 0 ≤ z72 ∧ z72 < Xi S 904 19 := thk_i (it := -1) (noun := noun) hk1.1 (fun h => absurd h (fun f => f)) (fun h => h) (by omega) h2 (by assumption)
  refine l_istore_n rfl rfl rfl ?_
  refine l_aload_n rfl rfl ?_
  refine l_gfr rfl rfl rfl rfl rfl (hH.r 904 118 969 rfl) ?_
  refine l_iload_n rfl rfl ?_
  refine l_iaload (n := 2400) rfl rfl (by omega) (by omega) (by unfold rg; omega) ?_
  have w73 : 0 ≤ (Xi S 969 ((q).toNat)) ∧ (Xi S 969 ((q).toNat)) ≤ 5 := hH.c _ _
  refine l_iconst rfl ?_
  refine l_icmp_ne rfl rfl (by unfold rg; omega) (by unfold rg; omega) (fun w74 => ?_) (fun w75 => ?_)
  · refine l_aload_n rfl rfl ?_
    refine l_gfr rfl rfl rfl rfl rfl (hH.r 904 118 969 rfl) ?_
    refine l_iload_n rfl rfl ?_
    refine l_iaload (n := 2400) rfl rfl (by omega) (by omega) (by unfold rg; omega) ?_
    refine l_iconst rfl ?_
    refine l_icmp_ne rfl rfl (by unfold rg; omega) (by unfold rg; omega) (fun w76 => ?_) (fun w77 => ?_)
    · refine l_aload_n rfl rfl ?_
      refine l_gfr rfl rfl rfl rfl rfl (hH.r 904 118 969 rfl) ?_
      refine l_iload_n rfl rfl ?_
      refine l_iaload (n := 2400) rfl rfl (by omega) (by omega) (by unfold rg; omega) ?_
      refine l_iconst rfl ?_
      refine l_icmp_ne rfl rfl (by unfold rg; omega) (by unfold rg; omega) (fun w78 => ?_) (fun w79 => ?_)
      · refine l_aload_n rfl rfl ?_
        refine l_gfr rfl rfl rfl rfl rfl (hH.r 904 121 972 rfl) ?_
        refine l_iload_n rfl rfl ?_
        refine l_iaload (n := 2400) rfl rfl (by omega) (by omega) (by unfold rg; omega) ?_
        have w80 : -1 ≤ (Xi S 972 ((q).toNat)) ∧ (Xi S 972 ((q).toNat)) ≤ 11 := hH.c _ _
        refine l_istore rfl rfl rfl ?_
        refine l_aload_n rfl rfl ?_
        refine l_gfr rfl rfl rfl rfl rfl (hH.r 904 35 930 rfl) ?_
        refine l_bipush rfl rfl ?_
        refine l_iload_n rfl rfl ?_
        refine l_imul rfl ?_
        refine l_iload rfl rfl ?_
        refine l_iadd rfl ?_
        refine l_iconst rfl ?_
        refine l_bastoreZ1 (n := 288) rfl rfl (by omega) (by omega) (by unfold rg; omega) ⟨by omega, by omega⟩ ?_
        obtain ⟨U23, eU23⟩ : ∃ T : sS, T = uI S 930 ((((12 * z72) + (Xi S 972 ((q).toNat)))).toNat) (Int32.ofInt 1) := ⟨_, rfl⟩
        rw [← eU23]
        have hHU23 : HI U23 := by rw [eU23]; exact HI_w hH (show 0 ≤ 1 by omega) (show 1 ≤ 1 by omega)
        have hFU23 : FR md_mo_nows S U23 := by rw [eU23]; exact FR.wI hF (mdf_i (r := (930, 931, 0, 100000)) (List.mem_of_getElem? (i := 1) rfl) (inR_i (by omega) (by omega) (by omega) (by omega)))
        have w81 : Xi U23 930 ((((12 * z72) + (Xi S 972 ((q).toNat)))).toNat) = 1 := by rw [eU23]; exact Xi_same (by unfold rg; omega)
        refine l_aload_n rfl rfl ?_
        refine l_gfr rfl rfl rfl rfl rfl (hHU23.r 904 36 931 rfl) ?_
        refine l_bipush rfl rfl ?_
        refine l_iload_n rfl rfl ?_
        refine l_imul rfl ?_
        refine l_iload rfl rfl ?_
        refine l_iadd rfl ?_
        refine l_aload_n rfl rfl ?_
        refine l_gfr rfl rfl rfl rfl rfl (hHU23.r 904 118 969 rfl) ?_
        refine l_iload_n rfl rfl ?_
        refine l_iaload (n := 2400) rfl rfl (by omega) (by omega) (by unfold rg; omega) ?_
        have w82 : (Xi U23 969 ((q).toNat)) = (Xi S 969 ((q).toNat)) := (show Xi U23 969 ((q).toNat) = Xi S 969 ((q).toNat) from by rw [eU23]; exact Xi_ne (by omega))
        rw [w82]
        refine l_iconst rfl ?_
        refine l_icmp_ne rfl rfl (by unfold rg; omega) (by unfold rg; omega) (fun w83 => ?_) (fun w84 => ?_)
        · refine l_aload_n rfl rfl ?_
          refine l_gfr rfl rfl rfl rfl rfl (hHU23.r 904 122 973 rfl) ?_
          refine l_iload_n rfl rfl ?_
          refine l_iaload (n := 2400) rfl rfl (by omega) (by omega) (by unfold rg; omega) ?_
          have w85 : -2147483648 ≤ (Xi U23 973 ((q).toNat)) ∧ (Xi U23 973 ((q).toNat)) ≤ 2147483647 := Xi_rgI
          have e383 : (Xi U23 973 ((q).toNat)) = Xi S 973 q.toNat := by first | rfl | exact (hFU23.cx 973 rfl _).1
          refine l_iastore (n := 288) rfl rfl (by omega) (by omega) (by unfold rg; omega) ?_
          obtain ⟨U24, eU24⟩ : ∃ T : sS, T = uI U23 931 ((((12 * z72) + (Xi S 972 ((q).toNat)))).toNat) (Int32.ofInt (Xi U23 973 ((q).toNat))) := ⟨_, rfl⟩
          rw [← eU24]
          have hHU24 : HI U24 := by rw [eU24]; exact HI_any hHU23 (rfl)
          have hFU24 : FR md_mo_nows S U24 := by rw [eU24]; exact FR.wI hFU23 (mdf_i (r := (931, 932, 0, 100000)) (List.mem_of_getElem? (i := 2) rfl) (inR_i (by omega) (by omega) (by omega) (by omega)))
          have w86 : Xi U24 931 ((((12 * z72) + (Xi S 972 ((q).toNat)))).toNat) = (Xi U23 973 ((q).toNat)) := by rw [eU24]; exact Xi_same (by unfold rg; omega)
          refine l_aload_n rfl rfl ?_
          refine l_gfr rfl rfl rfl rfl rfl (hHU24.r 904 37 932 rfl) ?_
          refine l_bipush rfl rfl ?_
          refine l_iload_n rfl rfl ?_
          refine l_imul rfl ?_
          refine l_iload rfl rfl ?_
          refine l_iadd rfl ?_
          refine l_aload_n rfl rfl ?_
          refine l_gfr rfl rfl rfl rfl rfl (hHU24.r 904 118 969 rfl) ?_
          refine l_iload_n rfl rfl ?_
          refine l_iaload (n := 2400) rfl rfl (by omega) (by omega) (by unfold rg; omega) ?_
          have w87 : (Xi U24 969 ((q).toNat)) = (Xi S 969 ((q).toNat)) := (show Xi U24 969 ((q).toNat) = Xi U23 969 ((q).toNat) from by rw [eU24]; exact Xi_ne (by omega)).trans ((show Xi U23 969 ((q).toNat) = Xi S 969 ((q).toNat) from by rw [eU23]; exact Xi_ne (by omega)))
          rw [w87]
          refine l_iconst rfl ?_
          refine l_icmp_ne rfl rfl (by unfold rg; omega) (by unfold rg; omega) (fun w88 => ?_) (fun w89 => ?_)
          · refine l_aload_n rfl rfl ?_
            refine l_gfr rfl rfl rfl rfl rfl (hHU24.r 904 123 974 rfl) ?_
            refine l_iload_n rfl rfl ?_
            refine l_iaload (n := 2400) rfl rfl (by omega) (by omega) (by unfold rg; omega) ?_
            have w90 : -2147483648 ≤ (Xi U24 974 ((q).toNat)) ∧ (Xi U24 974 ((q).toNat)) ≤ 2147483647 := Xi_rgI
            have e415 : (Xi U24 974 ((q).toNat)) = Xi S 974 q.toNat := by first | rfl | exact (hFU24.cx 974 rfl _).1
            refine l_iastore (n := 288) rfl rfl (by omega) (by omega) (by unfold rg; omega) ?_
            obtain ⟨U25, eU25⟩ : ∃ T : sS, T = uI U24 932 ((((12 * z72) + (Xi S 972 ((q).toNat)))).toNat) (Int32.ofInt (Xi U24 974 ((q).toNat))) := ⟨_, rfl⟩
            rw [← eU25]
            have hHU25 : HI U25 := by rw [eU25]; exact HI_any hHU24 (rfl)
            have hFU25 : FR md_mo_nows S U25 := by rw [eU25]; exact FR.wI hFU24 (mdf_i (r := (932, 933, 0, 100000)) (List.mem_of_getElem? (i := 3) rfl) (inR_i (by omega) (by omega) (by omega) (by omega)))
            have w91 : Xi U25 932 ((((12 * z72) + (Xi S 972 ((q).toNat)))).toNat) = (Xi U24 974 ((q).toNat)) := by rw [eU25]; exact Xi_same (by unfold rg; omega)
            have x416 : TXM U25 := txm_w (o := z72) (p := (Xi S 972 ((q).toNat))) eU23 eU24 eU25 rfl (by omega) (by omega) (by omega) (by omega) (by unfold rg; omega) (by unfold rg; omega) (fun _ => by first | exact Or.inl (by omega) | exact okt_2 (hk1.2.2.2.2 (by omega)) (by omega) (by omega)) hX
            refine l_return rfl rfl ?_
            exact ⟨hHU25, hFU25, rfl, (by first | exact x416 | assumption | exact TXM_FR (FR_e eU25) rfl (by first | assumption | exact TXM_FR (FR_e eU24) rfl hX))⟩
          · refine l_iconst rfl ?_
            refine l_goto rfl rfl ?_
            refine l_iastore (n := 288) rfl rfl (by omega) (by omega) (by unfold rg; omega) ?_
            obtain ⟨U26, eU26⟩ : ∃ T : sS, T = uI U24 932 ((((12 * z72) + (Xi S 972 ((q).toNat)))).toNat) (Int32.ofInt 0) := ⟨_, rfl⟩
            rw [← eU26]
            have hHU26 : HI U26 := by rw [eU26]; exact HI_any hHU24 (rfl)
            have hFU26 : FR md_mo_nows S U26 := by rw [eU26]; exact FR.wI hFU24 (mdf_i (r := (932, 933, 0, 100000)) (List.mem_of_getElem? (i := 3) rfl) (inR_i (by omega) (by omega) (by omega) (by omega)))
            have w92 : Xi U26 932 ((((12 * z72) + (Xi S 972 ((q).toNat)))).toNat) = 0 := by rw [eU26]; exact Xi_same (by unfold rg; omega)
            have x416 : TXM U26 := txm_w (o := z72) (p := (Xi S 972 ((q).toNat))) eU23 eU24 eU26 rfl (by omega) (by omega) (by omega) (by omega) (by unfold rg; omega) (by unfold rg; omega) (fun _ => by first | exact Or.inl (by omega) | exact okt_2 (hk1.2.2.2.2 (by omega)) (by omega) (by omega)) hX
            refine l_return rfl rfl ?_
            exact ⟨hHU26, hFU26, rfl, (by first | exact x416 | assumption | exact TXM_FR (FR_e eU26) rfl (by first | assumption | exact TXM_FR (FR_e eU24) rfl hX))⟩
        · refine l_aload_n rfl rfl ?_
          refine l_gfr rfl rfl rfl rfl rfl (hHU23.r 904 122 973 rfl) ?_
          refine l_iload_n rfl rfl ?_
          refine l_iaload (n := 2400) rfl rfl (by omega) (by omega) (by unfold rg; omega) ?_
          have w93 : -2147483648 ≤ (Xi U23 973 ((q).toNat)) ∧ (Xi U23 973 ((q).toNat)) ≤ 2147483647 := Xi_rgI
          refine l_bipush rfl rfl ?_
          refine l_idivP rfl (by omega) (by omega) (by unfold rg; omega) (by unfold rg; omega) ?_
          refine l_iconst rfl ?_
          refine l_isub rfl ?_
          refine l_goto rfl rfl ?_
          refine l_iastore (n := 288) rfl rfl (by omega) (by omega) (by unfold rg; omega) ?_
          obtain ⟨U27, eU27⟩ : ∃ T : sS, T = uI U23 931 ((((12 * z72) + (Xi S 972 ((q).toNat)))).toNat) (Int32.ofInt (((Xi U23 973 ((q).toNat)) / 100) - 1)) := ⟨_, rfl⟩
          rw [← eU27]
          have hHU27 : HI U27 := by rw [eU27]; exact HI_any hHU23 (rfl)
          have hFU27 : FR md_mo_nows S U27 := by rw [eU27]; exact FR.wI hFU23 (mdf_i (r := (931, 932, 0, 100000)) (List.mem_of_getElem? (i := 2) rfl) (inR_i (by omega) (by omega) (by omega) (by omega)))
          have w95 : Xi U27 931 ((((12 * z72) + (Xi S 972 ((q).toNat)))).toNat) = (((Xi U23 973 ((q).toNat)) / 100) - 1) := by rw [eU27]; exact Xi_same (by unfold rg; omega)
          refine l_aload_n rfl rfl ?_
          refine l_gfr rfl rfl rfl rfl rfl (hHU27.r 904 37 932 rfl) ?_
          refine l_bipush rfl rfl ?_
          refine l_iload_n rfl rfl ?_
          refine l_imul rfl ?_
          refine l_iload rfl rfl ?_
          refine l_iadd rfl ?_
          refine l_aload_n rfl rfl ?_
          refine l_gfr rfl rfl rfl rfl rfl (hHU27.r 904 118 969 rfl) ?_
          refine l_iload_n rfl rfl ?_
          refine l_iaload (n := 2400) rfl rfl (by omega) (by omega) (by unfold rg; omega) ?_
          have w96 : (Xi U27 969 ((q).toNat)) = (Xi S 969 ((q).toNat)) := (show Xi U27 969 ((q).toNat) = Xi U23 969 ((q).toNat) from by rw [eU27]; exact Xi_ne (by omega)).trans ((show Xi U23 969 ((q).toNat) = Xi S 969 ((q).toNat) from by rw [eU23]; exact Xi_ne (by omega)))
          rw [w96]
          refine l_iconst rfl ?_
          refine l_icmp_ne rfl rfl (by unfold rg; omega) (by unfold rg; omega) (fun w97 => ?_) (fun w98 => ?_)
          · refine l_aload_n rfl rfl ?_
            refine l_gfr rfl rfl rfl rfl rfl (hHU27.r 904 123 974 rfl) ?_
            refine l_iload_n rfl rfl ?_
            refine l_iaload (n := 2400) rfl rfl (by omega) (by omega) (by unfold rg; omega) ?_
            have w99 : -2147483648 ≤ (Xi U27 974 ((q).toNat)) ∧ (Xi U27 974 ((q).toNat)) ≤ 2147483647 := Xi_rgI
            have e415 : (Xi U27 974 ((q).toNat)) = Xi S 974 q.toNat := by first | rfl | exact (hFU27.cx 974 rfl _).1
            refine l_iastore (n := 288) rfl rfl (by omega) (by omega) (by unfold rg; omega) ?_
            obtain ⟨U28, eU28⟩ : ∃ T : sS, T = uI U27 932 ((((12 * z72) + (Xi S 972 ((q).toNat)))).toNat) (Int32.ofInt (Xi U27 974 ((q).toNat))) := ⟨_, rfl⟩
            rw [← eU28]
            have hHU28 : HI U28 := by rw [eU28]; exact HI_any hHU27 (rfl)
            have hFU28 : FR md_mo_nows S U28 := by rw [eU28]; exact FR.wI hFU27 (mdf_i (r := (932, 933, 0, 100000)) (List.mem_of_getElem? (i := 3) rfl) (inR_i (by omega) (by omega) (by omega) (by omega)))
            have w100 : Xi U28 932 ((((12 * z72) + (Xi S 972 ((q).toNat)))).toNat) = (Xi U27 974 ((q).toNat)) := by rw [eU28]; exact Xi_same (by unfold rg; omega)
            have x416 : TXM U28 := txm_w (o := z72) (p := (Xi S 972 ((q).toNat))) eU23 eU27 eU28 rfl (by omega) (by omega) (by omega) (by omega) (by unfold rg; omega) (by unfold rg; omega) (fun _ => by first | exact Or.inl (by omega) | exact okt_2 (hk1.2.2.2.2 (by omega)) (by omega) (by omega)) hX
            refine l_return rfl rfl ?_
            exact ⟨hHU28, hFU28, rfl, (by first | exact x416 | assumption | exact TXM_FR (FR_e eU28) rfl (by first | assumption | exact TXM_FR (FR_e eU27) rfl hX))⟩
          · refine l_iconst rfl ?_
            refine l_goto rfl rfl ?_
            refine l_iastore (n := 288) rfl rfl (by omega) (by omega) (by unfold rg; omega) ?_
            obtain ⟨U29, eU29⟩ : ∃ T : sS, T = uI U27 932 ((((12 * z72) + (Xi S 972 ((q).toNat)))).toNat) (Int32.ofInt 0) := ⟨_, rfl⟩
            rw [← eU29]
            have hHU29 : HI U29 := by rw [eU29]; exact HI_any hHU27 (rfl)
            have hFU29 : FR md_mo_nows S U29 := by rw [eU29]; exact FR.wI hFU27 (mdf_i (r := (932, 933, 0, 100000)) (List.mem_of_getElem? (i := 3) rfl) (inR_i (by omega) (by omega) (by omega) (by omega)))
            have w101 : Xi U29 932 ((((12 * z72) + (Xi S 972 ((q).toNat)))).toNat) = 0 := by rw [eU29]; exact Xi_same (by unfold rg; omega)
            have x416 : TXM U29 := txm_w (o := z72) (p := (Xi S 972 ((q).toNat))) eU23 eU27 eU29 rfl (by omega) (by omega) (by omega) (by omega) (by unfold rg; omega) (by unfold rg; omega) (fun _ => by first | exact Or.inl (by omega) | exact okt_2 (hk1.2.2.2.2 (by omega)) (by omega) (by omega)) hX
            refine l_return rfl rfl ?_
            exact ⟨hHU29, hFU29, rfl, (by first | exact x416 | assumption | exact TXM_FR (FR_e eU29) rfl (by first | assumption | exact TXM_FR (FR_e eU27) rfl hX))⟩
      · refine l_aload_n rfl rfl ?_
        refine l_gfr rfl rfl rfl rfl rfl (hH.r 904 122 973 rfl) ?_
        refine l_iload_n rfl rfl ?_
        refine l_iaload (n := 2400) rfl rfl (by omega) (by omega) (by unfold rg; omega) ?_
        have w102 : -2147483648 ≤ (Xi S 973 ((q).toNat)) ∧ (Xi S 973 ((q).toNat)) ≤ 2147483647 := Xi_rgI
        refine l_bipush rfl rfl ?_
        refine l_iremA rfl (by omega) (by unfold rg; omega) (by unfold rg; omega) (fun c103 w103 w103b w103c => ?_)
        refine l_goto rfl rfl ?_
        refine l_istore rfl rfl rfl ?_
        refine l_aload_n rfl rfl ?_
        refine l_gfr rfl rfl rfl rfl rfl (hH.r 904 35 930 rfl) ?_
        refine l_bipush rfl rfl ?_
        refine l_iload_n rfl rfl ?_
        refine l_imul rfl ?_
        refine l_iload rfl rfl ?_
        refine l_iadd rfl ?_
        refine l_iconst rfl ?_
        refine l_bastoreZ1 (n := 288) rfl rfl (by omega) (by omega) (by unfold rg; omega) ⟨by omega, by omega⟩ ?_
        obtain ⟨U30, eU30⟩ : ∃ T : sS, T = uI S 930 ((((12 * z72) + c103)).toNat) (Int32.ofInt 1) := ⟨_, rfl⟩
        rw [← eU30]
        have hHU30 : HI U30 := by rw [eU30]; exact HI_w hH (show 0 ≤ 1 by omega) (show 1 ≤ 1 by omega)
        have hFU30 : FR md_mo_nows S U30 := by rw [eU30]; exact FR.wI hF (mdf_i (r := (930, 931, 0, 100000)) (List.mem_of_getElem? (i := 1) rfl) (inR_i (by omega) (by omega) (by omega) (by omega)))
        have w104 : Xi U30 930 ((((12 * z72) + c103)).toNat) = 1 := by rw [eU30]; exact Xi_same (by unfold rg; omega)
        refine l_aload_n rfl rfl ?_
        refine l_gfr rfl rfl rfl rfl rfl (hHU30.r 904 36 931 rfl) ?_
        refine l_bipush rfl rfl ?_
        refine l_iload_n rfl rfl ?_
        refine l_imul rfl ?_
        refine l_iload rfl rfl ?_
        refine l_iadd rfl ?_
        refine l_aload_n rfl rfl ?_
        refine l_gfr rfl rfl rfl rfl rfl (hHU30.r 904 118 969 rfl) ?_
        refine l_iload_n rfl rfl ?_
        refine l_iaload (n := 2400) rfl rfl (by omega) (by omega) (by unfold rg; omega) ?_
        have w105 : (Xi U30 969 ((q).toNat)) = (Xi S 969 ((q).toNat)) := (show Xi U30 969 ((q).toNat) = Xi S 969 ((q).toNat) from by rw [eU30]; exact Xi_ne (by omega))
        rw [w105]
        refine l_iconst rfl ?_
        refine l_icmp_ne rfl rfl (by unfold rg; omega) (by unfold rg; omega) (fun w106 => ?_) (fun w107 => ?_)
        · refine l_aload_n rfl rfl ?_
          refine l_gfr rfl rfl rfl rfl rfl (hHU30.r 904 122 973 rfl) ?_
          refine l_iload_n rfl rfl ?_
          refine l_iaload (n := 2400) rfl rfl (by omega) (by omega) (by unfold rg; omega) ?_
          have w108 : (Xi U30 973 ((q).toNat)) = (Xi S 973 ((q).toNat)) := (show Xi U30 973 ((q).toNat) = Xi S 973 ((q).toNat) from by rw [eU30]; exact Xi_ne (by omega))
          rw [w108]
          have e383 : (Xi S 973 ((q).toNat)) = Xi S 973 q.toNat := by first | rfl | exact (hFU30.cx 973 rfl _).1
          refine l_iastore (n := 288) rfl rfl (by omega) (by omega) (by unfold rg; omega) ?_
          obtain ⟨U31, eU31⟩ : ∃ T : sS, T = uI U30 931 ((((12 * z72) + c103)).toNat) (Int32.ofInt (Xi S 973 ((q).toNat))) := ⟨_, rfl⟩
          rw [← eU31]
          have hHU31 : HI U31 := by rw [eU31]; exact HI_any hHU30 (rfl)
          have hFU31 : FR md_mo_nows S U31 := by rw [eU31]; exact FR.wI hFU30 (mdf_i (r := (931, 932, 0, 100000)) (List.mem_of_getElem? (i := 2) rfl) (inR_i (by omega) (by omega) (by omega) (by omega)))
          have w109 : Xi U31 931 ((((12 * z72) + c103)).toNat) = (Xi S 973 ((q).toNat)) := by rw [eU31]; exact Xi_same (by unfold rg; omega)
          refine l_aload_n rfl rfl ?_
          refine l_gfr rfl rfl rfl rfl rfl (hHU31.r 904 37 932 rfl) ?_
          refine l_bipush rfl rfl ?_
          refine l_iload_n rfl rfl ?_
          refine l_imul rfl ?_
          refine l_iload rfl rfl ?_
          refine l_iadd rfl ?_
          refine l_aload_n rfl rfl ?_
          refine l_gfr rfl rfl rfl rfl rfl (hHU31.r 904 118 969 rfl) ?_
          refine l_iload_n rfl rfl ?_
          refine l_iaload (n := 2400) rfl rfl (by omega) (by omega) (by unfold rg; omega) ?_
          have w110 : (Xi U31 969 ((q).toNat)) = (Xi S 969 ((q).toNat)) := (show Xi U31 969 ((q).toNat) = Xi U30 969 ((q).toNat) from by rw [eU31]; exact Xi_ne (by omega)).trans ((show Xi U30 969 ((q).toNat) = Xi S 969 ((q).toNat) from by rw [eU30]; exact Xi_ne (by omega)))
          rw [w110]
          refine l_iconst rfl ?_
          refine l_icmp_ne rfl rfl (by unfold rg; omega) (by unfold rg; omega) (fun w111 => ?_) (fun w112 => ?_)
          · refine l_aload_n rfl rfl ?_
            refine l_gfr rfl rfl rfl rfl rfl (hHU31.r 904 123 974 rfl) ?_
            refine l_iload_n rfl rfl ?_
            refine l_iaload (n := 2400) rfl rfl (by omega) (by omega) (by unfold rg; omega) ?_
            have w113 : -2147483648 ≤ (Xi U31 974 ((q).toNat)) ∧ (Xi U31 974 ((q).toNat)) ≤ 2147483647 := Xi_rgI
            have e415 : (Xi U31 974 ((q).toNat)) = Xi S 974 q.toNat := by first | rfl | exact (hFU31.cx 974 rfl _).1
            refine l_iastore (n := 288) rfl rfl (by omega) (by omega) (by unfold rg; omega) ?_
            obtain ⟨U32, eU32⟩ : ∃ T : sS, T = uI U31 932 ((((12 * z72) + c103)).toNat) (Int32.ofInt (Xi U31 974 ((q).toNat))) := ⟨_, rfl⟩
            rw [← eU32]
            have hHU32 : HI U32 := by rw [eU32]; exact HI_any hHU31 (rfl)
            have hFU32 : FR md_mo_nows S U32 := by rw [eU32]; exact FR.wI hFU31 (mdf_i (r := (932, 933, 0, 100000)) (List.mem_of_getElem? (i := 3) rfl) (inR_i (by omega) (by omega) (by omega) (by omega)))
            have w114 : Xi U32 932 ((((12 * z72) + c103)).toNat) = (Xi U31 974 ((q).toNat)) := by rw [eU32]; exact Xi_same (by unfold rg; omega)
            have x416 : TXM U32 := txm_w (o := z72) (p := c103) eU30 eU31 eU32 rfl (by omega) (by omega) (by omega) (by omega) (by unfold rg; omega) (by unfold rg; omega) (fun _ => by first | exact Or.inl (by omega) | exact okt_2 (hk1.2.2.2.2 (by omega)) (by omega) (by omega)) hX
            refine l_return rfl rfl ?_
            exact ⟨hHU32, hFU32, rfl, (by first | exact x416 | assumption | exact TXM_FR (FR_e eU32) rfl (by first | assumption | exact TXM_FR (FR_e eU31) rfl hX))⟩
          · refine l_iconst rfl ?_
            refine l_goto rfl rfl ?_
            refine l_iastore (n := 288) rfl rfl (by omega) (by omega) (by unfold rg; omega) ?_
            obtain ⟨U33, eU33⟩ : ∃ T : sS, T = uI U31 932 ((((12 * z72) + c103)).toNat) (Int32.ofInt 0) := ⟨_, rfl⟩
            rw [← eU33]
            have hHU33 : HI U33 := by rw [eU33]; exact HI_any hHU31 (rfl)
            have hFU33 : FR md_mo_nows S U33 := by rw [eU33]; exact FR.wI hFU31 (mdf_i (r := (932, 933, 0, 100000)) (List.mem_of_getElem? (i := 3) rfl) (inR_i (by omega) (by omega) (by omega) (by omega)))
            have w115 : Xi U33 932 ((((12 * z72) + c103)).toNat) = 0 := by rw [eU33]; exact Xi_same (by unfold rg; omega)
            have x416 : TXM U33 := txm_w (o := z72) (p := c103) eU30 eU31 eU33 rfl (by omega) (by omega) (by omega) (by omega) (by unfold rg; omega) (by unfold rg; omega) (fun _ => by first | exact Or.inl (by omega) | exact okt_2 (hk1.2.2.2.2 (by omega)) (by omega) (by omega)) hX
            refine l_return rfl rfl ?_
            exact ⟨hHU33, hFU33, rfl, (by first | exact x416 | assumption | exact TXM_FR (FR_e eU33) rfl (by first | assumption | exact TXM_FR (FR_e eU31) rfl hX))⟩
        · refine l_aload_n rfl rfl ?_
          refine l_gfr rfl rfl rfl rfl rfl (hHU30.r 904 122 973 rfl) ?_
          refine l_iload_n rfl rfl ?_
          refine l_iaload (n := 2400) rfl rfl (by omega) (by omega) (by unfold rg; omega) ?_
          have w116 : (Xi U30 973 ((q).toNat)) = (Xi S 973 ((q).toNat)) := (show Xi U30 973 ((q).toNat) = Xi S 973 ((q).toNat) from by rw [eU30]; exact Xi_ne (by omega))
          rw [w116]
          refine l_bipush rfl rfl ?_
          refine l_idivP rfl (by omega) (by omega) (by unfold rg; omega) (by unfold rg; omega) ?_
          refine l_iconst rfl ?_
          refine l_isub rfl ?_
          refine l_goto rfl rfl ?_
          refine l_iastore (n := 288) rfl rfl (by omega) (by omega) (by unfold rg; omega) ?_
          obtain ⟨U34, eU34⟩ : ∃ T : sS, T = uI U30 931 ((((12 * z72) + c103)).toNat) (Int32.ofInt (((Xi S 973 ((q).toNat)) / 100) - 1)) := ⟨_, rfl⟩
          rw [← eU34]
          have hHU34 : HI U34 := by rw [eU34]; exact HI_any hHU30 (rfl)
          have hFU34 : FR md_mo_nows S U34 := by rw [eU34]; exact FR.wI hFU30 (mdf_i (r := (931, 932, 0, 100000)) (List.mem_of_getElem? (i := 2) rfl) (inR_i (by omega) (by omega) (by omega) (by omega)))
          have w118 : Xi U34 931 ((((12 * z72) + c103)).toNat) = (((Xi S 973 ((q).toNat)) / 100) - 1) := by rw [eU34]; exact Xi_same (by unfold rg; omega)
          refine l_aload_n rfl rfl ?_
          refine l_gfr rfl rfl rfl rfl rfl (hHU34.r 904 37 932 rfl) ?_
          refine l_bipush rfl rfl ?_
          refine l_iload_n rfl rfl ?_
          refine l_imul rfl ?_
          refine l_iload rfl rfl ?_
          refine l_iadd rfl ?_
          refine l_aload_n rfl rfl ?_
          refine l_gfr rfl rfl rfl rfl rfl (hHU34.r 904 118 969 rfl) ?_
          refine l_iload_n rfl rfl ?_
          refine l_iaload (n := 2400) rfl rfl (by omega) (by omega) (by unfold rg; omega) ?_
          have w119 : (Xi U34 969 ((q).toNat)) = (Xi S 969 ((q).toNat)) := (show Xi U34 969 ((q).toNat) = Xi U30 969 ((q).toNat) from by rw [eU34]; exact Xi_ne (by omega)).trans ((show Xi U30 969 ((q).toNat) = Xi S 969 ((q).toNat) from by rw [eU30]; exact Xi_ne (by omega)))
          rw [w119]
          refine l_iconst rfl ?_
          refine l_icmp_ne rfl rfl (by unfold rg; omega) (by unfold rg; omega) (fun w120 => ?_) (fun w121 => ?_)
          · refine l_aload_n rfl rfl ?_
            refine l_gfr rfl rfl rfl rfl rfl (hHU34.r 904 123 974 rfl) ?_
            refine l_iload_n rfl rfl ?_
            refine l_iaload (n := 2400) rfl rfl (by omega) (by omega) (by unfold rg; omega) ?_
            have w122 : -2147483648 ≤ (Xi U34 974 ((q).toNat)) ∧ (Xi U34 974 ((q).toNat)) ≤ 2147483647 := Xi_rgI
            have e415 : (Xi U34 974 ((q).toNat)) = Xi S 974 q.toNat := by first | rfl | exact (hFU34.cx 974 rfl _).1
            refine l_iastore (n := 288) rfl rfl (by omega) (by omega) (by unfold rg; omega) ?_
            obtain ⟨U35, eU35⟩ : ∃ T : sS, T = uI U34 932 ((((12 * z72) + c103)).toNat) (Int32.ofInt (Xi U34 974 ((q).toNat))) := ⟨_, rfl⟩
            rw [← eU35]
            have hHU35 : HI U35 := by rw [eU35]; exact HI_any hHU34 (rfl)
            have hFU35 : FR md_mo_nows S U35 := by rw [eU35]; exact FR.wI hFU34 (mdf_i (r := (932, 933, 0, 100000)) (List.mem_of_getElem? (i := 3) rfl) (inR_i (by omega) (by omega) (by omega) (by omega)))
            have w123 : Xi U35 932 ((((12 * z72) + c103)).toNat) = (Xi U34 974 ((q).toNat)) := by rw [eU35]; exact Xi_same (by unfold rg; omega)
            have x416 : TXM U35 := txm_w (o := z72) (p := c103) eU30 eU34 eU35 rfl (by omega) (by omega) (by omega) (by omega) (by unfold rg; omega) (by unfold rg; omega) (fun _ => by first | exact Or.inl (by omega) | exact okt_2 (hk1.2.2.2.2 (by omega)) (by omega) (by omega)) hX
            refine l_return rfl rfl ?_
            exact ⟨hHU35, hFU35, rfl, (by first | exact x416 | assumption | exact TXM_FR (FR_e eU35) rfl (by first | assumption | exact TXM_FR (FR_e eU34) rfl hX))⟩
          · refine l_iconst rfl ?_
            refine l_goto rfl rfl ?_
            refine l_iastore (n := 288) rfl rfl (by omega) (by omega) (by unfold rg; omega) ?_
            obtain ⟨U36, eU36⟩ : ∃ T : sS, T = uI U34 932 ((((12 * z72) + c103)).toNat) (Int32.ofInt 0) := ⟨_, rfl⟩
            rw [← eU36]
            have hHU36 : HI U36 := by rw [eU36]; exact HI_any hHU34 (rfl)
            have hFU36 : FR md_mo_nows S U36 := by rw [eU36]; exact FR.wI hFU34 (mdf_i (r := (932, 933, 0, 100000)) (List.mem_of_getElem? (i := 3) rfl) (inR_i (by omega) (by omega) (by omega) (by omega)))
            have w124 : Xi U36 932 ((((12 * z72) + c103)).toNat) = 0 := by rw [eU36]; exact Xi_same (by unfold rg; omega)
            have x416 : TXM U36 := txm_w (o := z72) (p := c103) eU30 eU34 eU36 rfl (by omega) (by omega) (by omega) (by omega) (by unfold rg; omega) (by unfold rg; omega) (fun _ => by first | exact Or.inl (by omega) | exact okt_2 (hk1.2.2.2.2 (by omega)) (by omega) (by omega)) hX
            refine l_return rfl rfl ?_
            exact ⟨hHU36, hFU36, rfl, (by first | exact x416 | assumption | exact TXM_FR (FR_e eU36) rfl (by first | assumption | exact TXM_FR (FR_e eU34) rfl hX))⟩
    · refine l_aload_n rfl rfl ?_
      refine l_gfr rfl rfl rfl rfl rfl (hH.r 904 122 973 rfl) ?_
      refine l_iload_n rfl rfl ?_
      refine l_iaload (n := 2400) rfl rfl (by omega) (by omega) (by unfold rg; omega) ?_
      have w125 : -2147483648 ≤ (Xi S 973 ((q).toNat)) ∧ (Xi S 973 ((q).toNat)) ≤ 2147483647 := Xi_rgI
      refine l_bipush rfl rfl ?_
      refine l_icmp_ge rfl rfl (by unfold rg; omega) (by unfold rg; omega) (fun w126 => ?_) (fun w127 => ?_)
      · refine l_aload_n rfl rfl ?_
        refine l_gfr rfl rfl rfl rfl rfl (hH.r 904 118 969 rfl) ?_
        refine l_iload_n rfl rfl ?_
        refine l_iaload (n := 2400) rfl rfl (by omega) (by omega) (by unfold rg; omega) ?_
        refine l_iconst rfl ?_
        refine l_icmp_ne rfl rfl (by unfold rg; omega) (by unfold rg; omega) (fun w128 => ?_) (fun w129 => ?_)
        · refine l_aload_n rfl rfl ?_
          refine l_gfr rfl rfl rfl rfl rfl (hH.r 904 121 972 rfl) ?_
          refine l_iload_n rfl rfl ?_
          refine l_iaload (n := 2400) rfl rfl (by omega) (by omega) (by unfold rg; omega) ?_
          have w130 : -1 ≤ (Xi S 972 ((q).toNat)) ∧ (Xi S 972 ((q).toNat)) ≤ 11 := hH.c _ _
          refine l_istore rfl rfl rfl ?_
          refine l_aload_n rfl rfl ?_
          refine l_gfr rfl rfl rfl rfl rfl (hH.r 904 35 930 rfl) ?_
          refine l_bipush rfl rfl ?_
          refine l_iload_n rfl rfl ?_
          refine l_imul rfl ?_
          refine l_iload rfl rfl ?_
          refine l_iadd rfl ?_
          refine l_iconst rfl ?_
          refine l_bastoreZ1 (n := 288) rfl rfl (by omega) (by omega) (by unfold rg; omega) ⟨by omega, by omega⟩ ?_
          obtain ⟨U37, eU37⟩ : ∃ T : sS, T = uI S 930 ((((12 * z72) + (Xi S 972 ((q).toNat)))).toNat) (Int32.ofInt 1) := ⟨_, rfl⟩
          rw [← eU37]
          have hHU37 : HI U37 := by rw [eU37]; exact HI_w hH (show 0 ≤ 1 by omega) (show 1 ≤ 1 by omega)
          have hFU37 : FR md_mo_nows S U37 := by rw [eU37]; exact FR.wI hF (mdf_i (r := (930, 931, 0, 100000)) (List.mem_of_getElem? (i := 1) rfl) (inR_i (by omega) (by omega) (by omega) (by omega)))
          have w131 : Xi U37 930 ((((12 * z72) + (Xi S 972 ((q).toNat)))).toNat) = 1 := by rw [eU37]; exact Xi_same (by unfold rg; omega)
          refine l_aload_n rfl rfl ?_
          refine l_gfr rfl rfl rfl rfl rfl (hHU37.r 904 36 931 rfl) ?_
          refine l_bipush rfl rfl ?_
          refine l_iload_n rfl rfl ?_
          refine l_imul rfl ?_
          refine l_iload rfl rfl ?_
          refine l_iadd rfl ?_
          refine l_aload_n rfl rfl ?_
          refine l_gfr rfl rfl rfl rfl rfl (hHU37.r 904 118 969 rfl) ?_
          refine l_iload_n rfl rfl ?_
          refine l_iaload (n := 2400) rfl rfl (by omega) (by omega) (by unfold rg; omega) ?_
          have w132 : (Xi U37 969 ((q).toNat)) = (Xi S 969 ((q).toNat)) := (show Xi U37 969 ((q).toNat) = Xi S 969 ((q).toNat) from by rw [eU37]; exact Xi_ne (by omega))
          rw [w132]
          refine l_iconst rfl ?_
          refine l_icmp_ne rfl rfl (by unfold rg; omega) (by unfold rg; omega) (fun w133 => ?_) (fun w134 => ?_)
          · refine l_aload_n rfl rfl ?_
            refine l_gfr rfl rfl rfl rfl rfl (hHU37.r 904 122 973 rfl) ?_
            refine l_iload_n rfl rfl ?_
            refine l_iaload (n := 2400) rfl rfl (by omega) (by omega) (by unfold rg; omega) ?_
            have w135 : (Xi U37 973 ((q).toNat)) = (Xi S 973 ((q).toNat)) := (show Xi U37 973 ((q).toNat) = Xi S 973 ((q).toNat) from by rw [eU37]; exact Xi_ne (by omega))
            rw [w135]
            have e383 : (Xi S 973 ((q).toNat)) = Xi S 973 q.toNat := by first | rfl | exact (hFU37.cx 973 rfl _).1
            refine l_iastore (n := 288) rfl rfl (by omega) (by omega) (by unfold rg; omega) ?_
            obtain ⟨U38, eU38⟩ : ∃ T : sS, T = uI U37 931 ((((12 * z72) + (Xi S 972 ((q).toNat)))).toNat) (Int32.ofInt (Xi S 973 ((q).toNat))) := ⟨_, rfl⟩
            rw [← eU38]
            have hHU38 : HI U38 := by rw [eU38]; exact HI_any hHU37 (rfl)
            have hFU38 : FR md_mo_nows S U38 := by rw [eU38]; exact FR.wI hFU37 (mdf_i (r := (931, 932, 0, 100000)) (List.mem_of_getElem? (i := 2) rfl) (inR_i (by omega) (by omega) (by omega) (by omega)))
            have w136 : Xi U38 931 ((((12 * z72) + (Xi S 972 ((q).toNat)))).toNat) = (Xi S 973 ((q).toNat)) := by rw [eU38]; exact Xi_same (by unfold rg; omega)
            refine l_aload_n rfl rfl ?_
            refine l_gfr rfl rfl rfl rfl rfl (hHU38.r 904 37 932 rfl) ?_
            refine l_bipush rfl rfl ?_
            refine l_iload_n rfl rfl ?_
            refine l_imul rfl ?_
            refine l_iload rfl rfl ?_
            refine l_iadd rfl ?_
            refine l_aload_n rfl rfl ?_
            refine l_gfr rfl rfl rfl rfl rfl (hHU38.r 904 118 969 rfl) ?_
            refine l_iload_n rfl rfl ?_
            refine l_iaload (n := 2400) rfl rfl (by omega) (by omega) (by unfold rg; omega) ?_
            have w137 : (Xi U38 969 ((q).toNat)) = (Xi S 969 ((q).toNat)) := (show Xi U38 969 ((q).toNat) = Xi U37 969 ((q).toNat) from by rw [eU38]; exact Xi_ne (by omega)).trans ((show Xi U37 969 ((q).toNat) = Xi S 969 ((q).toNat) from by rw [eU37]; exact Xi_ne (by omega)))
            rw [w137]
            refine l_iconst rfl ?_
            refine l_icmp_ne rfl rfl (by unfold rg; omega) (by unfold rg; omega) (fun w138 => ?_) (fun w139 => ?_)
            · refine l_aload_n rfl rfl ?_
              refine l_gfr rfl rfl rfl rfl rfl (hHU38.r 904 123 974 rfl) ?_
              refine l_iload_n rfl rfl ?_
              refine l_iaload (n := 2400) rfl rfl (by omega) (by omega) (by unfold rg; omega) ?_
              have w140 : -2147483648 ≤ (Xi U38 974 ((q).toNat)) ∧ (Xi U38 974 ((q).toNat)) ≤ 2147483647 := Xi_rgI
              have e415 : (Xi U38 974 ((q).toNat)) = Xi S 974 q.toNat := by first | rfl | exact (hFU38.cx 974 rfl _).1
              refine l_iastore (n := 288) rfl rfl (by omega) (by omega) (by unfold rg; omega) ?_
              obtain ⟨U39, eU39⟩ : ∃ T : sS, T = uI U38 932 ((((12 * z72) + (Xi S 972 ((q).toNat)))).toNat) (Int32.ofInt (Xi U38 974 ((q).toNat))) := ⟨_, rfl⟩
              rw [← eU39]
              have hHU39 : HI U39 := by rw [eU39]; exact HI_any hHU38 (rfl)
              have hFU39 : FR md_mo_nows S U39 := by rw [eU39]; exact FR.wI hFU38 (mdf_i (r := (932, 933, 0, 100000)) (List.mem_of_getElem? (i := 3) rfl) (inR_i (by omega) (by omega) (by omega) (by omega)))
              have w141 : Xi U39 932 ((((12 * z72) + (Xi S 972 ((q).toNat)))).toNat) = (Xi U38 974 ((q).toNat)) := by rw [eU39]; exact Xi_same (by unfold rg; omega)
              have x416 : TXM U39 := txm_w (o := z72) (p := (Xi S 972 ((q).toNat))) eU37 eU38 eU39 rfl (by omega) (by omega) (by omega) (by omega) (by unfold rg; omega) (by unfold rg; omega) (fun _ => by first | exact Or.inl (by omega) | exact okt_2 (hk1.2.2.2.2 (by omega)) (by omega) (by omega)) hX
              refine l_return rfl rfl ?_
              exact ⟨hHU39, hFU39, rfl, (by first | exact x416 | assumption | exact TXM_FR (FR_e eU39) rfl (by first | assumption | exact TXM_FR (FR_e eU38) rfl hX))⟩
            · refine l_iconst rfl ?_
              refine l_goto rfl rfl ?_
              refine l_iastore (n := 288) rfl rfl (by omega) (by omega) (by unfold rg; omega) ?_
              obtain ⟨U40, eU40⟩ : ∃ T : sS, T = uI U38 932 ((((12 * z72) + (Xi S 972 ((q).toNat)))).toNat) (Int32.ofInt 0) := ⟨_, rfl⟩
              rw [← eU40]
              have hHU40 : HI U40 := by rw [eU40]; exact HI_any hHU38 (rfl)
              have hFU40 : FR md_mo_nows S U40 := by rw [eU40]; exact FR.wI hFU38 (mdf_i (r := (932, 933, 0, 100000)) (List.mem_of_getElem? (i := 3) rfl) (inR_i (by omega) (by omega) (by omega) (by omega)))
              have w142 : Xi U40 932 ((((12 * z72) + (Xi S 972 ((q).toNat)))).toNat) = 0 := by rw [eU40]; exact Xi_same (by unfold rg; omega)
              have x416 : TXM U40 := txm_w (o := z72) (p := (Xi S 972 ((q).toNat))) eU37 eU38 eU40 rfl (by omega) (by omega) (by omega) (by omega) (by unfold rg; omega) (by unfold rg; omega) (fun _ => by first | exact Or.inl (by omega) | exact okt_2 (hk1.2.2.2.2 (by omega)) (by omega) (by omega)) hX
              refine l_return rfl rfl ?_
              exact ⟨hHU40, hFU40, rfl, (by first | exact x416 | assumption | exact TXM_FR (FR_e eU40) rfl (by first | assumption | exact TXM_FR (FR_e eU38) rfl hX))⟩
          · refine l_aload_n rfl rfl ?_
            refine l_gfr rfl rfl rfl rfl rfl (hHU37.r 904 122 973 rfl) ?_
            refine l_iload_n rfl rfl ?_
            refine l_iaload (n := 2400) rfl rfl (by omega) (by omega) (by unfold rg; omega) ?_
            have w143 : (Xi U37 973 ((q).toNat)) = (Xi S 973 ((q).toNat)) := (show Xi U37 973 ((q).toNat) = Xi S 973 ((q).toNat) from by rw [eU37]; exact Xi_ne (by omega))
            rw [w143]
            refine l_bipush rfl rfl ?_
            refine l_idivP rfl (by omega) (by omega) (by unfold rg; omega) (by unfold rg; omega) ?_
            refine l_iconst rfl ?_
            refine l_isub rfl ?_
            refine l_goto rfl rfl ?_
            refine l_iastore (n := 288) rfl rfl (by omega) (by omega) (by unfold rg; omega) ?_
            obtain ⟨U41, eU41⟩ : ∃ T : sS, T = uI U37 931 ((((12 * z72) + (Xi S 972 ((q).toNat)))).toNat) (Int32.ofInt (((Xi S 973 ((q).toNat)) / 100) - 1)) := ⟨_, rfl⟩
            rw [← eU41]
            have hHU41 : HI U41 := by rw [eU41]; exact HI_any hHU37 (rfl)
            have hFU41 : FR md_mo_nows S U41 := by rw [eU41]; exact FR.wI hFU37 (mdf_i (r := (931, 932, 0, 100000)) (List.mem_of_getElem? (i := 2) rfl) (inR_i (by omega) (by omega) (by omega) (by omega)))
            have w145 : Xi U41 931 ((((12 * z72) + (Xi S 972 ((q).toNat)))).toNat) = (((Xi S 973 ((q).toNat)) / 100) - 1) := by rw [eU41]; exact Xi_same (by unfold rg; omega)
            refine l_aload_n rfl rfl ?_
            refine l_gfr rfl rfl rfl rfl rfl (hHU41.r 904 37 932 rfl) ?_
            refine l_bipush rfl rfl ?_
            refine l_iload_n rfl rfl ?_
            refine l_imul rfl ?_
            refine l_iload rfl rfl ?_
            refine l_iadd rfl ?_
            refine l_aload_n rfl rfl ?_
            refine l_gfr rfl rfl rfl rfl rfl (hHU41.r 904 118 969 rfl) ?_
            refine l_iload_n rfl rfl ?_
            refine l_iaload (n := 2400) rfl rfl (by omega) (by omega) (by unfold rg; omega) ?_
            have w146 : (Xi U41 969 ((q).toNat)) = (Xi S 969 ((q).toNat)) := (show Xi U41 969 ((q).toNat) = Xi U37 969 ((q).toNat) from by rw [eU41]; exact Xi_ne (by omega)).trans ((show Xi U37 969 ((q).toNat) = Xi S 969 ((q).toNat) from by rw [eU37]; exact Xi_ne (by omega)))
            rw [w146]
            refine l_iconst rfl ?_
            refine l_icmp_ne rfl rfl (by unfold rg; omega) (by unfold rg; omega) (fun w147 => ?_) (fun w148 => ?_)
            · refine l_aload_n rfl rfl ?_
              refine l_gfr rfl rfl rfl rfl rfl (hHU41.r 904 123 974 rfl) ?_
              refine l_iload_n rfl rfl ?_
              refine l_iaload (n := 2400) rfl rfl (by omega) (by omega) (by unfold rg; omega) ?_
              have w149 : -2147483648 ≤ (Xi U41 974 ((q).toNat)) ∧ (Xi U41 974 ((q).toNat)) ≤ 2147483647 := Xi_rgI
              have e415 : (Xi U41 974 ((q).toNat)) = Xi S 974 q.toNat := by first | rfl | exact (hFU41.cx 974 rfl _).1
              refine l_iastore (n := 288) rfl rfl (by omega) (by omega) (by unfold rg; omega) ?_
              obtain ⟨U42, eU42⟩ : ∃ T : sS, T = uI U41 932 ((((12 * z72) + (Xi S 972 ((q).toNat)))).toNat) (Int32.ofInt (Xi U41 974 ((q).toNat))) := ⟨_, rfl⟩
              rw [← eU42]
              have hHU42 : HI U42 := by rw [eU42]; exact HI_any hHU41 (rfl)
              have hFU42 : FR md_mo_nows S U42 := by rw [eU42]; exact FR.wI hFU41 (mdf_i (r := (932, 933, 0, 100000)) (List.mem_of_getElem? (i := 3) rfl) (inR_i (by omega) (by omega) (by omega) (by omega)))
              have w150 : Xi U42 932 ((((12 * z72) + (Xi S 972 ((q).toNat)))).toNat) = (Xi U41 974 ((q).toNat)) := by rw [eU42]; exact Xi_same (by unfold rg; omega)
              have x416 : TXM U42 := txm_w (o := z72) (p := (Xi S 972 ((q).toNat))) eU37 eU41 eU42 rfl (by omega) (by omega) (by omega) (by omega) (by unfold rg; omega) (by unfold rg; omega) (fun _ => by first | exact Or.inl (by omega) | exact okt_2 (hk1.2.2.2.2 (by omega)) (by omega) (by omega)) hX
              refine l_return rfl rfl ?_
              exact ⟨hHU42, hFU42, rfl, (by first | exact x416 | assumption | exact TXM_FR (FR_e eU42) rfl (by first | assumption | exact TXM_FR (FR_e eU41) rfl hX))⟩
            · refine l_iconst rfl ?_
              refine l_goto rfl rfl ?_
              refine l_iastore (n := 288) rfl rfl (by omega) (by omega) (by unfold rg; omega) ?_
              obtain ⟨U43, eU43⟩ : ∃ T : sS, T = uI U41 932 ((((12 * z72) + (Xi S 972 ((q).toNat)))).toNat) (Int32.ofInt 0) := ⟨_, rfl⟩
              rw [← eU43]
              have hHU43 : HI U43 := by rw [eU43]; exact HI_any hHU41 (rfl)
              have hFU43 : FR md_mo_nows S U43 := by rw [eU43]; exact FR.wI hFU41 (mdf_i (r := (932, 933, 0, 100000)) (List.mem_of_getElem? (i := 3) rfl) (inR_i (by omega) (by omega) (by omega) (by omega)))
              have w151 : Xi U43 932 ((((12 * z72) + (Xi S 972 ((q).toNat)))).toNat) = 0 := by rw [eU43]; exact Xi_same (by unfold rg; omega)
              have x416 : TXM U43 := txm_w (o := z72) (p := (Xi S 972 ((q).toNat))) eU37 eU41 eU43 rfl (by omega) (by omega) (by omega) (by omega) (by unfold rg; omega) (by unfold rg; omega) (fun _ => by first | exact Or.inl (by omega) | exact okt_2 (hk1.2.2.2.2 (by omega)) (by omega) (by omega)) hX
              refine l_return rfl rfl ?_
              exact ⟨hHU43, hFU43, rfl, (by first | exact x416 | assumption | exact TXM_FR (FR_e eU43) rfl (by first | assumption | exact TXM_FR (FR_e eU41) rfl hX))⟩
        · refine l_aload_n rfl rfl ?_
          refine l_gfr rfl rfl rfl rfl rfl (hH.r 904 122 973 rfl) ?_
          refine l_iload_n rfl rfl ?_
          refine l_iaload (n := 2400) rfl rfl (by omega) (by omega) (by unfold rg; omega) ?_
          refine l_bipush rfl rfl ?_
          refine l_iremA rfl (by omega) (by unfold rg; omega) (by unfold rg; omega) (fun c152 w152 w152b w152c => ?_)
          refine l_goto rfl rfl ?_
          refine l_istore rfl rfl rfl ?_
          refine l_aload_n rfl rfl ?_
          refine l_gfr rfl rfl rfl rfl rfl (hH.r 904 35 930 rfl) ?_
          refine l_bipush rfl rfl ?_
          refine l_iload_n rfl rfl ?_
          refine l_imul rfl ?_
          refine l_iload rfl rfl ?_
          refine l_iadd rfl ?_
          refine l_iconst rfl ?_
          refine l_bastoreZ1 (n := 288) rfl rfl (by omega) (by omega) (by unfold rg; omega) ⟨by omega, by omega⟩ ?_
          obtain ⟨U44, eU44⟩ : ∃ T : sS, T = uI S 930 ((((12 * z72) + c152)).toNat) (Int32.ofInt 1) := ⟨_, rfl⟩
          rw [← eU44]
          have hHU44 : HI U44 := by rw [eU44]; exact HI_w hH (show 0 ≤ 1 by omega) (show 1 ≤ 1 by omega)
          have hFU44 : FR md_mo_nows S U44 := by rw [eU44]; exact FR.wI hF (mdf_i (r := (930, 931, 0, 100000)) (List.mem_of_getElem? (i := 1) rfl) (inR_i (by omega) (by omega) (by omega) (by omega)))
          have w153 : Xi U44 930 ((((12 * z72) + c152)).toNat) = 1 := by rw [eU44]; exact Xi_same (by unfold rg; omega)
          refine l_aload_n rfl rfl ?_
          refine l_gfr rfl rfl rfl rfl rfl (hHU44.r 904 36 931 rfl) ?_
          refine l_bipush rfl rfl ?_
          refine l_iload_n rfl rfl ?_
          refine l_imul rfl ?_
          refine l_iload rfl rfl ?_
          refine l_iadd rfl ?_
          refine l_aload_n rfl rfl ?_
          refine l_gfr rfl rfl rfl rfl rfl (hHU44.r 904 118 969 rfl) ?_
          refine l_iload_n rfl rfl ?_
          refine l_iaload (n := 2400) rfl rfl (by omega) (by omega) (by unfold rg; omega) ?_
          have w154 : (Xi U44 969 ((q).toNat)) = (Xi S 969 ((q).toNat)) := (show Xi U44 969 ((q).toNat) = Xi S 969 ((q).toNat) from by rw [eU44]; exact Xi_ne (by omega))
          rw [w154]
          refine l_iconst rfl ?_
          refine l_icmp_ne rfl rfl (by unfold rg; omega) (by unfold rg; omega) (fun w155 => ?_) (fun w156 => ?_)
          · refine l_aload_n rfl rfl ?_
            refine l_gfr rfl rfl rfl rfl rfl (hHU44.r 904 122 973 rfl) ?_
            refine l_iload_n rfl rfl ?_
            refine l_iaload (n := 2400) rfl rfl (by omega) (by omega) (by unfold rg; omega) ?_
            have w157 : (Xi U44 973 ((q).toNat)) = (Xi S 973 ((q).toNat)) := (show Xi U44 973 ((q).toNat) = Xi S 973 ((q).toNat) from by rw [eU44]; exact Xi_ne (by omega))
            rw [w157]
            have e383 : (Xi S 973 ((q).toNat)) = Xi S 973 q.toNat := by first | rfl | exact (hFU44.cx 973 rfl _).1
            refine l_iastore (n := 288) rfl rfl (by omega) (by omega) (by unfold rg; omega) ?_
            obtain ⟨U45, eU45⟩ : ∃ T : sS, T = uI U44 931 ((((12 * z72) + c152)).toNat) (Int32.ofInt (Xi S 973 ((q).toNat))) := ⟨_, rfl⟩
            rw [← eU45]
            have hHU45 : HI U45 := by rw [eU45]; exact HI_any hHU44 (rfl)
            have hFU45 : FR md_mo_nows S U45 := by rw [eU45]; exact FR.wI hFU44 (mdf_i (r := (931, 932, 0, 100000)) (List.mem_of_getElem? (i := 2) rfl) (inR_i (by omega) (by omega) (by omega) (by omega)))
            have w158 : Xi U45 931 ((((12 * z72) + c152)).toNat) = (Xi S 973 ((q).toNat)) := by rw [eU45]; exact Xi_same (by unfold rg; omega)
            refine l_aload_n rfl rfl ?_
            refine l_gfr rfl rfl rfl rfl rfl (hHU45.r 904 37 932 rfl) ?_
            refine l_bipush rfl rfl ?_
            refine l_iload_n rfl rfl ?_
            refine l_imul rfl ?_
            refine l_iload rfl rfl ?_
            refine l_iadd rfl ?_
            refine l_aload_n rfl rfl ?_
            refine l_gfr rfl rfl rfl rfl rfl (hHU45.r 904 118 969 rfl) ?_
            refine l_iload_n rfl rfl ?_
            refine l_iaload (n := 2400) rfl rfl (by omega) (by omega) (by unfold rg; omega) ?_
            have w159 : (Xi U45 969 ((q).toNat)) = (Xi S 969 ((q).toNat)) := (show Xi U45 969 ((q).toNat) = Xi U44 969 ((q).toNat) from by rw [eU45]; exact Xi_ne (by omega)).trans ((show Xi U44 969 ((q).toNat) = Xi S 969 ((q).toNat) from by rw [eU44]; exact Xi_ne (by omega)))
            rw [w159]
            refine l_iconst rfl ?_
            refine l_icmp_ne rfl rfl (by unfold rg; omega) (by unfold rg; omega) (fun w160 => ?_) (fun w161 => ?_)
            · refine l_aload_n rfl rfl ?_
              refine l_gfr rfl rfl rfl rfl rfl (hHU45.r 904 123 974 rfl) ?_
              refine l_iload_n rfl rfl ?_
              refine l_iaload (n := 2400) rfl rfl (by omega) (by omega) (by unfold rg; omega) ?_
              have w162 : -2147483648 ≤ (Xi U45 974 ((q).toNat)) ∧ (Xi U45 974 ((q).toNat)) ≤ 2147483647 := Xi_rgI
              have e415 : (Xi U45 974 ((q).toNat)) = Xi S 974 q.toNat := by first | rfl | exact (hFU45.cx 974 rfl _).1
              refine l_iastore (n := 288) rfl rfl (by omega) (by omega) (by unfold rg; omega) ?_
              obtain ⟨U46, eU46⟩ : ∃ T : sS, T = uI U45 932 ((((12 * z72) + c152)).toNat) (Int32.ofInt (Xi U45 974 ((q).toNat))) := ⟨_, rfl⟩
              rw [← eU46]
              have hHU46 : HI U46 := by rw [eU46]; exact HI_any hHU45 (rfl)
              have hFU46 : FR md_mo_nows S U46 := by rw [eU46]; exact FR.wI hFU45 (mdf_i (r := (932, 933, 0, 100000)) (List.mem_of_getElem? (i := 3) rfl) (inR_i (by omega) (by omega) (by omega) (by omega)))
              have w163 : Xi U46 932 ((((12 * z72) + c152)).toNat) = (Xi U45 974 ((q).toNat)) := by rw [eU46]; exact Xi_same (by unfold rg; omega)
              have x416 : TXM U46 := txm_w (o := z72) (p := c152) eU44 eU45 eU46 rfl (by omega) (by omega) (by omega) (by omega) (by unfold rg; omega) (by unfold rg; omega) (fun _ => by first | exact Or.inl (by omega) | exact okt_2 (hk1.2.2.2.2 (by omega)) (by omega) (by omega)) hX
              refine l_return rfl rfl ?_
              exact ⟨hHU46, hFU46, rfl, (by first | exact x416 | assumption | exact TXM_FR (FR_e eU46) rfl (by first | assumption | exact TXM_FR (FR_e eU45) rfl hX))⟩
            · refine l_iconst rfl ?_
              refine l_goto rfl rfl ?_
              refine l_iastore (n := 288) rfl rfl (by omega) (by omega) (by unfold rg; omega) ?_
              obtain ⟨U47, eU47⟩ : ∃ T : sS, T = uI U45 932 ((((12 * z72) + c152)).toNat) (Int32.ofInt 0) := ⟨_, rfl⟩
              rw [← eU47]
              have hHU47 : HI U47 := by rw [eU47]; exact HI_any hHU45 (rfl)
              have hFU47 : FR md_mo_nows S U47 := by rw [eU47]; exact FR.wI hFU45 (mdf_i (r := (932, 933, 0, 100000)) (List.mem_of_getElem? (i := 3) rfl) (inR_i (by omega) (by omega) (by omega) (by omega)))
              have w164 : Xi U47 932 ((((12 * z72) + c152)).toNat) = 0 := by rw [eU47]; exact Xi_same (by unfold rg; omega)
              have x416 : TXM U47 := txm_w (o := z72) (p := c152) eU44 eU45 eU47 rfl (by omega) (by omega) (by omega) (by omega) (by unfold rg; omega) (by unfold rg; omega) (fun _ => by first | exact Or.inl (by omega) | exact okt_2 (hk1.2.2.2.2 (by omega)) (by omega) (by omega)) hX
              refine l_return rfl rfl ?_
              exact ⟨hHU47, hFU47, rfl, (by first | exact x416 | assumption | exact TXM_FR (FR_e eU47) rfl (by first | assumption | exact TXM_FR (FR_e eU45) rfl hX))⟩
          · refine l_aload_n rfl rfl ?_
            refine l_gfr rfl rfl rfl rfl rfl (hHU44.r 904 122 973 rfl) ?_
            refine l_iload_n rfl rfl ?_
            refine l_iaload (n := 2400) rfl rfl (by omega) (by omega) (by unfold rg; omega) ?_
            have w165 : (Xi U44 973 ((q).toNat)) = (Xi S 973 ((q).toNat)) := (show Xi U44 973 ((q).toNat) = Xi S 973 ((q).toNat) from by rw [eU44]; exact Xi_ne (by omega))
            rw [w165]
            refine l_bipush rfl rfl ?_
            refine l_idivP rfl (by omega) (by omega) (by unfold rg; omega) (by unfold rg; omega) ?_
            refine l_iconst rfl ?_
            refine l_isub rfl ?_
            refine l_goto rfl rfl ?_
            refine l_iastore (n := 288) rfl rfl (by omega) (by omega) (by unfold rg; omega) ?_
            obtain ⟨U48, eU48⟩ : ∃ T : sS, T = uI U44 931 ((((12 * z72) + c152)).toNat) (Int32.ofInt (((Xi S 973 ((q).toNat)) / 100) - 1)) := ⟨_, rfl⟩
            rw [← eU48]
            have hHU48 : HI U48 := by rw [eU48]; exact HI_any hHU44 (rfl)
            have hFU48 : FR md_mo_nows S U48 := by rw [eU48]; exact FR.wI hFU44 (mdf_i (r := (931, 932, 0, 100000)) (List.mem_of_getElem? (i := 2) rfl) (inR_i (by omega) (by omega) (by omega) (by omega)))
            have w167 : Xi U48 931 ((((12 * z72) + c152)).toNat) = (((Xi S 973 ((q).toNat)) / 100) - 1) := by rw [eU48]; exact Xi_same (by unfold rg; omega)
            refine l_aload_n rfl rfl ?_
            refine l_gfr rfl rfl rfl rfl rfl (hHU48.r 904 37 932 rfl) ?_
            refine l_bipush rfl rfl ?_
            refine l_iload_n rfl rfl ?_
            refine l_imul rfl ?_
            refine l_iload rfl rfl ?_
            refine l_iadd rfl ?_
            refine l_aload_n rfl rfl ?_
            refine l_gfr rfl rfl rfl rfl rfl (hHU48.r 904 118 969 rfl) ?_
            refine l_iload_n rfl rfl ?_
            refine l_iaload (n := 2400) rfl rfl (by omega) (by omega) (by unfold rg; omega) ?_
            have w168 : (Xi U48 969 ((q).toNat)) = (Xi S 969 ((q).toNat)) := (show Xi U48 969 ((q).toNat) = Xi U44 969 ((q).toNat) from by rw [eU48]; exact Xi_ne (by omega)).trans ((show Xi U44 969 ((q).toNat) = Xi S 969 ((q).toNat) from by rw [eU44]; exact Xi_ne (by omega)))
            rw [w168]
            refine l_iconst rfl ?_
            refine l_icmp_ne rfl rfl (by unfold rg; omega) (by unfold rg; omega) (fun w169 => ?_) (fun w170 => ?_)
            · refine l_aload_n rfl rfl ?_
              refine l_gfr rfl rfl rfl rfl rfl (hHU48.r 904 123 974 rfl) ?_
              refine l_iload_n rfl rfl ?_
              refine l_iaload (n := 2400) rfl rfl (by omega) (by omega) (by unfold rg; omega) ?_
              have w171 : -2147483648 ≤ (Xi U48 974 ((q).toNat)) ∧ (Xi U48 974 ((q).toNat)) ≤ 2147483647 := Xi_rgI
              have e415 : (Xi U48 974 ((q).toNat)) = Xi S 974 q.toNat := by first | rfl | exact (hFU48.cx 974 rfl _).1
              refine l_iastore (n := 288) rfl rfl (by omega) (by omega) (by unfold rg; omega) ?_
              obtain ⟨U49, eU49⟩ : ∃ T : sS, T = uI U48 932 ((((12 * z72) + c152)).toNat) (Int32.ofInt (Xi U48 974 ((q).toNat))) := ⟨_, rfl⟩
              rw [← eU49]
              have hHU49 : HI U49 := by rw [eU49]; exact HI_any hHU48 (rfl)
              have hFU49 : FR md_mo_nows S U49 := by rw [eU49]; exact FR.wI hFU48 (mdf_i (r := (932, 933, 0, 100000)) (List.mem_of_getElem? (i := 3) rfl) (inR_i (by omega) (by omega) (by omega) (by omega)))
              have w172 : Xi U49 932 ((((12 * z72) + c152)).toNat) = (Xi U48 974 ((q).toNat)) := by rw [eU49]; exact Xi_same (by unfold rg; omega)
              have x416 : TXM U49 := txm_w (o := z72) (p := c152) eU44 eU48 eU49 rfl (by omega) (by omega) (by omega) (by omega) (by unfold rg; omega) (by unfold rg; omega) (fun _ => by first | exact Or.inl (by omega) | exact okt_2 (hk1.2.2.2.2 (by omega)) (by omega) (by omega)) hX
              refine l_return rfl rfl ?_
              exact ⟨hHU49, hFU49, rfl, (by first | exact x416 | assumption | exact TXM_FR (FR_e eU49) rfl (by first | assumption | exact TXM_FR (FR_e eU48) rfl hX))⟩
            · refine l_iconst rfl ?_
              refine l_goto rfl rfl ?_
              refine l_iastore (n := 288) rfl rfl (by omega) (by omega) (by unfold rg; omega) ?_
              obtain ⟨U50, eU50⟩ : ∃ T : sS, T = uI U48 932 ((((12 * z72) + c152)).toNat) (Int32.ofInt 0) := ⟨_, rfl⟩
              rw [← eU50]
              have hHU50 : HI U50 := by rw [eU50]; exact HI_any hHU48 (rfl)
              have hFU50 : FR md_mo_nows S U50 := by rw [eU50]; exact FR.wI hFU48 (mdf_i (r := (932, 933, 0, 100000)) (List.mem_of_getElem? (i := 3) rfl) (inR_i (by omega) (by omega) (by omega) (by omega)))
              have w173 : Xi U50 932 ((((12 * z72) + c152)).toNat) = 0 := by rw [eU50]; exact Xi_same (by unfold rg; omega)
              have x416 : TXM U50 := txm_w (o := z72) (p := c152) eU44 eU48 eU50 rfl (by omega) (by omega) (by omega) (by omega) (by unfold rg; omega) (by unfold rg; omega) (fun _ => by first | exact Or.inl (by omega) | exact okt_2 (hk1.2.2.2.2 (by omega)) (by omega) (by omega)) hX
              refine l_return rfl rfl ?_
              exact ⟨hHU50, hFU50, rfl, (by first | exact x416 | assumption | exact TXM_FR (FR_e eU50) rfl (by first | assumption | exact TXM_FR (FR_e eU48) rfl hX))⟩
      · refine l_aload_n rfl rfl ?_
        refine l_gfr rfl rfl rfl rfl rfl (hH.r 904 122 973 rfl) ?_
        refine l_iload_n rfl rfl ?_
        refine l_iaload (n := 2400) rfl rfl (by omega) (by omega) (by unfold rg; omega) ?_
        refine l_istore rfl rfl rfl ?_
        refine l_aload_n rfl rfl ?_
        refine l_gfr rfl rfl rfl rfl rfl (hH.r 904 28 925 rfl) ?_
        refine l_bipush rfl rfl ?_
        refine l_iload_n rfl rfl ?_
        refine l_imul rfl ?_
        refine l_iload rfl rfl ?_
        refine l_iadd rfl ?_
        refine l_aload_n rfl rfl ?_
        refine l_gfr rfl rfl rfl rfl rfl (hH.r 904 119 970 rfl) ?_
        refine l_iload_n rfl rfl ?_
        refine l_baload (n := 2400) rfl rfl rfl (by decide) (by omega) (by omega) (by unfold rg; omega) ?_
        have w174 : 0 ≤ (Xi S 970 ((q).toNat)) ∧ (Xi S 970 ((q).toNat)) ≤ 1 := hH.c _ _
        refine l_if_eq rfl rfl (by unfold rg; omega) (fun w175 => ?_) (fun w176 => ?_)
        · refine l_iconst rfl ?_
          refine l_iastore (n := 576) rfl rfl (by omega) (by omega) (by unfold rg; omega) ?_
          obtain ⟨U51, eU51⟩ : ∃ T : sS, T = uI S 925 ((((24 * z72) + (Xi S 973 ((q).toNat)))).toNat) (Int32.ofInt 1) := ⟨_, rfl⟩
          rw [← eU51]
          have hHU51 : HI U51 := by rw [eU51]; exact HI_w hH (show 0 ≤ 1 by omega) (show 1 ≤ 2 by omega)
          have hFU51 : FR md_mo_nows S U51 := by rw [eU51]; exact FR.wI hF (mdf_i (r := (925, 926, 0, 100000)) (List.mem_of_getElem? (i := 0) rfl) (inR_i (by omega) (by omega) (by omega) (by omega)))
          have w177 : Xi U51 925 ((((24 * z72) + (Xi S 973 ((q).toNat)))).toNat) = 1 := by rw [eU51]; exact Xi_same (by unfold rg; omega)
          refine l_aload_n rfl rfl ?_
          refine l_gfr rfl rfl rfl rfl rfl (hHU51.r 904 28 925 rfl) ?_
          refine l_bipush rfl rfl ?_
          refine l_iload_n rfl rfl ?_
          refine l_imul rfl ?_
          refine l_aload_n rfl rfl ?_
          refine l_gfr rfl rfl rfl rfl rfl (hHU51.r 904 25 922 rfl) ?_
          refine l_iload rfl rfl ?_
          refine l_iaload (n := 24) rfl rfl (by omega) (by omega) (by unfold rg; omega) ?_
          have w178 : -1 ≤ (Xi U51 922 (((Xi S 973 ((q).toNat))).toNat)) ∧ (Xi U51 922 (((Xi S 973 ((q).toNat))).toNat)) ≤ 23 := hHU51.c _ _
          have e280 : (Xi U51 922 (((Xi S 973 ((q).toNat))).toNat)) = Xi S 922 (Xi S 973 q.toNat).toNat := by first | rfl | exact (hFU51.cx 922 rfl _).1
          refine l_iadd rfl ?_
          refine l_aload_n rfl rfl ?_
          refine l_gfr rfl rfl rfl rfl rfl (hHU51.r 904 119 970 rfl) ?_
          refine l_iload_n rfl rfl ?_
          refine l_baload (n := 2400) rfl rfl rfl (by decide) (by omega) (by omega) (by unfold rg; omega) ?_
          have w179 : (Xi U51 970 ((q).toNat)) = (Xi S 970 ((q).toNat)) := (show Xi U51 970 ((q).toNat) = Xi S 970 ((q).toNat) from by rw [eU51]; exact Xi_ne (by omega))
          rw [w179]
          refine l_if_eq rfl rfl (by unfold rg; omega) (fun w180 => ?_) (fun w181 => ?_)
          · refine l_iconst rfl ?_
            refine l_iastore (n := 576) rfl rfl (by omega) (by omega) (by unfold rg; omega) ?_
            obtain ⟨U52, eU52⟩ : ∃ T : sS, T = uI U51 925 ((((24 * z72) + (Xi U51 922 (((Xi S 973 ((q).toNat))).toNat)))).toNat) (Int32.ofInt 2) := ⟨_, rfl⟩
            rw [← eU52]
            have hHU52 : HI U52 := by rw [eU52]; exact HI_w hHU51 (show 0 ≤ 2 by omega) (show 2 ≤ 2 by omega)
            have hFU52 : FR md_mo_nows S U52 := by rw [eU52]; exact FR.wI hFU51 (mdf_i (r := (925, 926, 0, 100000)) (List.mem_of_getElem? (i := 0) rfl) (inR_i (by omega) (by omega) (by omega) (by omega)))
            have w182 : Xi U52 925 ((((24 * z72) + (Xi U51 922 (((Xi S 973 ((q).toNat))).toNat)))).toNat) = 2 := by rw [eU52]; exact Xi_same (by unfold rg; omega)
            refine l_goto rfl rfl ?_
            refine l_return rfl rfl ?_
            exact ⟨hHU52, hFU52, rfl, (by first | exact x416 | assumption | exact TXM_FR (FR_e eU52) rfl (by first | assumption | exact TXM_FR (FR_e eU51) rfl hX))⟩
          · refine l_iconst rfl ?_
            refine l_goto rfl rfl ?_
            refine l_iastore (n := 576) rfl rfl (by omega) (by omega) (by unfold rg; omega) ?_
            obtain ⟨U53, eU53⟩ : ∃ T : sS, T = uI U51 925 ((((24 * z72) + (Xi U51 922 (((Xi S 973 ((q).toNat))).toNat)))).toNat) (Int32.ofInt 1) := ⟨_, rfl⟩
            rw [← eU53]
            have hHU53 : HI U53 := by rw [eU53]; exact HI_w hHU51 (show 0 ≤ 1 by omega) (show 1 ≤ 2 by omega)
            have hFU53 : FR md_mo_nows S U53 := by rw [eU53]; exact FR.wI hFU51 (mdf_i (r := (925, 926, 0, 100000)) (List.mem_of_getElem? (i := 0) rfl) (inR_i (by omega) (by omega) (by omega) (by omega)))
            have w183 : Xi U53 925 ((((24 * z72) + (Xi U51 922 (((Xi S 973 ((q).toNat))).toNat)))).toNat) = 1 := by rw [eU53]; exact Xi_same (by unfold rg; omega)
            refine l_goto rfl rfl ?_
            refine l_return rfl rfl ?_
            exact ⟨hHU53, hFU53, rfl, (by first | exact x416 | assumption | exact TXM_FR (FR_e eU53) rfl (by first | assumption | exact TXM_FR (FR_e eU51) rfl hX))⟩
        · refine l_iconst rfl ?_
          refine l_goto rfl rfl ?_
          refine l_iastore (n := 576) rfl rfl (by omega) (by omega) (by unfold rg; omega) ?_
          obtain ⟨U54, eU54⟩ : ∃ T : sS, T = uI S 925 ((((24 * z72) + (Xi S 973 ((q).toNat)))).toNat) (Int32.ofInt 2) := ⟨_, rfl⟩
          rw [← eU54]
          have hHU54 : HI U54 := by rw [eU54]; exact HI_w hH (show 0 ≤ 2 by omega) (show 2 ≤ 2 by omega)
          have hFU54 : FR md_mo_nows S U54 := by rw [eU54]; exact FR.wI hF (mdf_i (r := (925, 926, 0, 100000)) (List.mem_of_getElem? (i := 0) rfl) (inR_i (by omega) (by omega) (by omega) (by omega)))
          have w184 : Xi U54 925 ((((24 * z72) + (Xi S 973 ((q).toNat)))).toNat) = 2 := by rw [eU54]; exact Xi_same (by unfold rg; omega)
          refine l_aload_n rfl rfl ?_
          refine l_gfr rfl rfl rfl rfl rfl (hHU54.r 904 28 925 rfl) ?_
          refine l_bipush rfl rfl ?_
          refine l_iload_n rfl rfl ?_
          refine l_imul rfl ?_
          refine l_aload_n rfl rfl ?_
          refine l_gfr rfl rfl rfl rfl rfl (hHU54.r 904 25 922 rfl) ?_
          refine l_iload rfl rfl ?_
          refine l_iaload (n := 24) rfl rfl (by omega) (by omega) (by unfold rg; omega) ?_
          have w185 : -1 ≤ (Xi U54 922 (((Xi S 973 ((q).toNat))).toNat)) ∧ (Xi U54 922 (((Xi S 973 ((q).toNat))).toNat)) ≤ 23 := hHU54.c _ _
          have e280 : (Xi U54 922 (((Xi S 973 ((q).toNat))).toNat)) = Xi S 922 (Xi S 973 q.toNat).toNat := by first | rfl | exact (hFU54.cx 922 rfl _).1
          refine l_iadd rfl ?_
          refine l_aload_n rfl rfl ?_
          refine l_gfr rfl rfl rfl rfl rfl (hHU54.r 904 119 970 rfl) ?_
          refine l_iload_n rfl rfl ?_
          refine l_baload (n := 2400) rfl rfl rfl (by decide) (by omega) (by omega) (by unfold rg; omega) ?_
          have w186 : (Xi U54 970 ((q).toNat)) = (Xi S 970 ((q).toNat)) := (show Xi U54 970 ((q).toNat) = Xi S 970 ((q).toNat) from by rw [eU54]; exact Xi_ne (by omega))
          rw [w186]
          refine l_if_eq rfl rfl (by unfold rg; omega) (fun w187 => ?_) (fun w188 => ?_)
          · refine l_iconst rfl ?_
            refine l_iastore (n := 576) rfl rfl (by omega) (by omega) (by unfold rg; omega) ?_
            obtain ⟨U55, eU55⟩ : ∃ T : sS, T = uI U54 925 ((((24 * z72) + (Xi U54 922 (((Xi S 973 ((q).toNat))).toNat)))).toNat) (Int32.ofInt 2) := ⟨_, rfl⟩
            rw [← eU55]
            have hHU55 : HI U55 := by rw [eU55]; exact HI_w hHU54 (show 0 ≤ 2 by omega) (show 2 ≤ 2 by omega)
            have hFU55 : FR md_mo_nows S U55 := by rw [eU55]; exact FR.wI hFU54 (mdf_i (r := (925, 926, 0, 100000)) (List.mem_of_getElem? (i := 0) rfl) (inR_i (by omega) (by omega) (by omega) (by omega)))
            have w189 : Xi U55 925 ((((24 * z72) + (Xi U54 922 (((Xi S 973 ((q).toNat))).toNat)))).toNat) = 2 := by rw [eU55]; exact Xi_same (by unfold rg; omega)
            refine l_goto rfl rfl ?_
            refine l_return rfl rfl ?_
            exact ⟨hHU55, hFU55, rfl, (by first | exact x416 | assumption | exact TXM_FR (FR_e eU55) rfl (by first | assumption | exact TXM_FR (FR_e eU54) rfl hX))⟩
          · refine l_iconst rfl ?_
            refine l_goto rfl rfl ?_
            refine l_iastore (n := 576) rfl rfl (by omega) (by omega) (by unfold rg; omega) ?_
            obtain ⟨U56, eU56⟩ : ∃ T : sS, T = uI U54 925 ((((24 * z72) + (Xi U54 922 (((Xi S 973 ((q).toNat))).toNat)))).toNat) (Int32.ofInt 1) := ⟨_, rfl⟩
            rw [← eU56]
            have hHU56 : HI U56 := by rw [eU56]; exact HI_w hHU54 (show 0 ≤ 1 by omega) (show 1 ≤ 2 by omega)
            have hFU56 : FR md_mo_nows S U56 := by rw [eU56]; exact FR.wI hFU54 (mdf_i (r := (925, 926, 0, 100000)) (List.mem_of_getElem? (i := 0) rfl) (inR_i (by omega) (by omega) (by omega) (by omega)))
            have w190 : Xi U56 925 ((((24 * z72) + (Xi U54 922 (((Xi S 973 ((q).toNat))).toNat)))).toNat) = 1 := by rw [eU56]; exact Xi_same (by unfold rg; omega)
            refine l_goto rfl rfl ?_
            refine l_return rfl rfl ?_
            exact ⟨hHU56, hFU56, rfl, (by first | exact x416 | assumption | exact TXM_FR (FR_e eU56) rfl (by first | assumption | exact TXM_FR (FR_e eU54) rfl hX))⟩
  · refine l_aload_n rfl rfl ?_
    refine l_gfr rfl rfl rfl rfl rfl (hH.r 904 121 972 rfl) ?_
    refine l_iload_n rfl rfl ?_
    refine l_iaload (n := 2400) rfl rfl (by omega) (by omega) (by unfold rg; omega) ?_
    have w191 : -1 ≤ (Xi S 972 ((q).toNat)) ∧ (Xi S 972 ((q).toNat)) ≤ 11 := hH.c _ _
    refine l_istore rfl rfl rfl ?_
    refine l_aload_n rfl rfl ?_
    refine l_gfr rfl rfl rfl rfl rfl (hH.r 904 124 975 rfl) ?_
    refine l_iload_n rfl rfl ?_
    refine l_iaload (n := 2400) rfl rfl (by omega) (by omega) (by unfold rg; omega) ?_
    have w192 : -9 ≤ (Xi S 975 ((q).toNat)) ∧ (Xi S 975 ((q).toNat)) ≤ 23 := hH.c _ _
    refine l_iconst rfl ?_
    refine l_iload_n rfl rfl ?_
    refine l_callS rfl rfl (by decide) rfl (t_mo_thingIs hH (Xi S 975 ((q).toNat)) (-1) noun ⟨by omega, by omega⟩ ⟨by omega, by omega⟩ ⟨by omega, by omega⟩ _) ?_
    rintro _ _ ⟨rfl, z194, rfl, w194, w193⟩
    show Rl _ _ _ _ _ [iv z194] _ _
    have o38 : 0 ≤ z194 ∧ z194 < Xi S 904 19 := thk_i (it := -1) (noun := noun) (hk1.2.1 (by omega)).1 (fun h => absurd h (fun f => f)) (fun h => h) (by omega) h2 (by assumption)
    have p38 : 0 ≤ Xi S 972 q.toNat ∧ Xi S 972 q.toNat ≤ 5 := (hk1.2.1 (by omega)).2
    refine l_istore rfl rfl rfl ?_
    refine l_iconst rfl ?_
    refine l_istore rfl rfl rfl ?_
    exact Rl_weak (C46 _ S hH hF (z72) ((Xi S 972 ((q).toNat))) (z194) (0) (by omega) (by omega) (by omega) (by omega) (by first | assumption | exact (by assumption : TXM S)) rfl) (And.intro rfl (And.intro rfl (And.intro rfl (And.intro rfl (And.intro rfl (True.intro))))))
def md_mo_does_2 : List rec := [(904, 905, 154, 155), (904, 905, 156, 157), (919, 920, 0, 100000), (920, 921, 0, 100000), (993, 994, 0, 100000)]
abbrev Q_mo_does_2 (S : sS) (action : Int) (noun : Int) : pst := fun r S1 => HI S1 ∧ FR md_mo_does_2 S S1 ∧ (∃ z : Int, r = some (iv z) ∧ (0 ≤ z ∧ z ≤ 1) ∧ (WYM S1))
set_option maxRecDepth 100000 in
theorem t_mo_does_2 {S : sS} (hH : HI S) (action : Int) (noun : Int) (haction : 0 ≤ action ∧ action ≤ 11) (hnoun : -1 ≤ noun ∧ noun ≤ 23) (hn : 1 ≤ action → action ≤ 3 → 0 ≤ noun) (h2 : 1 ≤ action → action ≤ 3 → noun < Xi S 904 19) (hB : ABV S) (hX : TXM S) (hD : DEFM S) (hM : LXM S) (hW : WYM S) (h23 : 2 ≤ Xi S 904 23) (h32 : 1 ≤ Xi S 904 32) (d : Nat) : Mt lay0 (d + 26) m_mo_does_2 [.ref 904, iv action, iv noun] S (Q_mo_does_2 S action noun) := by
  refine Mt_R rfl rfl ?_
  have hF : FR md_mo_does_2 S S := FR.rf
  have w1 : 0 ≤ Xi S 904 19 ∧ Xi S 904 19 ≤ 24 := hH.c _ _
  have w2 : 0 ≤ Xi S 904 23 ∧ Xi S 904 23 ≤ 24 := hH.c _ _
  have w3 : 0 ≤ Xi S 904 32 ∧ Xi S 904 32 ≤ 12 := hH.c _ _
  have hc3 : 0 ≤ Xi S 904 23 ∧ Xi S 904 23 ≤ 24 := hH.c _ _
  have hc19 : 0 ≤ Xi S 904 19 ∧ Xi S 904 19 ≤ 24 := hH.c _ _
  have hc32 : 0 ≤ Xi S 904 32 ∧ Xi S 904 32 ≤ 12 := hH.c _ _
  refine l_iload_n rfl rfl ?_
  refine l_tsw rfl rfl rfl rfl (by unfold rg; omega) (fun w4 => ?_) (fun ii tt hii w4 => ?_)
  · refine l_iconst rfl ?_
    refine l_ireturn rfl rfl ?_
    exact ⟨hH, hF, _, rfl, ⟨by omega, by omega⟩, (by first | exact W78 | exact W114 | exact W196 | exact W40 | exact hW | assumption | exact WYM_FR hF rfl hW)⟩
  · match ii, hii with
    | 0, hii =>
      cases hii
      have w5 : action = 1 := by simpa using w4
      refine l_iload_n rfl rfl ?_
      refine l_if_eq rfl rfl (by unfold rg; omega) (fun w6 => ?_) (fun w7 => ?_)
      · refine l_iconst rfl ?_
        refine l_ireturn rfl rfl ?_
        exact ⟨hH, hF, _, rfl, ⟨by omega, by omega⟩, (by first | exact W78 | exact W114 | exact W196 | exact W40 | exact hW | assumption | exact WYM_FR hF rfl hW)⟩
      · refine l_aload_n rfl rfl ?_
        refine l_iload_n rfl rfl ?_
        refine l_iconst rfl ?_
        refine l_iconst rfl ?_
        have w8 : 0 ≤ Xi S 904 19 ∧ Xi S 904 19 ≤ 24 := hH.c _ _
        refine l_callV rfl rfl rfl (t_mo_holds hH noun 0 0 ⟨by omega, by omega⟩ ⟨by omega, by omega⟩ ⟨by omega, by omega⟩ (Or.inl (by omega)) (by first | assumption | exact (ABV_FR hF rfl (by assumption : ABV S))) (by first | assumption | exact (TXM_FR hF rfl (by assumption : TXM S))) (by first | assumption | exact (DEFM_FR hF rfl (by assumption : DEFM S))) (by omega) _) ?_
        rintro _ T1 ⟨hHT1, w10, z9, rfl, w9⟩
        have hFT1 : FR md_mo_does_2 S T1 := FR.tr hF w10 rfl
        show Rl _ _ _ _ _ [iv z9] _ _
        have W40 : WYM T1 := WYM_FR (by assumption : FR md_mo_holds S T1) rfl hW
        refine l_if_ne rfl rfl (by unfold rg; omega) (fun w11 => ?_) (fun w12 => ?_)
        · refine l_iconst rfl ?_
          refine l_ireturn rfl rfl ?_
          exact ⟨hHT1, hFT1, _, rfl, ⟨by omega, by omega⟩, (by first | exact W78 | exact W114 | exact W196 | exact W40 | exact hW | assumption | exact WYM_FR hFT1 rfl hW)⟩
        · refine l_aload_n rfl rfl ?_
          refine l_iload_n rfl rfl ?_
          refine l_callV rfl rfl rfl (t_mo_isHeld hHT1 noun ⟨by omega, by omega⟩ _) ?_
          rintro _ _ ⟨rfl, z13, rfl, w13⟩
          show Rl _ _ _ _ _ [iv z13] _ _
          refine l_if_ne rfl rfl (by unfold rg; omega) (fun w14 => ?_) (fun w15 => ?_)
          · refine l_iconst rfl ?_
            refine l_ireturn rfl rfl ?_
            exact ⟨hHT1, hFT1, _, rfl, ⟨by omega, by omega⟩, (by first | exact W78 | exact W114 | exact W196 | exact W40 | exact hW | assumption | exact WYM_FR hFT1 rfl hW)⟩
          · refine l_aload_n rfl rfl ?_
            refine l_iconst rfl ?_
            refine l_iload_n rfl rfl ?_
            refine l_callV rfl rfl rfl (t_mo_isWithin hHT1 0 noun ⟨by omega, by omega⟩ ⟨by omega, by omega⟩ _) ?_
            rintro _ _ ⟨rfl, z16, rfl, w16⟩
            show Rl _ _ _ _ _ [iv z16] _ _
            refine l_if_eq rfl rfl (by unfold rg; omega) (fun w17 => ?_) (fun w18 => ?_)
            · refine l_aload_n rfl rfl ?_
              refine l_gfr rfl rfl rfl rfl rfl (hHT1.r 904 21 919 rfl) ?_
              refine l_iload_n rfl rfl ?_
              refine l_iconst rfl ?_
              refine l_iastore (n := 24) rfl rfl (by omega) (by omega) (by unfold rg; omega) ?_
              obtain ⟨U2, eU2⟩ : ∃ T : sS, T = uI T1 919 ((noun).toNat) (Int32.ofInt 4) := ⟨_, rfl⟩
              rw [← eU2]
              have hHU2 : HI U2 := by rw [eU2]; exact HI_w hHT1 (show 0 ≤ 4 by omega) (show 4 ≤ 5 by omega)
              have hFU2 : FR md_mo_does_2 S U2 := by rw [eU2]; exact FR.wI hFT1 (mdf_i (r := (919, 920, 0, 100000)) (List.mem_of_getElem? (i := 2) rfl) (inR_i (by omega) (by omega) (by omega) (by omega)))
              have w19 : Xi U2 919 ((noun).toNat) = 4 := by rw [eU2]; exact Xi_same (by unfold rg; omega)
              refine l_aload_n rfl rfl ?_
              refine l_gfr rfl rfl rfl rfl rfl (hHU2.r 904 22 920 rfl) ?_
              refine l_iload_n rfl rfl ?_
              refine l_iconst rfl ?_
              refine l_iastore (n := 24) rfl rfl (by omega) (by omega) (by unfold rg; omega) ?_
              obtain ⟨U3, eU3⟩ : ∃ T : sS, T = uI U2 920 ((noun).toNat) (Int32.ofInt 0) := ⟨_, rfl⟩
              rw [← eU3]
              have hHU3 : HI U3 := by rw [eU3]; exact HI_w hHU2 (show -1 ≤ 0 by omega) (show 0 ≤ 23 by omega)
              have hFU3 : FR md_mo_does_2 S U3 := by rw [eU3]; exact FR.wI hFU2 (mdf_i (r := (920, 921, 0, 100000)) (List.mem_of_getElem? (i := 3) rfl) (inR_i (by omega) (by omega) (by omega) (by omega)))
              have w20 : Xi U3 920 ((noun).toNat) = 0 := by rw [eU3]; exact Xi_same (by unfold rg; omega)
              have W78 : WYM U3 := wym_w eU2 eU3 (fun _ => by rw [eU3, Xi_same (by unfold rg; omega)]; omega) W40
              refine l_iconst rfl ?_
              refine l_ireturn rfl rfl ?_
              exact ⟨hHU3, hFU3, _, rfl, ⟨by omega, by omega⟩, (by first | exact W78 | exact W114 | exact W196 | exact W40 | exact hW | assumption | exact WYM_FR hFU3 rfl hW)⟩
            · refine l_iconst rfl ?_
              refine l_ireturn rfl rfl ?_
              exact ⟨hHT1, hFT1, _, rfl, ⟨by omega, by omega⟩, (by first | exact W78 | exact W114 | exact W196 | exact W40 | exact hW | assumption | exact WYM_FR hFT1 rfl hW)⟩
    | 1, hii =>
      cases hii
      have w21 : action = 2 := by simpa using w4
      refine l_aload_n rfl rfl ?_
      refine l_iload_n rfl rfl ?_
      refine l_callV rfl rfl rfl (t_mo_isHeld hH noun ⟨by omega, by omega⟩ _) ?_
      rintro _ _ ⟨rfl, z22, rfl, w22⟩
      show Rl _ _ _ _ _ [iv z22] _ _
      refine l_if_ne rfl rfl (by unfold rg; omega) (fun w23 => ?_) (fun w24 => ?_)
      · refine l_aload_n rfl rfl ?_
        refine l_gfr rfl rfl rfl rfl rfl (hH.r 904 21 919 rfl) ?_
        refine l_iload_n rfl rfl ?_
        refine l_aload_n rfl rfl ?_
        refine l_gfr rfl rfl rfl rfl rfl (hH.r 904 21 919 rfl) ?_
        refine l_iconst rfl ?_
        refine l_iaload (n := 24) rfl rfl (by omega) (by omega) (by unfold rg; omega) ?_
        have w25 : 0 ≤ (Xi S 919 ((0 : Int).toNat)) ∧ (Xi S 919 ((0 : Int).toNat)) ≤ 5 := hH.c _ _
        have w26 : (Xi S 919 ((0 : Int).toNat)) = Xi S 919 0 := rfl
        refine l_iastore (n := 24) rfl rfl (by omega) (by omega) (by unfold rg; omega) ?_
        obtain ⟨U4, eU4⟩ : ∃ T : sS, T = uI S 919 ((noun).toNat) (Int32.ofInt (Xi S 919 ((0 : Int).toNat))) := ⟨_, rfl⟩
        rw [← eU4]
        have hHU4 : HI U4 := by rw [eU4]; exact HI_w hH (show 0 ≤ (Xi S 919 ((0 : Int).toNat)) by omega) (show (Xi S 919 ((0 : Int).toNat)) ≤ 5 by omega)
        have hFU4 : FR md_mo_does_2 S U4 := by rw [eU4]; exact FR.wI hF (mdf_i (r := (919, 920, 0, 100000)) (List.mem_of_getElem? (i := 2) rfl) (inR_i (by omega) (by omega) (by omega) (by omega)))
        have w27 : Xi U4 919 ((noun).toNat) = (Xi S 919 ((0 : Int).toNat)) := by rw [eU4]; exact Xi_same (by unfold rg; omega)
        refine l_aload_n rfl rfl ?_
        refine l_gfr rfl rfl rfl rfl rfl (hHU4.r 904 22 920 rfl) ?_
        refine l_iload_n rfl rfl ?_
        refine l_aload_n rfl rfl ?_
        refine l_gfr rfl rfl rfl rfl rfl (hHU4.r 904 22 920 rfl) ?_
        refine l_iconst rfl ?_
        refine l_iaload (n := 24) rfl rfl (by omega) (by omega) (by unfold rg; omega) ?_
        have w28 : -1 ≤ (Xi U4 920 ((0 : Int).toNat)) ∧ (Xi U4 920 ((0 : Int).toNat)) ≤ 23 := hHU4.c _ _
        have w29 : (Xi U4 920 ((0 : Int).toNat)) = Xi U4 920 0 := rfl
        refine l_iastore (n := 24) rfl rfl (by omega) (by omega) (by unfold rg; omega) ?_
        obtain ⟨U5, eU5⟩ : ∃ T : sS, T = uI U4 920 ((noun).toNat) (Int32.ofInt (Xi U4 920 ((0 : Int).toNat))) := ⟨_, rfl⟩
        rw [← eU5]
        have hHU5 : HI U5 := by rw [eU5]; exact HI_w hHU4 (show -1 ≤ (Xi U4 920 ((0 : Int).toNat)) by omega) (show (Xi U4 920 ((0 : Int).toNat)) ≤ 23 by omega)
        have hFU5 : FR md_mo_does_2 S U5 := by rw [eU5]; exact FR.wI hFU4 (mdf_i (r := (920, 921, 0, 100000)) (List.mem_of_getElem? (i := 3) rfl) (inR_i (by omega) (by omega) (by omega) (by omega)))
        have w30 : Xi U5 920 ((noun).toNat) = (Xi U4 920 ((0 : Int).toNat)) := by rw [eU5]; exact Xi_same (by unfold rg; omega)
        have W114 : WYM U5 := wym_w eU4 eU5 (fun q => by have t := hW 0 (by omega); have y : Xi U4 920 0 = Xi S 920 0 := (by rw [eU4, Xi_ne (by omega)]); rw [eU5, Xi_ne (by omega)] at q; omega) hW
        refine l_iconst rfl ?_
        refine l_ireturn rfl rfl ?_
        exact ⟨hHU5, hFU5, _, rfl, ⟨by omega, by omega⟩, (by first | exact W78 | exact W114 | exact W196 | exact W40 | exact hW | assumption | exact WYM_FR hFU5 rfl hW)⟩
      · refine l_iconst rfl ?_
        refine l_ireturn rfl rfl ?_
        exact ⟨hH, hF, _, rfl, ⟨by omega, by omega⟩, (by first | exact W78 | exact W114 | exact W196 | exact W40 | exact hW | assumption | exact WYM_FR hF rfl hW)⟩
    | 2, hii =>
      cases hii
      have w31 : action = 3 := by simpa using w4
      refine l_aload_n rfl rfl ?_
      refine l_iload_n rfl rfl ?_
      refine l_iconst rfl ?_
      have w32 : 0 ≤ Xi S 904 19 ∧ Xi S 904 19 ≤ 24 := hH.c _ _
      refine l_callV rfl rfl rfl (t_mo_putProperty hH noun 0 ⟨by omega, by omega⟩ ⟨by omega, by omega⟩ (by first | assumption | exact (ABV_FR hF rfl (by assumption : ABV S))) (by first | assumption | exact (TXM_FR hF rfl (by assumption : TXM S))) (by omega) _) ?_
      rintro _ T6 ⟨hHT6, w34, rfl⟩
      have hFT6 : FR md_mo_does_2 S T6 := FR.tr hF w34 rfl
      show Rl _ _ _ _ _ [] _ _
      refine l_aload_n rfl rfl ?_
      refine l_bipush rfl rfl ?_
      refine l_callV rfl rfl rfl (t_mo_put hHT6 10 ⟨by omega, by omega⟩ _) ?_
      rintro _ T7 ⟨hHT7, w36, rfl⟩
      have hFT7 : FR md_mo_does_2 S T7 := FR.tr hFT6 w36 rfl
      show Rl _ _ _ _ _ [] _ _
      refine l_iconst rfl ?_
      refine l_ireturn rfl rfl ?_
      exact ⟨hHT7, hFT7, _, rfl, ⟨by omega, by omega⟩, (by first | exact W78 | exact W114 | exact W196 | exact W40 | exact hW | assumption | exact WYM_FR hFT7 rfl hW)⟩
    | 3, hii =>
      cases hii
      have w37 : action = 4 := by simpa using w4
      refine l_aload_n rfl rfl ?_
      refine l_gfr rfl rfl rfl rfl rfl (hH.r 904 21 919 rfl) ?_
      refine l_iconst rfl ?_
      refine l_iaload (n := 24) rfl rfl (by omega) (by omega) (by unfold rg; omega) ?_
      have w38 : 0 ≤ (Xi S 919 ((0 : Int).toNat)) ∧ (Xi S 919 ((0 : Int).toNat)) ≤ 5 := hH.c _ _
      have w39 : (Xi S 919 ((0 : Int).toNat)) = Xi S 919 0 := rfl
      refine l_iconst rfl ?_
      refine l_icmp_ne rfl rfl (by unfold rg; omega) (by unfold rg; omega) (fun w40 => ?_) (fun w41 => ?_)
      · refine l_iconst rfl ?_
        refine l_istore_n rfl rfl rfl ?_
        refine l_aload_n rfl rfl ?_
        refine l_gfr rfl rfl rfl rfl rfl (hH.r 904 22 920 rfl) ?_
        refine l_iconst rfl ?_
        refine l_iload_n rfl rfl ?_
        refine l_iconst rfl ?_
        refine l_icmp_ne rfl rfl (by unfold rg; omega) (by unfold rg; omega) (fun w42 => absurd w42 (by omega)) (fun w43 => ?_)
        · refine l_aload_n rfl rfl ?_
          refine l_gfr rfl rfl rfl rfl rfl (hH.r 904 22 920 rfl) ?_
          refine l_iconst rfl ?_
          refine l_iaload (n := 24) rfl rfl (by omega) (by omega) (by unfold rg; omega) ?_
          have w44 : -1 ≤ (Xi S 920 ((0 : Int).toNat)) ∧ (Xi S 920 ((0 : Int).toNat)) ≤ 23 := hH.c _ _
          have w45 : (Xi S 920 ((0 : Int).toNat)) = Xi S 920 0 := rfl
          refine l_goto rfl rfl ?_
          refine l_iastore (n := 24) rfl rfl (by omega) (by omega) (by unfold rg; omega) ?_
          obtain ⟨U8, eU8⟩ : ∃ T : sS, T = uI S 920 ((0 : Int).toNat) (Int32.ofInt (Xi S 920 ((0 : Int).toNat))) := ⟨_, rfl⟩
          rw [← eU8]
          have hHU8 : HI U8 := by rw [eU8]; exact HI_w hH (show -1 ≤ (Xi S 920 ((0 : Int).toNat)) by omega) (show (Xi S 920 ((0 : Int).toNat)) ≤ 23 by omega)
          have hFU8 : FR md_mo_does_2 S U8 := by rw [eU8]; exact FR.wI hF (mdf_i (r := (920, 921, 0, 100000)) (List.mem_of_getElem? (i := 3) rfl) (inR_i (by omega) (by omega) (by omega) (by omega)))
          have w46 : Xi U8 920 ((0 : Int).toNat) = (Xi S 920 ((0 : Int).toNat)) := by rw [eU8]; exact Xi_same (by unfold rg; omega)
          have W196 : WYM U8 := wym_t eU8 (by omega) hW
          refine l_iload_n rfl rfl ?_
          refine l_iconst rfl ?_
          refine l_icmp_eq rfl rfl (by unfold rg; omega) (by unfold rg; omega) (fun w47 => ?_) (fun w48 => absurd w48 (by omega))
          · refine l_iconst rfl ?_
            refine l_ireturn rfl rfl ?_
            exact ⟨hHU8, hFU8, _, rfl, ⟨by omega, by omega⟩, (by first | exact W78 | exact W114 | exact W196 | exact W40 | exact hW | assumption | exact WYM_FR hFU8 rfl hW)⟩
      · refine l_aload_n rfl rfl ?_
        refine l_aload_n rfl rfl ?_
        refine l_gfr rfl rfl rfl rfl rfl (hH.r 904 20 918 rfl) ?_
        refine l_aload_n rfl rfl ?_
        refine l_gfr rfl rfl rfl rfl rfl (hH.r 904 22 920 rfl) ?_
        refine l_iconst rfl ?_
        refine l_iaload (n := 24) rfl rfl (by omega) (by omega) (by unfold rg; omega) ?_
        have w49 : -1 ≤ (Xi S 920 ((0 : Int).toNat)) ∧ (Xi S 920 ((0 : Int).toNat)) ≤ 23 := hH.c _ _
        have w50 : (Xi S 920 ((0 : Int).toNat)) = Xi S 920 0 := rfl
        have t151 : Xi S 919 0 ≠ 0 → 0 ≤ Xi S 920 0 := hW 0 (by omega)
        refine l_iaload (n := 24) rfl rfl (by omega) (by omega) (by unfold rg; omega) ?_
        have w51 : 0 ≤ (Xi S 918 (((Xi S 920 ((0 : Int).toNat))).toNat)) ∧ (Xi S 918 (((Xi S 920 ((0 : Int).toNat))).toNat)) ≤ 15 := hH.c _ _
        refine l_iconst rfl ?_
        refine l_callV rfl rfl rfl (t_mo_isBelow hH (Xi S 918 (((Xi S 920 ((0 : Int).toNat))).toNat)) 1 ⟨by omega, by omega⟩ ⟨by omega, by omega⟩ (by first | assumption | exact (ABV_FR hF rfl (by assumption : ABV S))) _) ?_
        rintro _ _ ⟨rfl, z53, rfl, w53, w52⟩
        show Rl _ _ _ _ _ [iv z53] _ _
        refine l_if_eq rfl rfl (by unfold rg; omega) (fun w54 => ?_) (fun w55 => ?_)
        · refine l_iconst rfl ?_
          refine l_istore_n rfl rfl rfl ?_
          refine l_aload_n rfl rfl ?_
          refine l_gfr rfl rfl rfl rfl rfl (hH.r 904 22 920 rfl) ?_
          refine l_iconst rfl ?_
          refine l_iload_n rfl rfl ?_
          refine l_iconst rfl ?_
          refine l_icmp_ne rfl rfl (by unfold rg; omega) (by unfold rg; omega) (fun w56 => absurd w56 (by omega)) (fun w57 => ?_)
          · refine l_aload_n rfl rfl ?_
            refine l_gfr rfl rfl rfl rfl rfl (hH.r 904 22 920 rfl) ?_
            refine l_iconst rfl ?_
            refine l_iaload (n := 24) rfl rfl (by omega) (by omega) (by unfold rg; omega) ?_
            refine l_goto rfl rfl ?_
            refine l_iastore (n := 24) rfl rfl (by omega) (by omega) (by unfold rg; omega) ?_
            obtain ⟨U9, eU9⟩ : ∃ T : sS, T = uI S 920 ((0 : Int).toNat) (Int32.ofInt (Xi S 920 ((0 : Int).toNat))) := ⟨_, rfl⟩
            rw [← eU9]
            have hHU9 : HI U9 := by rw [eU9]; exact HI_w hH (show -1 ≤ (Xi S 920 ((0 : Int).toNat)) by omega) (show (Xi S 920 ((0 : Int).toNat)) ≤ 23 by omega)
            have hFU9 : FR md_mo_does_2 S U9 := by rw [eU9]; exact FR.wI hF (mdf_i (r := (920, 921, 0, 100000)) (List.mem_of_getElem? (i := 3) rfl) (inR_i (by omega) (by omega) (by omega) (by omega)))
            have w58 : Xi U9 920 ((0 : Int).toNat) = (Xi S 920 ((0 : Int).toNat)) := by rw [eU9]; exact Xi_same (by unfold rg; omega)
            have W196 : WYM U9 := wym_t eU9 (by omega) hW
            refine l_iload_n rfl rfl ?_
            refine l_iconst rfl ?_
            refine l_icmp_eq rfl rfl (by unfold rg; omega) (by unfold rg; omega) (fun w59 => ?_) (fun w60 => absurd w60 (by omega))
            · refine l_iconst rfl ?_
              refine l_ireturn rfl rfl ?_
              exact ⟨hHU9, hFU9, _, rfl, ⟨by omega, by omega⟩, (by first | exact W78 | exact W114 | exact W196 | exact W40 | exact hW | assumption | exact WYM_FR hFU9 rfl hW)⟩
        · refine l_aload_n rfl rfl ?_
          refine l_aload_n rfl rfl ?_
          refine l_gfr rfl rfl rfl rfl rfl (hH.r 904 22 920 rfl) ?_
          refine l_iconst rfl ?_
          refine l_iaload (n := 24) rfl rfl (by omega) (by omega) (by unfold rg; omega) ?_
          refine l_iload_n rfl rfl ?_
          refine l_callV rfl rfl rfl (t_mo_leadsTo hH (Xi S 920 ((0 : Int).toNat)) noun ⟨by omega, by omega⟩ ⟨by omega, by omega⟩ _) ?_
          rintro _ _ ⟨rfl, z61, rfl, w61⟩
          show Rl _ _ _ _ _ [iv z61] _ _
          refine l_goto rfl rfl ?_
          refine l_istore_n rfl rfl rfl ?_
          refine l_aload_n rfl rfl ?_
          refine l_gfr rfl rfl rfl rfl rfl (hH.r 904 22 920 rfl) ?_
          refine l_iconst rfl ?_
          refine l_iload_n rfl rfl ?_
          refine l_iconst rfl ?_
          refine l_icmp_ne rfl rfl (by unfold rg; omega) (by unfold rg; omega) (fun w62 => ?_) (fun w63 => ?_)
          · refine l_iload_n rfl rfl ?_
            refine l_iastore (n := 24) rfl rfl (by omega) (by omega) (by unfold rg; omega) ?_
            obtain ⟨U10, eU10⟩ : ∃ T : sS, T = uI S 920 ((0 : Int).toNat) (Int32.ofInt z61) := ⟨_, rfl⟩
            rw [← eU10]
            have hHU10 : HI U10 := by rw [eU10]; exact HI_w hH (show -1 ≤ z61 by omega) (show z61 ≤ 23 by omega)
            have hFU10 : FR md_mo_does_2 S U10 := by rw [eU10]; exact FR.wI hF (mdf_i (r := (920, 921, 0, 100000)) (List.mem_of_getElem? (i := 3) rfl) (inR_i (by omega) (by omega) (by omega) (by omega)))
            have w64 : Xi U10 920 ((0 : Int).toNat) = z61 := by rw [eU10]; exact Xi_same (by unfold rg; omega)
            have W196 : WYM U10 := wym_t eU10 (by omega) hW
            refine l_iload_n rfl rfl ?_
            refine l_iconst rfl ?_
            refine l_icmp_eq rfl rfl (by unfold rg; omega) (by unfold rg; omega) (fun w65 => ?_) (fun w66 => ?_)
            · refine l_iconst rfl ?_
              refine l_ireturn rfl rfl ?_
              exact ⟨hHU10, hFU10, _, rfl, ⟨by omega, by omega⟩, (by first | exact W78 | exact W114 | exact W196 | exact W40 | exact hW | assumption | exact WYM_FR hFU10 rfl hW)⟩
            · refine l_iconst rfl ?_
              refine l_goto rfl rfl ?_
              refine l_ireturn rfl rfl ?_
              exact ⟨hHU10, hFU10, _, rfl, ⟨by omega, by omega⟩, (by first | exact W78 | exact W114 | exact W196 | exact W40 | exact hW | assumption | exact WYM_FR hFU10 rfl hW)⟩
          · refine l_aload_n rfl rfl ?_
            refine l_gfr rfl rfl rfl rfl rfl (hH.r 904 22 920 rfl) ?_
            refine l_iconst rfl ?_
            refine l_iaload (n := 24) rfl rfl (by omega) (by omega) (by unfold rg; omega) ?_
            refine l_goto rfl rfl ?_
            refine l_iastore (n := 24) rfl rfl (by omega) (by omega) (by unfold rg; omega) ?_
            obtain ⟨U11, eU11⟩ : ∃ T : sS, T = uI S 920 ((0 : Int).toNat) (Int32.ofInt (Xi S 920 ((0 : Int).toNat))) := ⟨_, rfl⟩
            rw [← eU11]
            have hHU11 : HI U11 := by rw [eU11]; exact HI_w hH (show -1 ≤ (Xi S 920 ((0 : Int).toNat)) by omega) (show (Xi S 920 ((0 : Int).toNat)) ≤ 23 by omega)
            have hFU11 : FR md_mo_does_2 S U11 := by rw [eU11]; exact FR.wI hF (mdf_i (r := (920, 921, 0, 100000)) (List.mem_of_getElem? (i := 3) rfl) (inR_i (by omega) (by omega) (by omega) (by omega)))
            have w67 : Xi U11 920 ((0 : Int).toNat) = (Xi S 920 ((0 : Int).toNat)) := by rw [eU11]; exact Xi_same (by unfold rg; omega)
            have W196 : WYM U11 := wym_t eU11 (by omega) hW
            refine l_iload_n rfl rfl ?_
            refine l_iconst rfl ?_
            refine l_icmp_eq rfl rfl (by unfold rg; omega) (by unfold rg; omega) (fun w68 => ?_) (fun w69 => ?_)
            · refine l_iconst rfl ?_
              refine l_ireturn rfl rfl ?_
              exact ⟨hHU11, hFU11, _, rfl, ⟨by omega, by omega⟩, (by first | exact W78 | exact W114 | exact W196 | exact W40 | exact hW | assumption | exact WYM_FR hFU11 rfl hW)⟩
            · refine l_iconst rfl ?_
              refine l_goto rfl rfl ?_
              refine l_ireturn rfl rfl ?_
              exact ⟨hHU11, hFU11, _, rfl, ⟨by omega, by omega⟩, (by first | exact W78 | exact W114 | exact W196 | exact W40 | exact hW | assumption | exact WYM_FR hFU11 rfl hW)⟩
    | n + 4, hii => exact absurd hii (by simp)
def md_mo_action : List rec := [(904, 905, 154, 155), (904, 905, 156, 157), (904, 905, 158, 159), (904, 905, 160, 161), (904, 905, 161, 162), (904, 905, 162, 163), (919, 920, 0, 100000), (920, 921, 0, 100000), (925, 926, 0, 100000), (930, 931, 0, 100000), (931, 932, 0, 100000), (932, 933, 0, 100000), (940, 941, 0, 100000), (993, 994, 0, 100000), (994, 995, 0, 100000)]
abbrev Q_mo_action (S : sS) (a : Int) (noun : Int) (dd : Int) : pst := fun r S1 => HI S1 ∧ FR md_mo_action S S1 ∧ (∃ z : Int, r = some (iv z) ∧ (0 ≤ z ∧ z ≤ 5) ∧ (TXM S1) ∧ (WYM S1))
def md_mo_tries : List rec := [(904, 905, 154, 155), (904, 905, 156, 157), (904, 905, 158, 159), (904, 905, 160, 161), (904, 905, 161, 162), (904, 905, 162, 163), (919, 920, 0, 100000), (920, 921, 0, 100000), (925, 926, 0, 100000), (930, 931, 0, 100000), (931, 932, 0, 100000), (932, 933, 0, 100000), (940, 941, 0, 100000), (993, 994, 0, 100000), (994, 995, 0, 100000)]
abbrev Q_mo_tries (S : sS) (q : Int) (noun : Int) (dq : Int) : pst := fun r S1 => HI S1 ∧ FR md_mo_tries S S1 ∧ (r = none ∧ (TXM S1) ∧ (WYM S1))
set_option maxRecDepth 100000 in
theorem u_mo_tries {S : sS} (hH : HI S) (q : Int) (noun : Int) (dq : Int) (hq : 0 ≤ q ∧ q ≤ 2399) (hnoun : -1 ≤ noun ∧ noun ≤ 23) (hdq : 0 ≤ dq ∧ dq ≤ 8) (hk : 0 ≤ Xi S 972 q.toNat ∧ Xi S 972 q.toNat < Xi S 904 49) (hg : Xi S 970 q.toNat ≠ 0 → Xi S 942 (Xi S 972 q.toNat).toNat < 0) (ht : Xi S 970 q.toNat = 0 → thK S False (0 ≤ noun) (Xi S 971 q.toNat)) (h2 : noun < Xi S 904 19) (hX : TXM S) (hD : DEFM S) (hR : RULM S) (hB : ABV S) (hM : LXM S) (hW : WYM S) (hA : AKR S) (d : Nat) (hrec : ∀ {S : sS} (_ : HI S) (a : Int) (noun : Int) (dd : Int) (ha : 0 ≤ a ∧ a ≤ 11) (hnoun : -1 ≤ noun ∧ noun ≤ 23) (hdd : 0 ≤ dd ∧ dd ≤ 8) (hn : 0 ≤ Xi S 942 a.toNat → 0 ≤ noun) (h2 : 0 ≤ Xi S 942 a.toNat → noun < Xi S 904 19) (hX : TXM S) (hD : DEFM S) (hR : RULM S) (hB : ABV S) (hM : LXM S) (hW : WYM S) (hA : AKR S), (dq < 8 ∧ dd = dq + 1) → Mt lay0 (d + 29) m_mo_action [.ref 904, iv a, iv noun, iv dd] S (Q_mo_action S a noun dd)) : Mt lay0 (d + 30) m_mo_tries [.ref 904, iv q, iv noun, iv dq] S (Q_mo_tries S q noun dq) := by
  refine Mt_R rfl rfl ?_
  have hF : FR md_mo_tries S S := FR.rf
  have w1 : 0 ≤ Xi S 904 19 ∧ Xi S 904 19 ≤ 24 := hH.c _ _
  have w2 : 0 ≤ Xi S 904 49 ∧ Xi S 904 49 ≤ 12 := hH.c _ _
  have hc3 : 0 ≤ Xi S 904 23 ∧ Xi S 904 23 ≤ 24 := hH.c _ _
  have hc19 : 0 ≤ Xi S 904 19 ∧ Xi S 904 19 ≤ 24 := hH.c _ _
  have hc32 : 0 ≤ Xi S 904 32 ∧ Xi S 904 32 ≤ 12 := hH.c _ _
  have hc49 : 0 ≤ Xi S 904 49 ∧ Xi S 904 49 ≤ 12 := hH.c _ _
  refine l_aload_n rfl rfl ?_
  refine l_gfr rfl rfl rfl rfl rfl (hH.r 904 121 972 rfl) ?_
  refine l_iload_n rfl rfl ?_
  refine l_iaload (n := 2400) rfl rfl (by omega) (by omega) (by unfold rg; omega) ?_
  have w3 : -1 ≤ (Xi S 972 ((q).toNat)) ∧ (Xi S 972 ((q).toNat)) ≤ 11 := hH.c _ _
  refine l_istore rfl rfl rfl ?_
  refine l_iload_n rfl rfl ?_
  refine l_bipush rfl rfl ?_
  refine l_icmp_ne rfl rfl (by unfold rg; omega) (by unfold rg; omega) (fun w4 => ?_) (fun w5 => ?_)
  · refine l_aload_n rfl rfl ?_
    refine l_gfr rfl rfl rfl rfl rfl (hH.r 904 119 970 rfl) ?_
    refine l_iload_n rfl rfl ?_
    refine l_baload (n := 2400) rfl rfl rfl (by decide) (by omega) (by omega) (by unfold rg; omega) ?_
    have w6 : 0 ≤ (Xi S 970 ((q).toNat)) ∧ (Xi S 970 ((q).toNat)) ≤ 1 := hH.c _ _
    refine l_if_eq rfl rfl (by unfold rg; omega) (fun w7 => ?_) (fun w8 => ?_)
    · refine l_aload_n rfl rfl ?_
      refine l_gfr rfl rfl rfl rfl rfl (hH.r 904 120 971 rfl) ?_
      refine l_iload_n rfl rfl ?_
      refine l_iaload (n := 2400) rfl rfl (by omega) (by omega) (by unfold rg; omega) ?_
      have w9 : -9 ≤ (Xi S 971 ((q).toNat)) ∧ (Xi S 971 ((q).toNat)) ≤ 23 := hH.c _ _
      refine l_iconst rfl ?_
      refine l_iload_n rfl rfl ?_
      refine l_callS rfl rfl (by decide) rfl (t_mo_thingIs hH (Xi S 971 ((q).toNat)) (-1) noun ⟨by omega, by omega⟩ ⟨by omega, by omega⟩ ⟨by omega, by omega⟩ _) ?_
      rintro _ _ ⟨rfl, z11, rfl, w11, w10⟩
      show Rl _ _ _ _ _ [iv z11] _ _
      have o44 : 0 ≤ z11 ∧ z11 < Xi S 904 19 := thk_i (it := -1) (noun := noun) (ht (by omega)) (fun h => absurd h (fun f => f)) (fun h => h) (by omega) h2 (by assumption)
      refine l_istore rfl rfl rfl ?_
      refine l_aload_n rfl rfl ?_
      refine l_aload_n rfl rfl ?_
      refine l_gfr rfl rfl rfl rfl rfl (hH.r 904 20 918 rfl) ?_
      refine l_iload rfl rfl ?_
      refine l_iaload (n := 24) rfl rfl (by omega) (by omega) (by unfold rg; omega) ?_
      have w12 : 0 ≤ (Xi S 918 ((z11).toNat)) ∧ (Xi S 918 ((z11).toNat)) ≤ 15 := hH.c _ _
      refine l_aload_n rfl rfl ?_
      refine l_gfr rfl rfl rfl rfl rfl (hH.r 904 50 942 rfl) ?_
      refine l_iload rfl rfl ?_
      refine l_iaload (n := 12) rfl rfl (by omega) (by omega) (by unfold rg; omega) ?_
      have w13 : -2 ≤ (Xi S 942 (((Xi S 972 ((q).toNat))).toNat)) ∧ (Xi S 942 (((Xi S 972 ((q).toNat))).toNat)) ≤ 15 := hH.c _ _
      refine l_callV rfl rfl rfl (t_mo_isBelow hH (Xi S 918 ((z11).toNat)) (Xi S 942 (((Xi S 972 ((q).toNat))).toNat)) ⟨by omega, by omega⟩ ⟨by omega, by omega⟩ (by first | assumption | exact (ABV_FR hF rfl (by assumption : ABV S))) _) ?_
      rintro _ _ ⟨rfl, z15, rfl, w15, w14⟩
      show Rl _ _ _ _ _ [iv z15] _ _
      have b64 : z15 = 1 → 0 ≤ Xi S 942 (Xi S 972 q.toNat).toNat := fun e => by have t := (by assumption : z15 = 1 → 0 ≤ _ ∧ 0 ≤ Xi S 942 (Xi S 972 q.toNat).toNat) e; exact t.2
      refine l_if_eq rfl rfl (by unfold rg; omega) (fun w16 => ?_) (fun w17 => ?_)
      · refine l_return rfl rfl ?_
        exact ⟨hH, hF, rfl, (by first | assumption | exact hX), (by first | assumption | exact hW)⟩
      · refine l_aload_n rfl rfl ?_
        refine l_iload rfl rfl ?_
        refine l_iload rfl rfl ?_
        refine l_iload_n rfl rfl ?_
        refine l_iconst rfl ?_
        refine l_iadd rfl ?_
        have w18 : 0 ≤ Xi S 904 19 ∧ Xi S 904 19 ≤ 24 := hH.c _ _
        refine l_callV rfl rfl rfl (hrec hH (Xi S 972 ((q).toNat)) z11 (dq + 1) ⟨by omega, by omega⟩ ⟨by omega, by omega⟩ ⟨by omega, by omega⟩ (by omega) (by omega) (by first | assumption | exact (by assumption : TXM S)) (by first | assumption | exact (DEFM_FR hF rfl (by assumption : DEFM S))) (by first | assumption | exact (RULM_FR hF rfl (by assumption : RULM S))) (by first | assumption | exact (ABV_FR hF rfl (by assumption : ABV S))) (by first | assumption | exact (LXM_FR hF rfl (by assumption : LXM S))) (by first | assumption | exact (by assumption : WYM S)) (by first | assumption | exact (AKR_FR hF rfl (by assumption : AKR S))) (by omega)) ?_
        rintro _ T1 ⟨hHT1, w22, z21, rfl, w21, w19, w20⟩
        have hFT1 : FR md_mo_tries S T1 := FR.tr hF w22 rfl
        show Rl _ _ _ _ _ [iv z21] _ _
        refine l_pop rfl rfl ?_
        refine l_return rfl rfl ?_
        exact ⟨hHT1, hFT1, rfl, (by first | assumption | exact hX), (by first | assumption | exact hW)⟩
    · refine l_aload_n rfl rfl ?_
      refine l_iload rfl rfl ?_
      refine l_iconst rfl ?_
      refine l_iload_n rfl rfl ?_
      refine l_iconst rfl ?_
      refine l_iadd rfl ?_
      have w23 : 0 ≤ Xi S 904 19 ∧ Xi S 904 19 ≤ 24 := hH.c _ _
      refine l_callV rfl rfl rfl (hrec hH (Xi S 972 ((q).toNat)) (-1) (dq + 1) ⟨by omega, by omega⟩ ⟨by omega, by omega⟩ ⟨by omega, by omega⟩ (by omega) (by omega) (by first | assumption | exact (by assumption : TXM S)) (by first | assumption | exact (DEFM_FR hF rfl (by assumption : DEFM S))) (by first | assumption | exact (RULM_FR hF rfl (by assumption : RULM S))) (by first | assumption | exact (ABV_FR hF rfl (by assumption : ABV S))) (by first | assumption | exact (LXM_FR hF rfl (by assumption : LXM S))) (by first | assumption | exact (by assumption : WYM S)) (by first | assumption | exact (AKR_FR hF rfl (by assumption : AKR S))) (by omega)) ?_
      rintro _ T2 ⟨hHT2, w27, z26, rfl, w26, w24, w25⟩
      have hFT2 : FR md_mo_tries S T2 := FR.tr hF w27 rfl
      show Rl _ _ _ _ _ [iv z26] _ _
      refine l_pop rfl rfl ?_
      refine l_return rfl rfl ?_
      exact ⟨hHT2, hFT2, rfl, (by first | assumption | exact hX), (by first | assumption | exact hW)⟩
  · refine l_return rfl rfl ?_
    exact ⟨hH, hF, rfl, (by first | assumption | exact hX), (by first | assumption | exact hW)⟩
def md_mo_runs : List rec := [(904, 905, 154, 155), (904, 905, 156, 157), (904, 905, 158, 159), (904, 905, 160, 161), (904, 905, 161, 162), (904, 905, 162, 163), (919, 920, 0, 100000), (920, 921, 0, 100000), (925, 926, 0, 100000), (930, 931, 0, 100000), (931, 932, 0, 100000), (932, 933, 0, 100000), (940, 941, 0, 100000), (993, 994, 0, 100000), (994, 995, 0, 100000)]
abbrev Q_mo_runs (S : sS) (r : Int) (noun : Int) (dr : Int) : pst := fun r S1 => HI S1 ∧ FR md_mo_runs S S1 ∧ (∃ z : Int, r = some (iv z) ∧ (0 ≤ z ∧ z ≤ 1) ∧ (TXM S1) ∧ (WYM S1))
set_option maxRecDepth 100000 in
theorem u_mo_runs {S : sS} (hH : HI S) (r : Int) (noun : Int) (dr : Int) (hr : 0 ≤ r ∧ r ≤ 23) (hnoun : -1 ≤ noun ∧ noun ≤ 23) (hdr : 0 ≤ dr ∧ dr ≤ 8) (hr : r < Xi S 904 130) (hn : nM S r.toNat → 0 ≤ noun) (h2 : noun < Xi S 904 19) (hX : TXM S) (hD : DEFM S) (hR : RULM S) (hB : ABV S) (hM : LXM S) (hW : WYM S) (hA : AKR S) (d : Nat) (hrec : ∀ {S : sS} (_ : HI S) (q : Int) (noun : Int) (dq : Int) (hq : 0 ≤ q ∧ q ≤ 2399) (hnoun : -1 ≤ noun ∧ noun ≤ 23) (hdq : 0 ≤ dq ∧ dq ≤ 8) (hk : 0 ≤ Xi S 972 q.toNat ∧ Xi S 972 q.toNat < Xi S 904 49) (hg : Xi S 970 q.toNat ≠ 0 → Xi S 942 (Xi S 972 q.toNat).toNat < 0) (ht : Xi S 970 q.toNat = 0 → thK S False (0 ≤ noun) (Xi S 971 q.toNat)) (h2 : noun < Xi S 904 19) (hX : TXM S) (hD : DEFM S) (hR : RULM S) (hB : ABV S) (hM : LXM S) (hW : WYM S) (hA : AKR S), (dq = dr) → Mt lay0 (d + 30) m_mo_tries [.ref 904, iv q, iv noun, iv dq] S (Q_mo_tries S q noun dq)) : Mt lay0 (d + 31) m_mo_runs [.ref 904, iv r, iv noun, iv dr] S (Q_mo_runs S r noun dr) := by
  refine Mt_R rfl rfl ?_
  have hF : FR md_mo_runs S S := FR.rf
  have w1 : 0 ≤ Xi S 904 130 ∧ Xi S 904 130 ≤ 24 := hH.c _ _
  have w2 : 0 ≤ Xi S 904 19 ∧ Xi S 904 19 ≤ 24 := hH.c _ _
  have hc3 : 0 ≤ Xi S 904 23 ∧ Xi S 904 23 ≤ 24 := hH.c _ _
  have hc19 : 0 ≤ Xi S 904 19 ∧ Xi S 904 19 ≤ 24 := hH.c _ _
  have hc32 : 0 ≤ Xi S 904 32 ∧ Xi S 904 32 ≤ 12 := hH.c _ _
  have hr1 := (hR r.toNat (by omega)).1
  have h986 : 0 ≤ Xi S 986 r.toNat ∧ Xi S 986 r.toNat ≤ 192 := hH.c 986 r.toNat
  have h987 : 0 ≤ Xi S 987 r.toNat ∧ Xi S 987 r.toNat ≤ 8 := hH.c 987 r.toNat
  have C3 : ∀ (n3 : Nat) (T1 : sS) (_ : HI T1) (_ : FR md_mo_runs S T1) (v4 : Int), (0 ≤ v4 ∧ v4 ≤ 8) → (TXM T1) → (WYM T1) → n3 = (9 - v4).toNat → Rl lay0 (d + 30) m_mo_runs 3 [(0, .ref 904), (1, iv r), (2, iv noun), (3, iv dr), (4, iv v4)] [] T1 (Q_mo_runs S r noun dr) := by
    intro n3
    induction n3 using Nat.strongRecOn with
    | ind n3 ih3 =>
      intro T1 hHT1 hFT1 v4 w3 hX3 hW3 hm3
      have w4 : Xi T1 904 130 = Xi S 904 130 := hFT1.x _ _ rfl
      have w5 : Xi T1 904 19 = Xi S 904 19 := hFT1.x _ _ rfl
      have w6 : Xi T1 904 32 = Xi S 904 32 := hFT1.x _ _ rfl
      have w7 : Xi T1 904 49 = Xi S 904 49 := hFT1.x _ _ rfl
      refine l_iload rfl rfl ?_
      refine l_aload_n rfl rfl ?_
      refine l_gfr rfl rfl rfl rfl rfl (hHT1.r 904 140 987 rfl) ?_
      refine l_iload_n rfl rfl ?_
      refine l_iaload (n := 24) rfl rfl (by omega) (by omega) (by unfold rg; omega) ?_
      have w8 : 0 ≤ (Xi T1 987 ((r).toNat)) ∧ (Xi T1 987 ((r).toNat)) ≤ 8 := hHT1.c _ _
      have e10 : (Xi T1 987 ((r).toNat)) = Xi S 987 r.toNat := by first | rfl | exact (hFT1.cx 987 rfl _).1
      refine l_icmp_ge rfl rfl (by unfold rg; omega) (by unfold rg; omega) (fun w9 => ?_) (fun w10 => ?_)
      · refine l_iconst rfl ?_
        refine l_ireturn rfl rfl ?_
        exact ⟨hHT1, hFT1, _, rfl, ⟨by omega, by omega⟩, (by first | assumption | exact hX), (by first | assumption | exact hW)⟩
      · refine l_aload_n rfl rfl ?_
        refine l_gfi rfl rfl rfl rfl rfl ?_
        have w11 : 0 ≤ (Xi T1 904 162) ∧ (Xi T1 904 162) ≤ 1 := hHT1.c _ _
        refine l_if_ne rfl rfl (by unfold rg; omega) (fun w12 => ?_) (fun w13 => ?_)
        · refine l_iconst rfl ?_
          refine l_ireturn rfl rfl ?_
          exact ⟨hHT1, hFT1, _, rfl, ⟨by omega, by omega⟩, (by first | assumption | exact hX), (by first | assumption | exact hW)⟩
        · refine l_aload_n rfl rfl ?_
          refine l_gfi rfl rfl rfl rfl rfl ?_
          have w14 : 0 ≤ (Xi T1 904 161) ∧ (Xi T1 904 161) ≤ 300 := hHT1.c _ _
          refine l_sipush rfl rfl ?_
          refine l_icmp_ne rfl rfl (by unfold rg; omega) (by unfold rg; omega) (fun w15 => ?_) (fun w16 => ?_)
          · refine l_aload_n rfl rfl ?_
            refine l_dup rfl rfl ?_
            refine l_gfi rfl rfl rfl rfl rfl ?_
            refine l_iconst rfl ?_
            refine l_iadd rfl ?_
            refine l_pfi rfl rfl rfl rfl ?_
            obtain ⟨U2, eU2⟩ : ∃ T : sS, T = uI T1 904 161 (Int32.ofInt ((Xi T1 904 161) + 1)) := ⟨_, rfl⟩
            rw [← eU2]
            have hHU2 : HI U2 := by rw [eU2]; exact HI_w hHT1 (show 0 ≤ ((Xi T1 904 161) + 1) by omega) (show ((Xi T1 904 161) + 1) ≤ 300 by omega)
            have hFU2 : FR md_mo_runs S U2 := by rw [eU2]; exact FR.wI hFT1 (mdf_i (r := (904, 905, 161, 162)) (List.mem_of_getElem? (i := 4) rfl) (inR_i (by omega) (by omega) (by omega) (by omega)))
            have w17 : Xi U2 904 161 = ((Xi T1 904 161) + 1) := by rw [eU2]; exact Xi_same (by unfold rg; omega)
            refine l_aload_n rfl rfl ?_
            refine l_gfr rfl rfl rfl rfl rfl (hHU2.r 904 127 977 rfl) ?_
            refine l_aload_n rfl rfl ?_
            refine l_gfr rfl rfl rfl rfl rfl (hHU2.r 904 139 986 rfl) ?_
            refine l_iload_n rfl rfl ?_
            refine l_iaload (n := 24) rfl rfl (by omega) (by omega) (by unfold rg; omega) ?_
            have w18 : 0 ≤ (Xi U2 986 ((r).toNat)) ∧ (Xi U2 986 ((r).toNat)) ≤ 192 := hHU2.c _ _
            have e57 : (Xi U2 986 ((r).toNat)) = Xi S 986 r.toNat := by first | rfl | exact (hFU2.cx 986 rfl _).1
            refine l_iload rfl rfl ?_
            refine l_iadd rfl ?_
            refine l_iaload (n := 2000) rfl rfl (by omega) (by omega) (by unfold rg; omega) ?_
            have w19 : 0 ≤ (Xi U2 977 ((((Xi U2 986 ((r).toNat)) + v4)).toNat)) ∧ (Xi U2 977 ((((Xi U2 986 ((r).toNat)) + v4)).toNat)) ≤ 2400 := hHU2.c _ _
            have hp61 : PQ U2 (nM S r.toNat) (Xi U2 986 r.toNat + v4).toNat := by rw [(hFU2.cx 986 rfl _).1]; exact PQ_FR hFU2 rfl (rul_ph hR (by omega) hr (i := v4) (by omega) (by omega) (by omega) rfl)
            have q61 : 0 ≤ (Xi U2 977 ((((Xi U2 986 ((r).toNat)) + v4)).toNat)) ∧ (Xi U2 977 ((((Xi U2 986 ((r).toNat)) + v4)).toNat)) < 2400 := ⟨(hHU2.c 977 _).1, hp61.1⟩
            refine l_istore rfl rfl rfl ?_
            refine l_aload_n rfl rfl ?_
            refine l_gfr rfl rfl rfl rfl rfl (hHU2.r 904 126 976 rfl) ?_
            refine l_aload_n rfl rfl ?_
            refine l_gfr rfl rfl rfl rfl rfl (hHU2.r 904 139 986 rfl) ?_
            refine l_iload_n rfl rfl ?_
            refine l_iaload (n := 24) rfl rfl (by omega) (by omega) (by unfold rg; omega) ?_
            have e73 : (Xi U2 986 ((r).toNat)) = Xi S 986 r.toNat := by first | rfl | exact (hFU2.cx 986 rfl _).1
            refine l_iload rfl rfl ?_
            refine l_iadd rfl ?_
            refine l_iaload (n := 2000) rfl rfl (by omega) (by omega) (by unfold rg; omega) ?_
            have w20 : 0 ≤ (Xi U2 976 ((((Xi U2 986 ((r).toNat)) + v4)).toNat)) ∧ (Xi U2 976 ((((Xi U2 986 ((r).toNat)) + v4)).toNat)) ≤ 6 := hHU2.c _ _
            refine l_tsw rfl rfl rfl rfl (by unfold rg; omega) (fun w21 => ?_) (fun ii tt hii w21 => ?_)
            · refine l_iconst rfl ?_
              refine l_ireturn rfl rfl ?_
              exact ⟨hHU2, hFU2, _, rfl, ⟨by omega, by omega⟩, (by first | assumption | exact hX), (by first | assumption | exact hW)⟩
            · match ii, hii with
              | 0, hii =>
                cases hii
                have w22 : (Xi U2 976 ((((Xi U2 986 ((r).toNat)) + v4)).toNat)) = 0 := by simpa using w21
                refine l_aload_n rfl rfl ?_
                refine l_iload_n rfl rfl ?_
                refine l_pfi rfl rfl rfl rfl ?_
                obtain ⟨U3, eU3⟩ : ∃ T : sS, T = uI U2 904 158 (Int32.ofInt noun) := ⟨_, rfl⟩
                rw [← eU3]
                have hHU3 : HI U3 := by rw [eU3]; exact HI_w hHU2 (show -1 ≤ noun by omega) (show noun ≤ 23 by omega)
                have hFU3 : FR md_mo_runs S U3 := by rw [eU3]; exact FR.wI hFU2 (mdf_i (r := (904, 905, 158, 159)) (List.mem_of_getElem? (i := 2) rfl) (inR_i (by omega) (by omega) (by omega) (by omega)))
                have w23 : Xi U3 904 158 = noun := by rw [eU3]; exact Xi_same (by unfold rg; omega)
                have x118 : TXM U3 := TXM_FR (FR_e eU3) rfl (TXM_FR (FR_e eU2) rfl hX3)
                have z118 : 0 ≤ Xi U3 973 ((Xi U2 977 ((((Xi U2 986 ((r).toNat)) + v4)).toNat))).toNat ∧ 0 ≤ Xi U3 974 ((Xi U2 977 ((((Xi U2 986 ((r).toNat)) + v4)).toNat))).toNat ∧ Xi U3 973 ((Xi U2 977 ((((Xi U2 986 ((r).toNat)) + v4)).toNat))).toNat + Xi U3 974 ((Xi U2 977 ((((Xi U2 986 ((r).toNat)) + v4)).toNat))).toNat ≤ 5000 := by have t := hp61.2.1 (by omega); rw [((FR_e eU3).cx 973 rfl _).1, ((FR_e eU3).cx 974 rfl _).1]; exact t
                refine l_aload_n rfl rfl ?_
                refine l_aload_n rfl rfl ?_
                refine l_gfr rfl rfl rfl rfl rfl (hHU3.r 904 122 973 rfl) ?_
                refine l_iload rfl rfl ?_
                refine l_iaload (n := 2400) rfl rfl (by omega) (by omega) (by unfold rg; omega) ?_
                have w24 : -2147483648 ≤ (Xi U3 973 (((Xi U2 977 ((((Xi U2 986 ((r).toNat)) + v4)).toNat))).toNat)) ∧ (Xi U3 973 (((Xi U2 977 ((((Xi U2 986 ((r).toNat)) + v4)).toNat))).toNat)) ≤ 2147483647 := Xi_rgI
                refine l_aload_n rfl rfl ?_
                refine l_gfr rfl rfl rfl rfl rfl (hHU3.r 904 123 974 rfl) ?_
                refine l_iload rfl rfl ?_
                refine l_iaload (n := 2400) rfl rfl (by omega) (by omega) (by unfold rg; omega) ?_
                have w25 : -2147483648 ≤ (Xi U3 974 (((Xi U2 977 ((((Xi U2 986 ((r).toNat)) + v4)).toNat))).toNat)) ∧ (Xi U3 974 (((Xi U2 977 ((((Xi U2 986 ((r).toNat)) + v4)).toNat))).toNat)) ≤ 2147483647 := Xi_rgI
                have w26 : -1 ≤ Xi U3 904 158 ∧ Xi U3 904 158 ≤ 23 := hHU3.c _ _
                have w27 : Xi U3 904 19 = Xi T1 904 19 := (show Xi U3 904 19 = Xi U2 904 19 from by rw [eU3]; exact Xi_ne (by omega)).trans ((show Xi U2 904 19 = Xi T1 904 19 from by rw [eU2]; exact Xi_ne (by omega)))
                have w28 : 0 ≤ Xi T1 904 19 ∧ Xi T1 904 19 ≤ 24 := hHT1.c _ _
                refine l_callV rfl rfl rfl (t_mo_written hHU3 (Xi U3 973 (((Xi U2 977 ((((Xi U2 986 ((r).toNat)) + v4)).toNat))).toNat)) (Xi U3 974 (((Xi U2 977 ((((Xi U2 986 ((r).toNat)) + v4)).toNat))).toNat)) ⟨by omega, by omega⟩ ⟨by omega, by omega⟩ (by first | assumption | omega) (by first | assumption | exact (LXM_FR hFU3 rfl (by assumption : LXM S))) (by first | assumption | exact (ABV_FR hFU3 rfl (by assumption : ABV S))) (by first | assumption | exact (TXM_FR (FR_e eU3) rfl (TXM_FR (FR_e eU2) rfl (by assumption : TXM T1)))) (by omega) _) ?_
                rintro _ T4 ⟨hHT4, w30, z29, rfl, w29⟩
                have hFT4 : FR md_mo_runs S T4 := FR.tr hFU3 w30 rfl
                show Rl _ _ _ _ _ [iv z29] _ _
                refine l_pop rfl rfl ?_
                refine l_aload_n rfl rfl ?_
                refine l_bipush rfl rfl ?_
                refine l_callV rfl rfl rfl (t_mo_put hHT4 10 ⟨by omega, by omega⟩ _) ?_
                rintro _ T5 ⟨hHT5, w32, rfl⟩
                have hFT5 : FR md_mo_runs S T5 := FR.tr hFT4 w32 rfl
                show Rl _ _ _ _ _ [] _ _
                refine l_goto rfl rfl ?_
                refine l_iinc rfl rfl rfl rfl ?_
                refine l_goto rfl rfl ?_
                exact Rl_weak (ih3 _ (by omega) T5 hHT5 hFT5 ((v4 + 1)) (by omega) (by first | assumption | exact (TXM_FR w32 rfl (TXM_FR w30 rfl (TXM_FR (FR_e eU3) rfl (TXM_FR (FR_e eU2) rfl (by assumption : TXM T1)))))) (by first | assumption | exact (WYM_FR w32 rfl (WYM_FR w30 rfl (WYM_FR (FR_e eU3) rfl (WYM_FR (FR_e eU2) rfl (by assumption : WYM T1)))))) rfl) (And.intro rfl (And.intro rfl (And.intro rfl (And.intro rfl (And.intro rfl (True.intro))))))
              | 1, hii =>
                cases hii
                have w33 : (Xi U2 976 ((((Xi U2 986 ((r).toNat)) + v4)).toNat)) = 1 := by simpa using w21
                refine l_aload_n rfl rfl ?_
                refine l_iload rfl rfl ?_
                refine l_iload_n rfl rfl ?_
                have w34 : Xi U2 904 19 = Xi T1 904 19 := (show Xi U2 904 19 = Xi T1 904 19 from by rw [eU2]; exact Xi_ne (by omega))
                have w35 : 0 ≤ Xi T1 904 19 ∧ Xi T1 904 19 ≤ 24 := hHT1.c _ _
                refine l_callV rfl rfl rfl (t_mo_nows hHU2 (Xi U2 977 ((((Xi U2 986 ((r).toNat)) + v4)).toNat)) noun ⟨by omega, by omega⟩ ⟨by omega, by omega⟩ ((hp61.2.2.1 (by omega)).mono hn) (by omega) (by first | assumption | exact (TXM_FR (FR_e eU2) rfl (by assumption : TXM T1))) _) ?_
                rintro _ T6 ⟨hHT6, w38, rfl, w36⟩
                have hFT6 : FR md_mo_runs S T6 := FR.tr hFU2 w38 rfl
                show Rl _ _ _ _ _ [] _ _
                have x153 : TXM T6 := by assumption
                refine l_goto rfl rfl ?_
                refine l_iinc rfl rfl rfl rfl ?_
                refine l_goto rfl rfl ?_
                exact Rl_weak (ih3 _ (by omega) T6 hHT6 hFT6 ((v4 + 1)) (by omega) (by first | assumption | exact (by assumption : TXM T6)) (by first | assumption | exact (WYM_FR w38 rfl (WYM_FR (FR_e eU2) rfl (by assumption : WYM T1)))) rfl) (And.intro rfl (And.intro rfl (And.intro rfl (And.intro rfl (And.intro rfl (True.intro))))))
              | 2, hii =>
                cases hii
                have w39 : (Xi U2 976 ((((Xi U2 986 ((r).toNat)) + v4)).toNat)) = 2 := by simpa using w21
                refine l_aload_n rfl rfl ?_
                refine l_aload_n rfl rfl ?_
                refine l_gfr rfl rfl rfl rfl rfl (hHU2.r 904 120 971 rfl) ?_
                refine l_iload rfl rfl ?_
                refine l_iaload (n := 2400) rfl rfl (by omega) (by omega) (by unfold rg; omega) ?_
                have w40 : -9 ≤ (Xi U2 971 (((Xi U2 977 ((((Xi U2 986 ((r).toNat)) + v4)).toNat))).toNat)) ∧ (Xi U2 971 (((Xi U2 977 ((((Xi U2 986 ((r).toNat)) + v4)).toNat))).toNat)) ≤ 23 := hHU2.c _ _
                refine l_iconst rfl ?_
                refine l_iload_n rfl rfl ?_
                refine l_callS rfl rfl (by decide) rfl (t_mo_thingIs hHU2 (Xi U2 971 (((Xi U2 977 ((((Xi U2 986 ((r).toNat)) + v4)).toNat))).toNat)) (-1) noun ⟨by omega, by omega⟩ ⟨by omega, by omega⟩ ⟨by omega, by omega⟩ _) ?_
                rintro _ _ ⟨rfl, z42, rfl, w42, w41⟩
                show Rl _ _ _ _ _ [iv z42, .ref 904] _ _
                refine l_aload_n rfl rfl ?_
                refine l_gfr rfl rfl rfl rfl rfl (hHU2.r 904 124 975 rfl) ?_
                refine l_iload rfl rfl ?_
                refine l_iaload (n := 2400) rfl rfl (by omega) (by omega) (by unfold rg; omega) ?_
                have w43 : -9 ≤ (Xi U2 975 (((Xi U2 977 ((((Xi U2 986 ((r).toNat)) + v4)).toNat))).toNat)) ∧ (Xi U2 975 (((Xi U2 977 ((((Xi U2 986 ((r).toNat)) + v4)).toNat))).toNat)) ≤ 23 := hHU2.c _ _
                refine l_iconst rfl ?_
                refine l_iload_n rfl rfl ?_
                refine l_callS rfl rfl (by decide) rfl (t_mo_thingIs hHU2 (Xi U2 975 (((Xi U2 977 ((((Xi U2 986 ((r).toNat)) + v4)).toNat))).toNat)) (-1) noun ⟨by omega, by omega⟩ ⟨by omega, by omega⟩ ⟨by omega, by omega⟩ _) ?_
                rintro _ _ ⟨rfl, z45, rfl, w45, w44⟩
                show Rl _ _ _ _ _ [iv z45, iv z42, .ref 904] _ _
                refine l_callV rfl rfl rfl (t_mo_moves hHU2 z42 z45 ⟨by omega, by omega⟩ ⟨by omega, by omega⟩ (by first | assumption | exact (ABV_FR hFU2 rfl (by assumption : ABV S))) (by first | assumption | exact (WYM_FR (FR_e eU2) rfl (by assumption : WYM T1))) _) ?_
                rintro _ T7 ⟨hHT7, w48, rfl, w46⟩
                have hFT7 : FR md_mo_runs S T7 := FR.tr hFU2 w48 rfl
                show Rl _ _ _ _ _ [] _ _
                refine l_goto rfl rfl ?_
                refine l_iinc rfl rfl rfl rfl ?_
                refine l_goto rfl rfl ?_
                exact Rl_weak (ih3 _ (by omega) T7 hHT7 hFT7 ((v4 + 1)) (by omega) (by first | assumption | exact (TXM_FR w48 rfl (TXM_FR (FR_e eU2) rfl (by assumption : TXM T1)))) (by first | assumption | exact (by assumption : WYM T7)) rfl) (And.intro rfl (And.intro rfl (And.intro rfl (And.intro rfl (And.intro rfl (True.intro))))))
              | 3, hii =>
                cases hii
                have w49 : (Xi U2 976 ((((Xi U2 986 ((r).toNat)) + v4)).toNat)) = 3 := by simpa using w21
                refine l_aload_n rfl rfl ?_
                refine l_iload rfl rfl ?_
                refine l_iload_n rfl rfl ?_
                refine l_aload_n rfl rfl ?_
                refine l_gfr rfl rfl rfl rfl rfl (hHU2.r 904 122 973 rfl) ?_
                refine l_iload rfl rfl ?_
                refine l_iaload (n := 2400) rfl rfl (by omega) (by omega) (by unfold rg; omega) ?_
                have w50 : -2147483648 ≤ (Xi U2 973 (((Xi U2 977 ((((Xi U2 986 ((r).toNat)) + v4)).toNat))).toNat)) ∧ (Xi U2 973 (((Xi U2 977 ((((Xi U2 986 ((r).toNat)) + v4)).toNat))).toNat)) ≤ 2147483647 := Xi_rgI
                have w51 : Xi U2 904 19 = Xi T1 904 19 := (show Xi U2 904 19 = Xi T1 904 19 from by rw [eU2]; exact Xi_ne (by omega))
                have w52 : 0 ≤ Xi T1 904 19 ∧ Xi T1 904 19 ≤ 24 := hHT1.c _ _
                have w53 : Xi U2 904 32 = Xi T1 904 32 := (show Xi U2 904 32 = Xi T1 904 32 from by rw [eU2]; exact Xi_ne (by omega))
                have w54 : 0 ≤ Xi T1 904 32 ∧ Xi T1 904 32 ≤ 12 := hHT1.c _ _
                refine l_callV rfl rfl rfl (t_mo_adds hHU2 (Xi U2 977 ((((Xi U2 986 ((r).toNat)) + v4)).toNat)) noun (Xi U2 973 (((Xi U2 977 ((((Xi U2 986 ((r).toNat)) + v4)).toNat))).toNat)) ⟨by omega, by omega⟩ ⟨by omega, by omega⟩ ⟨by omega, by omega⟩ ((hp61.2.2.2.2.1 (by omega)).1.mono hn) ((hp61.2.2.2.2.1 (by omega)).2) (by omega) (by first | assumption | exact (ABV_FR hFU2 rfl (by assumption : ABV S))) (by first | assumption | exact (TXM_FR (FR_e eU2) rfl (by assumption : TXM T1))) _) ?_
                rintro _ T8 ⟨hHT8, w57, rfl, w55⟩
                have hFT8 : FR md_mo_runs S T8 := FR.tr hFU2 w57 rfl
                show Rl _ _ _ _ _ [] _ _
                have x201 : TXM T8 := by assumption
                refine l_goto rfl rfl ?_
                refine l_iinc rfl rfl rfl rfl ?_
                refine l_goto rfl rfl ?_
                exact Rl_weak (ih3 _ (by omega) T8 hHT8 hFT8 ((v4 + 1)) (by omega) (by first | assumption | exact (by assumption : TXM T8)) (by first | assumption | exact (WYM_FR w57 rfl (WYM_FR (FR_e eU2) rfl (by assumption : WYM T1)))) rfl) (And.intro rfl (And.intro rfl (And.intro rfl (And.intro rfl (And.intro rfl (True.intro))))))
              | 4, hii =>
                cases hii
                have w58 : (Xi U2 976 ((((Xi U2 986 ((r).toNat)) + v4)).toNat)) = 4 := by simpa using w21
                refine l_aload_n rfl rfl ?_
                refine l_iload rfl rfl ?_
                refine l_iload_n rfl rfl ?_
                refine l_aload_n rfl rfl ?_
                refine l_gfr rfl rfl rfl rfl rfl (hHU2.r 904 122 973 rfl) ?_
                refine l_iload rfl rfl ?_
                refine l_iaload (n := 2400) rfl rfl (by omega) (by omega) (by unfold rg; omega) ?_
                have w59 : -2147483648 ≤ (Xi U2 973 (((Xi U2 977 ((((Xi U2 986 ((r).toNat)) + v4)).toNat))).toNat)) ∧ (Xi U2 973 (((Xi U2 977 ((((Xi U2 986 ((r).toNat)) + v4)).toNat))).toNat)) ≤ 2147483647 := Xi_rgI
                refine l_ineg rfl ?_
                have w60 : Xi U2 904 19 = Xi T1 904 19 := (show Xi U2 904 19 = Xi T1 904 19 from by rw [eU2]; exact Xi_ne (by omega))
                have w61 : 0 ≤ Xi T1 904 19 ∧ Xi T1 904 19 ≤ 24 := hHT1.c _ _
                have w62 : Xi U2 904 32 = Xi T1 904 32 := (show Xi U2 904 32 = Xi T1 904 32 from by rw [eU2]; exact Xi_ne (by omega))
                have w63 : 0 ≤ Xi T1 904 32 ∧ Xi T1 904 32 ≤ 12 := hHT1.c _ _
                refine l_callV rfl rfl rfl (t_mo_adds hHU2 (Xi U2 977 ((((Xi U2 986 ((r).toNat)) + v4)).toNat)) noun (-(Xi U2 973 (((Xi U2 977 ((((Xi U2 986 ((r).toNat)) + v4)).toNat))).toNat))) ⟨by omega, by omega⟩ ⟨by omega, by omega⟩ ⟨by omega, by omega⟩ ((hp61.2.2.2.2.1 (by omega)).1.mono hn) ((hp61.2.2.2.2.1 (by omega)).2) (by omega) (by first | assumption | exact (ABV_FR hFU2 rfl (by assumption : ABV S))) (by first | assumption | exact (TXM_FR (FR_e eU2) rfl (by assumption : TXM T1))) _) ?_
                rintro _ T9 ⟨hHT9, w66, rfl, w64⟩
                have hFT9 : FR md_mo_runs S T9 := FR.tr hFU2 w66 rfl
                show Rl _ _ _ _ _ [] _ _
                have x219 : TXM T9 := by assumption
                refine l_goto rfl rfl ?_
                refine l_iinc rfl rfl rfl rfl ?_
                refine l_goto rfl rfl ?_
                exact Rl_weak (ih3 _ (by omega) T9 hHT9 hFT9 ((v4 + 1)) (by omega) (by first | assumption | exact (by assumption : TXM T9)) (by first | assumption | exact (WYM_FR w66 rfl (WYM_FR (FR_e eU2) rfl (by assumption : WYM T1)))) rfl) (And.intro rfl (And.intro rfl (And.intro rfl (And.intro rfl (And.intro rfl (True.intro))))))
              | 5, hii =>
                cases hii
                have w67 : (Xi U2 976 ((((Xi U2 986 ((r).toNat)) + v4)).toNat)) = 5 := by simpa using w21
                refine l_aload_n rfl rfl ?_
                refine l_iload rfl rfl ?_
                refine l_iload_n rfl rfl ?_
                refine l_iload_n rfl rfl ?_
                have w68 : Xi U2 904 19 = Xi T1 904 19 := (show Xi U2 904 19 = Xi T1 904 19 from by rw [eU2]; exact Xi_ne (by omega))
                have w69 : 0 ≤ Xi T1 904 19 ∧ Xi T1 904 19 ≤ 24 := hHT1.c _ _
                have w70 : Xi U2 904 49 = Xi T1 904 49 := (show Xi U2 904 49 = Xi T1 904 49 from by rw [eU2]; exact Xi_ne (by omega))
                have w71 : 0 ≤ Xi T1 904 49 ∧ Xi T1 904 49 ≤ 12 := hHT1.c _ _
                refine l_callV rfl rfl rfl (hrec hHU2 (Xi U2 977 ((((Xi U2 986 ((r).toNat)) + v4)).toNat)) noun dr ⟨by omega, by omega⟩ ⟨by omega, by omega⟩ ⟨by omega, by omega⟩ ((hp61.2.2.2.2.2 (by omega)).1) ((hp61.2.2.2.2.2 (by omega)).2.2) (fun q => ((hp61.2.2.2.2.2 (by omega)).2.1 q).mono hn) (by omega) (by first | assumption | exact (TXM_FR (FR_e eU2) rfl (by assumption : TXM T1))) (by first | assumption | exact (DEFM_FR hFU2 rfl (by assumption : DEFM S))) (by first | assumption | exact (RULM_FR hFU2 rfl (by assumption : RULM S))) (by first | assumption | exact (ABV_FR hFU2 rfl (by assumption : ABV S))) (by first | assumption | exact (LXM_FR hFU2 rfl (by assumption : LXM S))) (by first | assumption | exact (WYM_FR (FR_e eU2) rfl (by assumption : WYM T1))) (by first | assumption | exact (AKR_FR hFU2 rfl (by assumption : AKR S))) (by omega)) ?_
                rintro _ T10 ⟨hHT10, w75, rfl, w72, w73⟩
                have hFT10 : FR md_mo_runs S T10 := FR.tr hFU2 w75 rfl
                show Rl _ _ _ _ _ [] _ _
                refine l_goto rfl rfl ?_
                refine l_iinc rfl rfl rfl rfl ?_
                refine l_goto rfl rfl ?_
                exact Rl_weak (ih3 _ (by omega) T10 hHT10 hFT10 ((v4 + 1)) (by omega) (by first | assumption | exact (by assumption : TXM T10)) (by first | assumption | exact (by assumption : WYM T10)) rfl) (And.intro rfl (And.intro rfl (And.intro rfl (And.intro rfl (And.intro rfl (True.intro))))))
              | n + 6, hii => exact absurd hii (by simp)
          · refine l_aload_n rfl rfl ?_
            refine l_iconst rfl ?_
            refine l_pfz rfl rfl rfl rfl (by omega) ?_
            obtain ⟨U11, eU11⟩ : ∃ T : sS, T = uI T1 904 162 (Int32.ofInt 1) := ⟨_, rfl⟩
            rw [← eU11]
            have hHU11 : HI U11 := by rw [eU11]; exact HI_w hHT1 (show 0 ≤ 1 by omega) (show 1 ≤ 1 by omega)
            have hFU11 : FR md_mo_runs S U11 := by rw [eU11]; exact FR.wI hFT1 (mdf_i (r := (904, 905, 162, 163)) (List.mem_of_getElem? (i := 5) rfl) (inR_i (by omega) (by omega) (by omega) (by omega)))
            have w76 : Xi U11 904 162 = 1 := by rw [eU11]; exact Xi_same (by unfold rg; omega)
            refine l_iconst rfl ?_
            refine l_ireturn rfl rfl ?_
            exact ⟨hHU11, hFU11, _, rfl, ⟨by omega, by omega⟩, (by first | assumption | exact hX), (by first | assumption | exact hW)⟩
  refine l_iconst rfl ?_
  refine l_istore rfl rfl rfl ?_
  exact Rl_weak (C3 _ S hH hF (0) (by omega) (by first | assumption | exact (by assumption : TXM S)) (by first | assumption | exact (by assumption : WYM S)) rfl) (And.intro rfl (And.intro rfl (And.intro rfl (And.intro rfl (And.intro rfl (True.intro))))))
set_option maxRecDepth 100000 in
theorem u_mo_action {S : sS} (hH : HI S) (a : Int) (noun : Int) (dd : Int) (ha : 0 ≤ a ∧ a ≤ 11) (hnoun : -1 ≤ noun ∧ noun ≤ 23) (hdd : 0 ≤ dd ∧ dd ≤ 8) (hn : 0 ≤ Xi S 942 a.toNat → 0 ≤ noun) (h2 : 0 ≤ Xi S 942 a.toNat → noun < Xi S 904 19) (hX : TXM S) (hD : DEFM S) (hR : RULM S) (hB : ABV S) (hM : LXM S) (hW : WYM S) (hA : AKR S) (d : Nat) (hrec : ∀ {S : sS} (_ : HI S) (r : Int) (noun : Int) (dr : Int) (hr : 0 ≤ r ∧ r ≤ 23) (hnoun : -1 ≤ noun ∧ noun ≤ 23) (hdr : 0 ≤ dr ∧ dr ≤ 8) (hr : r < Xi S 904 130) (hn : nM S r.toNat → 0 ≤ noun) (h2 : noun < Xi S 904 19) (hX : TXM S) (hD : DEFM S) (hR : RULM S) (hB : ABV S) (hM : LXM S) (hW : WYM S) (hA : AKR S), (dr = dd) → Mt lay0 (d + 31) m_mo_runs [.ref 904, iv r, iv noun, iv dr] S (Q_mo_runs S r noun dr)) : Mt lay0 (d + 32) m_mo_action [.ref 904, iv a, iv noun, iv dd] S (Q_mo_action S a noun dd) := by
  refine Mt_R rfl rfl ?_
  have hF : FR md_mo_action S S := FR.rf
  have w1 : 0 ≤ Xi S 904 19 ∧ Xi S 904 19 ≤ 24 := hH.c _ _
  have hc3 : 0 ≤ Xi S 904 23 ∧ Xi S 904 23 ≤ 24 := hH.c _ _
  have hc19 : 0 ≤ Xi S 904 19 ∧ Xi S 904 19 ≤ 24 := hH.c _ _
  have hc32 : 0 ≤ Xi S 904 32 ∧ Xi S 904 32 ≤ 12 := hH.c _ _
  have ha1 := akr_n hA hn
  have ha3 := akr_n (noun := Xi S 904 19 - 1 - noun) hA (fun q => by have := h2 q; omega)
  have ha2 : 2 ≤ Xi S 904 23 ∧ 1 ≤ Xi S 904 32 := hA.2.2.2.2.2.2
  have C19 : ∀ (n19 : Nat) (T1 : sS) (_ : HI T1) (_ : FR md_mo_action S T1) (v4 : Int) (v5 : Int), (-1 ≤ v4 ∧ v4 ≤ 23) → (0 ≤ v5 ∧ v5 ≤ 25) → (TXM T1) → (WYM T1) → (0 ≤ Xi S 942 a.toNat → 0 ≤ v4) → (v4 < Xi S 904 19) → n19 = (26 - v5).toNat → Rl lay0 (d + 31) m_mo_action 19 [(0, .ref 904), (1, iv a), (2, iv noun), (3, iv dd), (4, iv v4), (5, iv v5)] [] T1 (Q_mo_action S a noun dd) := by
    intro n19
    induction n19 using Nat.strongRecOn with
    | ind n19 ih19 =>
      intro T1 hHT1 hFT1 v4 v5 w2 w3 hX19 hW19 hv19 w4 hm19
      have w5 : Xi T1 904 130 = Xi S 904 130 := hFT1.x _ _ rfl
      have w6 : Xi T1 904 19 = Xi S 904 19 := hFT1.x _ _ rfl
      have w7 : Xi T1 904 23 = Xi S 904 23 := hFT1.x _ _ rfl
      have w8 : Xi T1 904 32 = Xi S 904 32 := hFT1.x _ _ rfl
      have C78 : ∀  (T2 : sS) (_ : HI T2) (_ : FR md_mo_action S T2) (v4 : Int), (-1 ≤ v4 ∧ v4 ≤ 23) → (TXM T2) → (WYM T2) → (0 ≤ Xi S 942 a.toNat → 0 ≤ v4) → (v4 < Xi S 904 19) → Rl lay0 (d + 31) m_mo_action 78 [(0, .ref 904), (1, iv a), (2, iv noun), (3, iv dd), (4, iv v4)] [] T2 (Q_mo_action S a noun dd) := by
        intro T2 hHT2 hFT2 v4 w9 hX78 hW78 hv78 w10
        have w11 : Xi T2 904 130 = Xi S 904 130 := hFT2.x _ _ rfl
        have w12 : Xi T2 904 19 = Xi S 904 19 := hFT2.x _ _ rfl
        have w13 : Xi T2 904 23 = Xi S 904 23 := hFT2.x _ _ rfl
        have w14 : Xi T2 904 32 = Xi S 904 32 := hFT2.x _ _ rfl
        have C81 : ∀ (n81 : Nat) (T3 : sS) (_ : HI T3) (_ : FR md_mo_action S T3) (v4 : Int) (v5 : Int), (-1 ≤ v4 ∧ v4 ≤ 23) → (0 ≤ v5 ∧ v5 ≤ 25) → (TXM T3) → (WYM T3) → (0 ≤ Xi S 942 a.toNat → 0 ≤ v4) → (v4 < Xi S 904 19) → n81 = (26 - v5).toNat → Rl lay0 (d + 31) m_mo_action 81 [(0, .ref 904), (1, iv a), (2, iv noun), (3, iv dd), (4, iv v4), (5, iv v5)] [] T3 (Q_mo_action S a noun dd) := by
          intro n81
          induction n81 using Nat.strongRecOn with
          | ind n81 ih81 =>
            intro T3 hHT3 hFT3 v4 v5 w15 w16 hX81 hW81 hv81 w17 hm81
            have w18 : Xi T3 904 130 = Xi S 904 130 := hFT3.x _ _ rfl
            have w19 : Xi T3 904 19 = Xi S 904 19 := hFT3.x _ _ rfl
            have w20 : Xi T3 904 23 = Xi S 904 23 := hFT3.x _ _ rfl
            have w21 : Xi T3 904 32 = Xi S 904 32 := hFT3.x _ _ rfl
            have C138 : ∀  (T4 : sS) (_ : HI T4) (_ : FR md_mo_action S T4) (v4 : Int), (-1 ≤ v4 ∧ v4 ≤ 23) → (TXM T4) → (WYM T4) → (0 ≤ Xi S 942 a.toNat → 0 ≤ v4) → (v4 < Xi S 904 19) → Rl lay0 (d + 31) m_mo_action 138 [(0, .ref 904), (1, iv a), (2, iv noun), (3, iv dd), (4, iv v4)] [] T4 (Q_mo_action S a noun dd) := by
              intro T4 hHT4 hFT4 v4 w22 hX138 hW138 hv138 w23
              have w24 : Xi T4 904 130 = Xi S 904 130 := hFT4.x _ _ rfl
              have w25 : Xi T4 904 19 = Xi S 904 19 := hFT4.x _ _ rfl
              have w26 : Xi T4 904 23 = Xi S 904 23 := hFT4.x _ _ rfl
              have w27 : Xi T4 904 32 = Xi S 904 32 := hFT4.x _ _ rfl
              have C161 : ∀ (n161 : Nat) (T5 : sS) (_ : HI T5) (_ : FR md_mo_action S T5) (v4 : Int) (v5 : Int), (-1 ≤ v4 ∧ v4 ≤ 23) → (0 ≤ v5 ∧ v5 ≤ 25) → (TXM T5) → (WYM T5) → (0 ≤ Xi S 942 a.toNat → 0 ≤ v4) → (v4 < Xi S 904 19) → n161 = (26 - v5).toNat → Rl lay0 (d + 31) m_mo_action 161 [(0, .ref 904), (1, iv a), (3, iv dd), (4, iv v4), (5, iv v5)] [] T5 (Q_mo_action S a noun dd) := by
                intro n161
                induction n161 using Nat.strongRecOn with
                | ind n161 ih161 =>
                  intro T5 hHT5 hFT5 v4 v5 w28 w29 hX161 hW161 hv161 w30 hm161
                  have w31 : Xi T5 904 130 = Xi S 904 130 := hFT5.x _ _ rfl
                  have w32 : Xi T5 904 19 = Xi S 904 19 := hFT5.x _ _ rfl
                  have w33 : Xi T5 904 23 = Xi S 904 23 := hFT5.x _ _ rfl
                  have w34 : Xi T5 904 32 = Xi S 904 32 := hFT5.x _ _ rfl
                  refine l_aload_n rfl rfl ?_
                  refine l_iconst rfl ?_
                  refine l_iload rfl rfl ?_
                  have w35 : 0 ≤ Xi T5 904 130 ∧ Xi T5 904 130 ≤ 24 := hHT5.c _ _
                  refine l_callV rfl rfl rfl (Mt_d (t_mo_ruleAt hHT5 2 v5 ⟨by omega, by omega⟩ ⟨by omega, by omega⟩ (by first | assumption | exact (ABV_FR hFT5 rfl (by assumption : ABV S))) _)) ?_
                  rintro _ _ ⟨⟨rfl, z39, rfl, w39, w36, w37, w38⟩, hd165⟩
                  show Rl _ _ _ _ _ [iv z39] _ _
                  refine l_iconst rfl ?_
                  refine l_icmp_eq rfl rfl (by unfold rg; omega) (by unfold rg; omega) (fun w40 => ?_) (fun w41 => ?_)
                  · refine l_iconst rfl ?_
                    refine l_ireturn rfl rfl ?_
                    exact ⟨hHT5, hFT5, _, rfl, ⟨by omega, by omega⟩, (by first | assumption | exact (by assumption : TXM T5)), (by first | assumption | exact (by assumption : WYM T5))⟩
                  · refine l_aload_n rfl rfl ?_
                    refine l_gfi rfl rfl rfl rfl rfl ?_
                    have w42 : 0 ≤ (Xi T5 904 162) ∧ (Xi T5 904 162) ≤ 1 := hHT5.c _ _
                    refine l_if_ne rfl rfl (by unfold rg; omega) (fun w43 => ?_) (fun w44 => ?_)
                    · refine l_iconst rfl ?_
                      refine l_ireturn rfl rfl ?_
                      exact ⟨hHT5, hFT5, _, rfl, ⟨by omega, by omega⟩, (by first | assumption | exact (by assumption : TXM T5)), (by first | assumption | exact (by assumption : WYM T5))⟩
                    · refine l_aload_n rfl rfl ?_
                      refine l_iconst rfl ?_
                      refine l_iload rfl rfl ?_
                      have w45 : 0 ≤ Xi T5 904 130 ∧ Xi T5 904 130 ≤ 24 := hHT5.c _ _
                      refine l_callV rfl rfl rfl (Mt_d (t_mo_ruleAt hHT5 2 v5 ⟨by omega, by omega⟩ ⟨by omega, by omega⟩ (by first | assumption | exact (ABV_FR hFT5 rfl (by assumption : ABV S))) _)) ?_
                      rintro _ _ ⟨⟨rfl, z49, rfl, w49, w46, w47, w48⟩, hd183⟩
                      show Rl _ _ _ _ _ [iv z49] _ _
                      have e183 := dv_i hd165 hd183 (by unfold rg; omega) (by unfold rg; omega)
                      refine l_istore rfl rfl rfl ?_
                      refine l_aload_n rfl rfl ?_
                      refine l_iload rfl rfl ?_
                      refine l_iload_n rfl rfl ?_
                      refine l_iload rfl rfl ?_
                      have w50 : 0 ≤ Xi T5 904 130 ∧ Xi T5 904 130 ≤ 24 := hHT5.c _ _
                      have w51 : 0 ≤ Xi T5 904 19 ∧ Xi T5 904 19 ≤ 24 := hHT5.c _ _
                      refine l_callV rfl rfl rfl (t_mo_applies hHT5 z49 a v4 ⟨by omega, by omega⟩ ⟨by omega, by omega⟩ ⟨by omega, by omega⟩ (by first | assumption | omega) (by first | assumption | exact (RULM_FR hFT5 rfl (by assumption : RULM S))) (by first | assumption | exact (DEFM_FR hFT5 rfl (by assumption : DEFM S))) (by first | assumption | exact (ABV_FR hFT5 rfl (by assumption : ABV S))) (by first | assumption | exact (by assumption : TXM T5)) (fun _ _ q => by first | exact hv19 (by rw [(hFT5.cx 942 rfl _).1] at q; exact q) | exact hv81 (by rw [(hFT5.cx 942 rfl _).1] at q; exact q) | exact hv161 (by rw [(hFT5.cx 942 rfl _).1] at q; exact q)) (by omega) _) ?_
                      rintro _ T6 ⟨hHT6, w54, z53, rfl, w53, w52⟩
                      have hFT6 : FR md_mo_action S T6 := FR.tr hFT5 w54 rfl
                      show Rl _ _ _ _ _ [iv z53] _ _
                      have q194 : z53 = 1 → nM S (z49).toNat → 0 ≤ v4 := fun e h => hv161 (by have t : Xi S 979 (z49).toNat = a := by rw [← (hFT5.cx 979 rfl _).1]; exact (by assumption : z53 = 1 → Xi T5 978 (z49).toNat < 3 → Xi T5 979 (z49).toNat = a) e (by omega); rw [← t]; exact h.2)
                      refine l_if_eq rfl rfl (by unfold rg; omega) (fun w55 => ?_) (fun w56 => ?_)
                      · refine l_iinc rfl rfl rfl rfl ?_
                        refine l_goto rfl rfl ?_
                        exact Rl_weak (ih161 _ (by omega) T6 hHT6 hFT6 (v4) ((v5 + 1)) (by omega) (by omega) (by first | assumption | exact (TXM_FR w54 rfl (by assumption : TXM T5))) (by first | assumption | exact (WYM_FR w54 rfl (by assumption : WYM T5))) (by first | exact hv161 | exact hv138 | exact hv81 | exact hv78 | exact hv19 | (intro q; first | exact hn q | (exfalso; omega))) (by omega) rfl) (And.intro rfl (And.intro rfl (And.intro rfl (And.intro rfl (And.intro rfl (True.intro))))))
                      · refine l_aload_n rfl rfl ?_
                        refine l_iload rfl rfl ?_
                        refine l_iload rfl rfl ?_
                        refine l_iload_n rfl rfl ?_
                        have w57 : Xi T6 904 130 = Xi T5 904 130 := (show Xi T6 904 130 = Xi T5 904 130 from w54.x _ _ rfl)
                        have w58 : 0 ≤ Xi T5 904 130 ∧ Xi T5 904 130 ≤ 24 := hHT5.c _ _
                        have w59 : Xi T6 904 19 = Xi T5 904 19 := (show Xi T6 904 19 = Xi T5 904 19 from w54.x _ _ rfl)
                        have w60 : 0 ≤ Xi T5 904 19 ∧ Xi T5 904 19 ≤ 24 := hHT5.c _ _
                        refine l_callV rfl rfl rfl (hrec hHT6 z49 v4 dd ⟨by omega, by omega⟩ ⟨by omega, by omega⟩ ⟨by omega, by omega⟩ (by first | assumption | omega) (by first | exact (q52 (by omega)) | exact q114 (by omega) | exact q194 (by omega)) (by omega) (by first | assumption | exact (TXM_FR w54 rfl (by assumption : TXM T5))) (by first | assumption | exact (DEFM_FR hFT6 rfl (by assumption : DEFM S))) (by first | assumption | exact (RULM_FR hFT6 rfl (by assumption : RULM S))) (by first | assumption | exact (ABV_FR hFT6 rfl (by assumption : ABV S))) (by first | assumption | exact (LXM_FR hFT6 rfl (by assumption : LXM S))) (by first | assumption | exact (WYM_FR w54 rfl (by assumption : WYM T5))) (by first | assumption | exact (AKR_FR hFT6 rfl (by assumption : AKR S))) (by omega)) ?_
                        rintro _ T7 ⟨hHT7, w64, z63, rfl, w63, w61, w62⟩
                        have hFT7 : FR md_mo_action S T7 := FR.tr hFT6 w64 rfl
                        show Rl _ _ _ _ _ [iv z63] _ _
                        refine l_if_eq rfl rfl (by unfold rg; omega) (fun w65 => ?_) (fun w66 => ?_)
                        · refine l_iinc rfl rfl rfl rfl ?_
                          refine l_goto rfl rfl ?_
                          exact Rl_weak (ih161 _ (by omega) T7 hHT7 hFT7 (v4) ((v5 + 1)) (by omega) (by omega) (by first | assumption | exact (by assumption : TXM T7)) (by first | assumption | exact (by assumption : WYM T7)) (by first | exact hv161 | exact hv138 | exact hv81 | exact hv78 | exact hv19 | (intro q; first | exact hn q | (exfalso; omega))) (by omega) rfl) (And.intro rfl (And.intro rfl (And.intro rfl (And.intro rfl (And.intro rfl (True.intro))))))
                        · refine l_iconst rfl ?_
                          refine l_ireturn rfl rfl ?_
                          exact ⟨hHT7, hFT7, _, rfl, ⟨by omega, by omega⟩, (by first | assumption | exact (by assumption : TXM T7)), (by first | assumption | exact (by assumption : WYM T7))⟩
              refine l_aload_n rfl rfl ?_
              refine l_gfi rfl rfl rfl rfl rfl ?_
              have w67 : 0 ≤ (Xi T4 904 162) ∧ (Xi T4 904 162) ≤ 1 := hHT4.c _ _
              refine l_if_eq rfl rfl (by unfold rg; omega) (fun w68 => ?_) (fun w69 => ?_)
              · refine l_aload_n rfl rfl ?_
                refine l_iload_n rfl rfl ?_
                refine l_iload_n rfl rfl ?_
                have w70 : 0 ≤ Xi T4 904 19 ∧ Xi T4 904 19 ≤ 24 := hHT4.c _ _
                have w71 : 0 ≤ Xi T4 904 23 ∧ Xi T4 904 23 ≤ 24 := hHT4.c _ _
                have w72 : 0 ≤ Xi T4 904 32 ∧ Xi T4 904 32 ≤ 12 := hHT4.c _ _
                refine l_callV rfl rfl rfl (t_mo_does_2 hHT4 a noun ⟨by omega, by omega⟩ ⟨by omega, by omega⟩ (ha1) (by omega) (by first | assumption | exact (ABV_FR hFT4 rfl (by assumption : ABV S))) (by first | assumption | exact (by assumption : TXM T4)) (by first | assumption | exact (DEFM_FR hFT4 rfl (by assumption : DEFM S))) (by first | assumption | exact (LXM_FR hFT4 rfl (by assumption : LXM S))) (by first | assumption | exact (by assumption : WYM T4)) (by omega) (by omega) _) ?_
                rintro _ T8 ⟨hHT8, w75, z74, rfl, w74, w73⟩
                have hFT8 : FR md_mo_action S T8 := FR.tr hFT4 w75 rfl
                show Rl _ _ _ _ _ [iv z74] _ _
                refine l_if_ne rfl rfl (by unfold rg; omega) (fun w76 => ?_) (fun w77 => ?_)
                · refine l_iconst rfl ?_
                  refine l_istore rfl rfl rfl ?_
                  exact Rl_weak (C161 _ T8 hHT8 hFT8 (v4) (0) (by omega) (by omega) (by first | assumption | exact (TXM_FR w75 rfl (by assumption : TXM T4))) (by first | assumption | exact (by assumption : WYM T8)) (by first | exact hv161 | exact hv138 | exact hv81 | exact hv78 | exact hv19 | (intro q; first | exact hn q | (exfalso; omega))) (by omega) rfl) (And.intro rfl (And.intro rfl (And.intro rfl (And.intro rfl (And.intro rfl (True.intro))))))
                · refine l_iconst rfl ?_
                  refine l_ireturn rfl rfl ?_
                  exact ⟨hHT8, hFT8, _, rfl, ⟨by omega, by omega⟩, (by first | assumption | exact (TXM_FR w75 rfl (by assumption : TXM T4))), (by first | assumption | exact (by assumption : WYM T8))⟩
              · refine l_iconst rfl ?_
                refine l_ireturn rfl rfl ?_
                exact ⟨hHT4, hFT4, _, rfl, ⟨by omega, by omega⟩, (by first | assumption | exact (by assumption : TXM T4)), (by first | assumption | exact (by assumption : WYM T4))⟩
            refine l_aload_n rfl rfl ?_
            refine l_iconst rfl ?_
            refine l_iload rfl rfl ?_
            have w78 : 0 ≤ Xi T3 904 130 ∧ Xi T3 904 130 ≤ 24 := hHT3.c _ _
            refine l_callV rfl rfl rfl (Mt_d (t_mo_ruleAt hHT3 1 v5 ⟨by omega, by omega⟩ ⟨by omega, by omega⟩ (by first | assumption | exact (ABV_FR hFT3 rfl (by assumption : ABV S))) _)) ?_
            rintro _ _ ⟨⟨rfl, z82, rfl, w82, w79, w80, w81⟩, hd85⟩
            show Rl _ _ _ _ _ [iv z82] _ _
            refine l_iconst rfl ?_
            refine l_icmp_eq rfl rfl (by unfold rg; omega) (by unfold rg; omega) (fun w83 => ?_) (fun w84 => ?_)
            · exact Rl_weak (C138 T3 hHT3 hFT3 (v4) (by omega) (by first | assumption | exact (by assumption : TXM T3)) (by first | assumption | exact (by assumption : WYM T3)) (by first | exact hv138 | exact hv81 | exact hv78 | exact hv19 | (intro q; first | exact hn q | (exfalso; omega))) (by omega)) (And.intro rfl (And.intro rfl (And.intro rfl (And.intro rfl (And.intro rfl (True.intro))))))
            · refine l_aload_n rfl rfl ?_
              refine l_gfi rfl rfl rfl rfl rfl ?_
              have w85 : 0 ≤ (Xi T3 904 162) ∧ (Xi T3 904 162) ≤ 1 := hHT3.c _ _
              refine l_if_ne rfl rfl (by unfold rg; omega) (fun w86 => ?_) (fun w87 => ?_)
              · exact Rl_weak (C138 T3 hHT3 hFT3 (v4) (by omega) (by first | assumption | exact (by assumption : TXM T3)) (by first | assumption | exact (by assumption : WYM T3)) (by first | exact hv138 | exact hv81 | exact hv78 | exact hv19 | (intro q; first | exact hn q | (exfalso; omega))) (by omega)) (And.intro rfl (And.intro rfl (And.intro rfl (And.intro rfl (And.intro rfl (True.intro))))))
              · refine l_aload_n rfl rfl ?_
                refine l_iconst rfl ?_
                refine l_iload rfl rfl ?_
                have w88 : 0 ≤ Xi T3 904 130 ∧ Xi T3 904 130 ≤ 24 := hHT3.c _ _
                refine l_callV rfl rfl rfl (Mt_d (t_mo_ruleAt hHT3 1 v5 ⟨by omega, by omega⟩ ⟨by omega, by omega⟩ (by first | assumption | exact (ABV_FR hFT3 rfl (by assumption : ABV S))) _)) ?_
                rintro _ _ ⟨⟨rfl, z92, rfl, w92, w89, w90, w91⟩, hd103⟩
                show Rl _ _ _ _ _ [iv z92] _ _
                have e103 := dv_i hd85 hd103 (by unfold rg; omega) (by unfold rg; omega)
                refine l_istore rfl rfl rfl ?_
                refine l_aload_n rfl rfl ?_
                refine l_iload rfl rfl ?_
                refine l_iload_n rfl rfl ?_
                refine l_iload rfl rfl ?_
                have w93 : 0 ≤ Xi T3 904 130 ∧ Xi T3 904 130 ≤ 24 := hHT3.c _ _
                have w94 : 0 ≤ Xi T3 904 19 ∧ Xi T3 904 19 ≤ 24 := hHT3.c _ _
                refine l_callV rfl rfl rfl (t_mo_applies hHT3 z92 a v4 ⟨by omega, by omega⟩ ⟨by omega, by omega⟩ ⟨by omega, by omega⟩ (by first | assumption | omega) (by first | assumption | exact (RULM_FR hFT3 rfl (by assumption : RULM S))) (by first | assumption | exact (DEFM_FR hFT3 rfl (by assumption : DEFM S))) (by first | assumption | exact (ABV_FR hFT3 rfl (by assumption : ABV S))) (by first | assumption | exact (by assumption : TXM T3)) (fun _ _ q => by first | exact hv19 (by rw [(hFT3.cx 942 rfl _).1] at q; exact q) | exact hv81 (by rw [(hFT3.cx 942 rfl _).1] at q; exact q) | exact hv161 (by rw [(hFT3.cx 942 rfl _).1] at q; exact q)) (by omega) _) ?_
                rintro _ T9 ⟨hHT9, w97, z96, rfl, w96, w95⟩
                have hFT9 : FR md_mo_action S T9 := FR.tr hFT3 w97 rfl
                show Rl _ _ _ _ _ [iv z96] _ _
                have q114 : z96 = 1 → nM S (z92).toNat → 0 ≤ v4 := fun e h => hv81 (by have t : Xi S 979 (z92).toNat = a := by rw [← (hFT3.cx 979 rfl _).1]; exact (by assumption : z96 = 1 → Xi T3 978 (z92).toNat < 3 → Xi T3 979 (z92).toNat = a) e (by omega); rw [← t]; exact h.2)
                refine l_if_eq rfl rfl (by unfold rg; omega) (fun w98 => ?_) (fun w99 => ?_)
                · refine l_iinc rfl rfl rfl rfl ?_
                  refine l_goto rfl rfl ?_
                  exact Rl_weak (ih81 _ (by omega) T9 hHT9 hFT9 (v4) ((v5 + 1)) (by omega) (by omega) (by first | assumption | exact (TXM_FR w97 rfl (by assumption : TXM T3))) (by first | assumption | exact (WYM_FR w97 rfl (by assumption : WYM T3))) (by first | exact hv81 | exact hv78 | exact hv19 | (intro q; first | exact hn q | (exfalso; omega))) (by omega) rfl) (And.intro rfl (And.intro rfl (And.intro rfl (And.intro rfl (And.intro rfl (And.intro rfl (True.intro)))))))
                · refine l_aload_n rfl rfl ?_
                  refine l_iload rfl rfl ?_
                  refine l_iload rfl rfl ?_
                  refine l_iload_n rfl rfl ?_
                  have w100 : Xi T9 904 130 = Xi T3 904 130 := (show Xi T9 904 130 = Xi T3 904 130 from w97.x _ _ rfl)
                  have w101 : 0 ≤ Xi T3 904 130 ∧ Xi T3 904 130 ≤ 24 := hHT3.c _ _
                  have w102 : Xi T9 904 19 = Xi T3 904 19 := (show Xi T9 904 19 = Xi T3 904 19 from w97.x _ _ rfl)
                  have w103 : 0 ≤ Xi T3 904 19 ∧ Xi T3 904 19 ≤ 24 := hHT3.c _ _
                  refine l_callV rfl rfl rfl (hrec hHT9 z92 v4 dd ⟨by omega, by omega⟩ ⟨by omega, by omega⟩ ⟨by omega, by omega⟩ (by first | assumption | omega) (by first | exact (q52 (by omega)) | exact q114 (by omega) | exact q194 (by omega)) (by omega) (by first | assumption | exact (TXM_FR w97 rfl (by assumption : TXM T3))) (by first | assumption | exact (DEFM_FR hFT9 rfl (by assumption : DEFM S))) (by first | assumption | exact (RULM_FR hFT9 rfl (by assumption : RULM S))) (by first | assumption | exact (ABV_FR hFT9 rfl (by assumption : ABV S))) (by first | assumption | exact (LXM_FR hFT9 rfl (by assumption : LXM S))) (by first | assumption | exact (WYM_FR w97 rfl (by assumption : WYM T3))) (by first | assumption | exact (AKR_FR hFT9 rfl (by assumption : AKR S))) (by omega)) ?_
                  rintro _ T10 ⟨hHT10, w107, z106, rfl, w106, w104, w105⟩
                  have hFT10 : FR md_mo_action S T10 := FR.tr hFT9 w107 rfl
                  show Rl _ _ _ _ _ [iv z106] _ _
                  refine l_pop rfl rfl ?_
                  refine l_iconst rfl ?_
                  refine l_ireturn rfl rfl ?_
                  exact ⟨hHT10, hFT10, _, rfl, ⟨by omega, by omega⟩, (by first | assumption | exact (by assumption : TXM T10)), (by first | assumption | exact (by assumption : WYM T10))⟩
        refine l_iconst rfl ?_
        refine l_istore rfl rfl rfl ?_
        exact Rl_weak (C81 _ T2 hHT2 hFT2 (v4) (0) (by omega) (by omega) (by first | assumption | exact (by assumption : TXM T2)) (by first | assumption | exact (by assumption : WYM T2)) (by first | exact hv81 | exact hv78 | exact hv19 | (intro q; first | exact hn q | (exfalso; omega))) (by omega) rfl) (And.intro rfl (And.intro rfl (And.intro rfl (And.intro rfl (And.intro rfl (And.intro rfl (True.intro)))))))
      refine l_aload_n rfl rfl ?_
      refine l_iconst rfl ?_
      refine l_iload rfl rfl ?_
      have w108 : 0 ≤ Xi T1 904 130 ∧ Xi T1 904 130 ≤ 24 := hHT1.c _ _
      refine l_callV rfl rfl rfl (Mt_d (t_mo_ruleAt hHT1 0 v5 ⟨by omega, by omega⟩ ⟨by omega, by omega⟩ (by first | assumption | exact (ABV_FR hFT1 rfl (by assumption : ABV S))) _)) ?_
      rintro _ _ ⟨⟨rfl, z112, rfl, w112, w109, w110, w111⟩, hd23⟩
      show Rl _ _ _ _ _ [iv z112] _ _
      refine l_iconst rfl ?_
      refine l_icmp_eq rfl rfl (by unfold rg; omega) (by unfold rg; omega) (fun w113 => ?_) (fun w114 => ?_)
      · exact Rl_weak (C78 T1 hHT1 hFT1 (v4) (by omega) (by first | assumption | exact (by assumption : TXM T1)) (by first | assumption | exact (by assumption : WYM T1)) (by first | exact hv78 | exact hv19 | (intro q; first | exact hn q | (exfalso; omega))) (by omega)) (And.intro rfl (And.intro rfl (And.intro rfl (And.intro rfl (And.intro rfl (True.intro))))))
      · refine l_aload_n rfl rfl ?_
        refine l_gfi rfl rfl rfl rfl rfl ?_
        have w115 : 0 ≤ (Xi T1 904 162) ∧ (Xi T1 904 162) ≤ 1 := hHT1.c _ _
        refine l_if_ne rfl rfl (by unfold rg; omega) (fun w116 => ?_) (fun w117 => ?_)
        · exact Rl_weak (C78 T1 hHT1 hFT1 (v4) (by omega) (by first | assumption | exact (by assumption : TXM T1)) (by first | assumption | exact (by assumption : WYM T1)) (by first | exact hv78 | exact hv19 | (intro q; first | exact hn q | (exfalso; omega))) (by omega)) (And.intro rfl (And.intro rfl (And.intro rfl (And.intro rfl (And.intro rfl (True.intro))))))
        · refine l_aload_n rfl rfl ?_
          refine l_iconst rfl ?_
          refine l_iload rfl rfl ?_
          have w118 : 0 ≤ Xi T1 904 130 ∧ Xi T1 904 130 ≤ 24 := hHT1.c _ _
          refine l_callV rfl rfl rfl (Mt_d (t_mo_ruleAt hHT1 0 v5 ⟨by omega, by omega⟩ ⟨by omega, by omega⟩ (by first | assumption | exact (ABV_FR hFT1 rfl (by assumption : ABV S))) _)) ?_
          rintro _ _ ⟨⟨rfl, z122, rfl, w122, w119, w120, w121⟩, hd41⟩
          show Rl _ _ _ _ _ [iv z122] _ _
          have e41 := dv_i hd23 hd41 (by unfold rg; omega) (by unfold rg; omega)
          refine l_istore rfl rfl rfl ?_
          refine l_aload_n rfl rfl ?_
          refine l_iload rfl rfl ?_
          refine l_iload_n rfl rfl ?_
          refine l_iload rfl rfl ?_
          have w123 : 0 ≤ Xi T1 904 130 ∧ Xi T1 904 130 ≤ 24 := hHT1.c _ _
          have w124 : 0 ≤ Xi T1 904 19 ∧ Xi T1 904 19 ≤ 24 := hHT1.c _ _
          refine l_callV rfl rfl rfl (t_mo_applies hHT1 z122 a v4 ⟨by omega, by omega⟩ ⟨by omega, by omega⟩ ⟨by omega, by omega⟩ (by first | assumption | omega) (by first | assumption | exact (RULM_FR hFT1 rfl (by assumption : RULM S))) (by first | assumption | exact (DEFM_FR hFT1 rfl (by assumption : DEFM S))) (by first | assumption | exact (ABV_FR hFT1 rfl (by assumption : ABV S))) (by first | assumption | exact (by assumption : TXM T1)) (fun _ _ q => by first | exact hv19 (by rw [(hFT1.cx 942 rfl _).1] at q; exact q) | exact hv81 (by rw [(hFT1.cx 942 rfl _).1] at q; exact q) | exact hv161 (by rw [(hFT1.cx 942 rfl _).1] at q; exact q)) (by omega) _) ?_
          rintro _ T11 ⟨hHT11, w127, z126, rfl, w126, w125⟩
          have hFT11 : FR md_mo_action S T11 := FR.tr hFT1 w127 rfl
          show Rl _ _ _ _ _ [iv z126] _ _
          have q52 : z126 = 1 → nM S (z122).toNat → 0 ≤ v4 := fun e h => hv19 (by have t : Xi S 979 (z122).toNat = a := by rw [← (hFT1.cx 979 rfl _).1]; exact (by assumption : z126 = 1 → Xi T1 978 (z122).toNat < 3 → Xi T1 979 (z122).toNat = a) e (by omega); rw [← t]; exact h.2)
          refine l_if_eq rfl rfl (by unfold rg; omega) (fun w128 => ?_) (fun w129 => ?_)
          · refine l_iinc rfl rfl rfl rfl ?_
            refine l_goto rfl rfl ?_
            exact Rl_weak (ih19 _ (by omega) T11 hHT11 hFT11 (v4) ((v5 + 1)) (by omega) (by omega) (by first | assumption | exact (TXM_FR w127 rfl (by assumption : TXM T1))) (by first | assumption | exact (WYM_FR w127 rfl (by assumption : WYM T1))) (by first | exact hv19 | (intro q; first | exact hn q | (exfalso; omega))) (by omega) rfl) (And.intro rfl (And.intro rfl (And.intro rfl (And.intro rfl (And.intro rfl (And.intro rfl (True.intro)))))))
          · refine l_aload_n rfl rfl ?_
            refine l_iload rfl rfl ?_
            refine l_iload rfl rfl ?_
            refine l_iload_n rfl rfl ?_
            have w130 : Xi T11 904 130 = Xi T1 904 130 := (show Xi T11 904 130 = Xi T1 904 130 from w127.x _ _ rfl)
            have w131 : 0 ≤ Xi T1 904 130 ∧ Xi T1 904 130 ≤ 24 := hHT1.c _ _
            have w132 : Xi T11 904 19 = Xi T1 904 19 := (show Xi T11 904 19 = Xi T1 904 19 from w127.x _ _ rfl)
            have w133 : 0 ≤ Xi T1 904 19 ∧ Xi T1 904 19 ≤ 24 := hHT1.c _ _
            refine l_callV rfl rfl rfl (hrec hHT11 z122 v4 dd ⟨by omega, by omega⟩ ⟨by omega, by omega⟩ ⟨by omega, by omega⟩ (by first | assumption | omega) (by first | exact (q52 (by omega)) | exact q114 (by omega) | exact q194 (by omega)) (by omega) (by first | assumption | exact (TXM_FR w127 rfl (by assumption : TXM T1))) (by first | assumption | exact (DEFM_FR hFT11 rfl (by assumption : DEFM S))) (by first | assumption | exact (RULM_FR hFT11 rfl (by assumption : RULM S))) (by first | assumption | exact (ABV_FR hFT11 rfl (by assumption : ABV S))) (by first | assumption | exact (LXM_FR hFT11 rfl (by assumption : LXM S))) (by first | assumption | exact (WYM_FR w127 rfl (by assumption : WYM T1))) (by first | assumption | exact (AKR_FR hFT11 rfl (by assumption : AKR S))) (by omega)) ?_
            rintro _ T12 ⟨hHT12, w137, z136, rfl, w136, w134, w135⟩
            have hFT12 : FR md_mo_action S T12 := FR.tr hFT11 w137 rfl
            show Rl _ _ _ _ _ [iv z136] _ _
            refine l_if_eq rfl rfl (by unfold rg; omega) (fun w138 => ?_) (fun w139 => ?_)
            · refine l_iinc rfl rfl rfl rfl ?_
              refine l_goto rfl rfl ?_
              exact Rl_weak (ih19 _ (by omega) T12 hHT12 hFT12 (v4) ((v5 + 1)) (by omega) (by omega) (by first | assumption | exact (by assumption : TXM T12)) (by first | assumption | exact (by assumption : WYM T12)) (by first | exact hv19 | (intro q; first | exact hn q | (exfalso; omega))) (by omega) rfl) (And.intro rfl (And.intro rfl (And.intro rfl (And.intro rfl (And.intro rfl (And.intro rfl (True.intro)))))))
            · refine l_iconst rfl ?_
              refine l_ireturn rfl rfl ?_
              exact ⟨hHT12, hFT12, _, rfl, ⟨by omega, by omega⟩, (by first | assumption | exact (by assumption : TXM T12)), (by first | assumption | exact (by assumption : WYM T12))⟩
  refine l_aload_n rfl rfl ?_
  refine l_gfr rfl rfl rfl rfl rfl (hH.r 904 50 942 rfl) ?_
  refine l_iload_n rfl rfl ?_
  refine l_iaload (n := 12) rfl rfl (by omega) (by omega) (by unfold rg; omega) ?_
  have w140 : -2 ≤ (Xi S 942 ((a).toNat)) ∧ (Xi S 942 ((a).toNat)) ≤ 15 := hH.c _ _
  refine l_if_lt rfl rfl (by unfold rg; omega) (fun w141 => ?_) (fun w142 => ?_)
  · refine l_iconst rfl ?_
    refine l_istore rfl rfl rfl ?_
    refine l_iconst rfl ?_
    refine l_istore rfl rfl rfl ?_
    exact Rl_weak (C19 _ S hH hF ((-1)) (0) (by omega) (by omega) (by first | assumption | exact (by assumption : TXM S)) (by first | assumption | exact (by assumption : WYM S)) (by first | exact hv19 | (intro q; first | exact hn q | (exfalso; omega))) (by omega) rfl) (And.intro rfl (And.intro rfl (And.intro rfl (And.intro rfl (And.intro rfl (And.intro rfl (True.intro)))))))
  · refine l_iload_n rfl rfl ?_
    refine l_goto rfl rfl ?_
    refine l_istore rfl rfl rfl ?_
    refine l_iconst rfl ?_
    refine l_istore rfl rfl rfl ?_
    exact Rl_weak (C19 _ S hH hF (noun) (0) (by omega) (by omega) (by first | assumption | exact (by assumption : TXM S)) (by first | assumption | exact (by assumption : WYM S)) (by first | exact hv19 | (intro q; first | exact hn q | (exfalso; omega))) (by omega) rfl) (And.intro rfl (And.intro rfl (And.intro rfl (And.intro rfl (And.intro rfl (And.intro rfl (True.intro)))))))
theorem k_mr (n : Nat) : ∀ (d : Nat) {S : sS} (_ : HI S) (q : Int) (noun : Int) (dq : Int) (hq : 0 ≤ q ∧ q ≤ 2399) (hnoun : -1 ≤ noun ∧ noun ≤ 23) (hdq : 0 ≤ dq ∧ dq ≤ 8) (hk : 0 ≤ Xi S 972 q.toNat ∧ Xi S 972 q.toNat < Xi S 904 49) (hg : Xi S 970 q.toNat ≠ 0 → Xi S 942 (Xi S 972 q.toNat).toNat < 0) (ht : Xi S 970 q.toNat = 0 → thK S False (0 ≤ noun) (Xi S 971 q.toNat)) (h2 : noun < Xi S 904 19) (hX : TXM S) (hD : DEFM S) (hR : RULM S) (hB : ABV S) (hM : LXM S) (hW : WYM S) (hA : AKR S), (8 - dq).toNat = n → Mt lay0 (d + 3 * n + 30) m_mo_tries [.ref 904, iv q, iv noun, iv dq] S (Q_mo_tries S q noun dq) := by
  induction n with
  | zero => intro d S hH q noun dq hq hnoun hdq hk hg ht h2 hX hD hR hB hM hW hA hm; exact u_mo_tries hH q noun dq hq hnoun hdq hk hg ht h2 hX hD hR hB hM hW hA d (fun {_} _ _ _ _ _ _ _ _ _ _ _ _ _ _ _ _ hlt => absurd hlt.1 (by omega))
  | succ n ih =>
    intro d S hH q noun dq hq hnoun hdq hk hg ht h2 hX hD hR hB hM hW hA hm
    have t := u_mo_tries hH q noun dq hq hnoun hdq hk hg ht h2 hX hD hR hB hM hW hA (d + 3 * n + 3) (fun {S} hH xa xnoun xdd xha xhnoun xhdd xhn xh2 xhX xhD xhR xhB xhM xhW xhA hlt => u_mo_action hH xa xnoun xdd xha xhnoun xhdd xhn xh2 xhX xhD xhR xhB xhM xhW xhA (d + 3 * n) (fun {S} hH yr ynoun ydr yhr yhnoun yhdr yhr yhn yh2 yhX yhD yhR yhB yhM yhW yhA he => u_mo_runs hH yr ynoun ydr yhr yhnoun yhdr yhr yhn yh2 yhX yhD yhR yhB yhM yhW yhA (d + 3 * n) (fun {S} hH zq znoun zdq zhq zhnoun zhdq zhk zhg zht zh2 zhX zhD zhR zhB zhM zhW zhA he2 => ih d hH zq znoun zdq zhq zhnoun zhdq zhk zhg zht zh2 zhX zhD zhR zhB zhM zhW zhA (by omega))))
    rw [show d + 3 * n + 3 + 30 = d + 3 * (n + 1) + 30 by omega] at t
    exact t
theorem t_mo_tries {S : sS} (hH : HI S) (q : Int) (noun : Int) (dq : Int) (hq : 0 ≤ q ∧ q ≤ 2399) (hnoun : -1 ≤ noun ∧ noun ≤ 23) (hdq : 0 ≤ dq ∧ dq ≤ 8) (hk : 0 ≤ Xi S 972 q.toNat ∧ Xi S 972 q.toNat < Xi S 904 49) (hg : Xi S 970 q.toNat ≠ 0 → Xi S 942 (Xi S 972 q.toNat).toNat < 0) (ht : Xi S 970 q.toNat = 0 → thK S False (0 ≤ noun) (Xi S 971 q.toNat)) (h2 : noun < Xi S 904 19) (hX : TXM S) (hD : DEFM S) (hR : RULM S) (hB : ABV S) (hM : LXM S) (hW : WYM S) (hA : AKR S) (d : Nat) : Mt lay0 (d + 54) m_mo_tries [.ref 904, iv q, iv noun, iv dq] S (Q_mo_tries S q noun dq) := by
  have t := k_mr (8 - dq).toNat (d + (24 - 3 * (8 - dq).toNat)) hH q noun dq hq hnoun hdq hk hg ht h2 hX hD hR hB hM hW hA rfl
  rw [show d + (24 - 3 * (8 - dq).toNat) + 3 * (8 - dq).toNat + 30 = d + 54 by omega] at t
  exact t
theorem t_mo_runs {S : sS} (hH : HI S) (r : Int) (noun : Int) (dr : Int) (hr : 0 ≤ r ∧ r ≤ 23) (hnoun : -1 ≤ noun ∧ noun ≤ 23) (hdr : 0 ≤ dr ∧ dr ≤ 8) (hr : r < Xi S 904 130) (hn : nM S r.toNat → 0 ≤ noun) (h2 : noun < Xi S 904 19) (hX : TXM S) (hD : DEFM S) (hR : RULM S) (hB : ABV S) (hM : LXM S) (hW : WYM S) (hA : AKR S) (d : Nat) : Mt lay0 (d + 55) m_mo_runs [.ref 904, iv r, iv noun, iv dr] S (Q_mo_runs S r noun dr) :=
  u_mo_runs hH r noun dr hr hnoun hdr hr hn h2 hX hD hR hB hM hW hA (d + 24) (fun {S} hH2 zq znoun zdq zhq zhnoun zhdq zhk zhg zht zh2 zhX zhD zhR zhB zhM zhW zhA he => t_mo_tries hH2 zq znoun zdq zhq zhnoun zhdq zhk zhg zht zh2 zhX zhD zhR zhB zhM zhW zhA d)
theorem t_mo_action {S : sS} (hH : HI S) (a : Int) (noun : Int) (dd : Int) (ha : 0 ≤ a ∧ a ≤ 11) (hnoun : -1 ≤ noun ∧ noun ≤ 23) (hdd : 0 ≤ dd ∧ dd ≤ 8) (hn : 0 ≤ Xi S 942 a.toNat → 0 ≤ noun) (h2 : 0 ≤ Xi S 942 a.toNat → noun < Xi S 904 19) (hX : TXM S) (hD : DEFM S) (hR : RULM S) (hB : ABV S) (hM : LXM S) (hW : WYM S) (hA : AKR S) (d : Nat) : Mt lay0 (d + 56) m_mo_action [.ref 904, iv a, iv noun, iv dd] S (Q_mo_action S a noun dd) :=
  u_mo_action hH a noun dd ha hnoun hdd hn h2 hX hD hR hB hM hW hA (d + 24) (fun {S} hH2 yr ynoun ydr yhr yhnoun yhdr yhr yhn yh2 yhX yhD yhR yhB yhM yhW yhA he => t_mo_runs hH2 yr ynoun ydr yhr yhnoun yhdr yhr yhn yh2 yhX yhD yhR yhB yhM yhW yhA d)

def md_mo_act : List rec := [(904, 905, 154, 155), (904, 905, 156, 157), (904, 905, 158, 159), (904, 905, 160, 161), (904, 905, 161, 162), (904, 905, 162, 163), (919, 920, 0, 100000), (920, 921, 0, 100000), (925, 926, 0, 100000), (930, 931, 0, 100000), (931, 932, 0, 100000), (932, 933, 0, 100000), (940, 941, 0, 100000), (993, 994, 0, 100000), (994, 995, 0, 100000)]
abbrev Q_mo_act (S : sS) (a : Int) (noun : Int) : pst := fun r S1 => HI S1 ∧ FR md_mo_act S S1 ∧ (∃ z : Int, r = some (iv z) ∧ (-1 ≤ z ∧ z ≤ 5) ∧ (TXM S1) ∧ (WYM S1))
set_option maxRecDepth 100000 in
theorem t_mo_act {S : sS} (hH : HI S) (a : Int) (noun : Int) (ha : -2147483648 ≤ a ∧ a ≤ 2147483647) (hnoun : -2147483648 ≤ noun ∧ noun ≤ 2147483647) (hX : TXM S) (hD : DEFM S) (hR : RULM S) (hB : ABV S) (hM : LXM S) (hW : WYM S) (hA : AKR S) (d : Nat) : Mt lay0 (d + 57) m_mo_act [.ref 904, iv a, iv noun] S (Q_mo_act S a noun) := by
  refine Mt_R rfl rfl ?_
  have hF : FR md_mo_act S S := FR.rf
  have w1 : 0 ≤ Xi S 904 19 ∧ Xi S 904 19 ≤ 24 := hH.c _ _
  have w2 : 0 ≤ Xi S 904 49 ∧ Xi S 904 49 ≤ 12 := hH.c _ _
  have hc3 : 0 ≤ Xi S 904 23 ∧ Xi S 904 23 ≤ 24 := hH.c _ _
  have hc19 : 0 ≤ Xi S 904 19 ∧ Xi S 904 19 ≤ 24 := hH.c _ _
  have hc32 : 0 ≤ Xi S 904 32 ∧ Xi S 904 32 ≤ 12 := hH.c _ _
  have hc49 : 0 ≤ Xi S 904 49 ∧ Xi S 904 49 ≤ 12 := hH.c _ _
  have C98 : (0 ≤ a ∧ a < Xi S 904 49) → (-1 ≤ noun ∧ noun ≤ 23) → (0 ≤ Xi S 942 a.toNat → 0 ≤ noun ∧ noun < Xi S 904 19) → Rl lay0 (d + 56) m_mo_act 98 [(0, .ref 904), (1, iv a), (2, iv noun)] [] S (Q_mo_act S a noun) := by
    intro w3 w4 hg98
    have C120 : ∀ (n120 : Nat) (T1 : sS) (_ : HI T1) (_ : FR md_mo_act S T1) (v5 : Int) (v6 : Int), (0 ≤ v5 ∧ v5 ≤ 5) → (0 ≤ v6 ∧ v6 ≤ 25) → (TXM T1) → (WYM T1) → n120 = (26 - v6).toNat → Rl lay0 (d + 56) m_mo_act 120 [(0, .ref 904), (1, iv a), (5, iv v5), (6, iv v6)] [] T1 (Q_mo_act S a noun) := by
      intro n120
      induction n120 using Nat.strongRecOn with
      | ind n120 ih120 =>
        intro T1 hHT1 hFT1 v5 v6 w5 w6 hX120 hW120 hm120
        have w7 : Xi T1 904 130 = Xi S 904 130 := hFT1.x _ _ rfl
        have w8 : Xi T1 904 19 = Xi S 904 19 := hFT1.x _ _ rfl
        have w9 : Xi T1 904 49 = Xi S 904 49 := hFT1.x _ _ rfl
        have C173 : ∀  (T2 : sS) (_ : HI T2) (_ : FR md_mo_act S T2) (v5 : Int), (0 ≤ v5 ∧ v5 ≤ 5) → Rl lay0 (d + 56) m_mo_act 173 [(0, .ref 904), (5, iv v5)] [] T2 (Q_mo_act S a noun) := by
          intro T2 hHT2 hFT2 v5 w10
          have w11 : Xi T2 904 130 = Xi S 904 130 := hFT2.x _ _ rfl
          have w12 : Xi T2 904 19 = Xi S 904 19 := hFT2.x _ _ rfl
          have w13 : Xi T2 904 49 = Xi S 904 49 := hFT2.x _ _ rfl
          refine l_aload_n rfl rfl ?_
          refine l_gfi rfl rfl rfl rfl rfl ?_
          have w14 : 0 ≤ (Xi T2 904 162) ∧ (Xi T2 904 162) ≤ 1 := hHT2.c _ _
          refine l_if_eq rfl rfl (by unfold rg; omega) (fun w15 => ?_) (fun w16 => ?_)
          · refine l_iload rfl rfl ?_
            refine l_ireturn rfl rfl ?_
            exact ⟨hHT2, hFT2, _, rfl, ⟨by omega, by omega⟩, (by first | assumption | exact hX), (by first | assumption | exact hW)⟩
          · refine l_iconst rfl ?_
            refine l_goto rfl rfl ?_
            refine l_ireturn rfl rfl ?_
            exact ⟨hHT2, hFT2, _, rfl, ⟨by omega, by omega⟩, (by first | assumption | exact hX), (by first | assumption | exact hW)⟩
        refine l_aload_n rfl rfl ?_
        refine l_iconst rfl ?_
        refine l_iload rfl rfl ?_
        have w17 : 0 ≤ Xi T1 904 130 ∧ Xi T1 904 130 ≤ 24 := hHT1.c _ _
        refine l_callV rfl rfl rfl (Mt_d (t_mo_ruleAt hHT1 3 v6 ⟨by omega, by omega⟩ ⟨by omega, by omega⟩ (by first | assumption | exact (ABV_FR hFT1 rfl (by assumption : ABV S))) _)) ?_
        rintro _ _ ⟨⟨rfl, z21, rfl, w21, w18, w19, w20⟩, hd124⟩
        show Rl _ _ _ _ _ [iv z21] _ _
        refine l_iconst rfl ?_
        refine l_icmp_eq rfl rfl (by unfold rg; omega) (by unfold rg; omega) (fun w22 => ?_) (fun w23 => ?_)
        · exact Rl_weak (C173 T1 hHT1 hFT1 (v5) (by omega)) (And.intro rfl (And.intro rfl (True.intro)))
        · refine l_aload_n rfl rfl ?_
          refine l_gfi rfl rfl rfl rfl rfl ?_
          have w24 : 0 ≤ (Xi T1 904 162) ∧ (Xi T1 904 162) ≤ 1 := hHT1.c _ _
          refine l_if_ne rfl rfl (by unfold rg; omega) (fun w25 => ?_) (fun w26 => ?_)
          · exact Rl_weak (C173 T1 hHT1 hFT1 (v5) (by omega)) (And.intro rfl (And.intro rfl (True.intro)))
          · refine l_aload_n rfl rfl ?_
            refine l_iconst rfl ?_
            refine l_iload rfl rfl ?_
            have w27 : 0 ≤ Xi T1 904 130 ∧ Xi T1 904 130 ≤ 24 := hHT1.c _ _
            refine l_callV rfl rfl rfl (Mt_d (t_mo_ruleAt hHT1 3 v6 ⟨by omega, by omega⟩ ⟨by omega, by omega⟩ (by first | assumption | exact (ABV_FR hFT1 rfl (by assumption : ABV S))) _)) ?_
            rintro _ _ ⟨⟨rfl, z31, rfl, w31, w28, w29, w30⟩, hd142⟩
            show Rl _ _ _ _ _ [iv z31] _ _
            have e142 := dv_i hd124 hd142 (by unfold rg; omega) (by unfold rg; omega)
            refine l_istore rfl rfl rfl ?_
            refine l_aload_n rfl rfl ?_
            refine l_iload rfl rfl ?_
            refine l_iload_n rfl rfl ?_
            refine l_iconst rfl ?_
            have w32 : 0 ≤ Xi T1 904 130 ∧ Xi T1 904 130 ≤ 24 := hHT1.c _ _
            have w33 : 0 ≤ Xi T1 904 19 ∧ Xi T1 904 19 ≤ 24 := hHT1.c _ _
            refine l_callV rfl rfl rfl (t_mo_applies hHT1 z31 a (-1) ⟨by omega, by omega⟩ ⟨by omega, by omega⟩ ⟨by omega, by omega⟩ (by first | assumption | omega) (by first | assumption | exact (RULM_FR hFT1 rfl (by assumption : RULM S))) (by first | assumption | exact (DEFM_FR hFT1 rfl (by assumption : DEFM S))) (by first | assumption | exact (ABV_FR hFT1 rfl (by assumption : ABV S))) (by first | assumption | exact (by assumption : TXM T1)) (fun q => absurd q (by omega)) (by omega) _) ?_
            rintro _ T3 ⟨hHT3, w36, z35, rfl, w35, w34⟩
            have hFT3 : FR md_mo_act S T3 := FR.tr hFT1 w36 rfl
            show Rl _ _ _ _ _ [iv z35] _ _
            have q152 : nM S (z31).toNat → 0 ≤ (-1 : Int) := fun h => absurd h.1 (by have t := (hR (z31).toNat (by omega)).1.2.2.2 (by omega); omega)
            refine l_if_eq rfl rfl (by unfold rg; omega) (fun w37 => ?_) (fun w38 => ?_)
            · refine l_iinc rfl rfl rfl rfl ?_
              refine l_goto rfl rfl ?_
              exact Rl_weak (ih120 _ (by omega) T3 hHT3 hFT3 (v5) ((v6 + 1)) (by omega) (by omega) (by first | assumption | exact (TXM_FR w36 rfl (by assumption : TXM T1))) (by first | assumption | exact (WYM_FR w36 rfl (by assumption : WYM T1))) rfl) (And.intro rfl (And.intro rfl (And.intro rfl (And.intro rfl (True.intro)))))
            · refine l_aload_n rfl rfl ?_
              refine l_iload rfl rfl ?_
              refine l_iconst rfl ?_
              refine l_iconst rfl ?_
              have w39 : Xi T3 904 130 = Xi T1 904 130 := (show Xi T3 904 130 = Xi T1 904 130 from w36.x _ _ rfl)
              have w40 : 0 ≤ Xi T1 904 130 ∧ Xi T1 904 130 ≤ 24 := hHT1.c _ _
              have w41 : Xi T3 904 19 = Xi T1 904 19 := (show Xi T3 904 19 = Xi T1 904 19 from w36.x _ _ rfl)
              have w42 : 0 ≤ Xi T1 904 19 ∧ Xi T1 904 19 ≤ 24 := hHT1.c _ _
              refine l_callV rfl rfl rfl (t_mo_runs hHT3 z31 (-1) 0 ⟨by omega, by omega⟩ ⟨by omega, by omega⟩ ⟨by omega, by omega⟩ (by first | assumption | omega) (q152) (by omega) (by first | assumption | exact (TXM_FR w36 rfl (by assumption : TXM T1))) (by first | assumption | exact (DEFM_FR hFT3 rfl (by assumption : DEFM S))) (by first | assumption | exact (RULM_FR hFT3 rfl (by assumption : RULM S))) (by first | assumption | exact (ABV_FR hFT3 rfl (by assumption : ABV S))) (by first | assumption | exact (LXM_FR hFT3 rfl (by assumption : LXM S))) (by first | assumption | exact (WYM_FR w36 rfl (by assumption : WYM T1))) (by first | assumption | exact (AKR_FR hFT3 rfl (by assumption : AKR S))) _) ?_
              rintro _ T4 ⟨hHT4, w46, z45, rfl, w45, w43, w44⟩
              have hFT4 : FR md_mo_act S T4 := FR.tr hFT3 w46 rfl
              show Rl _ _ _ _ _ [iv z45] _ _
              refine l_pop rfl rfl ?_
              refine l_iinc rfl rfl rfl rfl ?_
              refine l_goto rfl rfl ?_
              exact Rl_weak (ih120 _ (by omega) T4 hHT4 hFT4 (v5) ((v6 + 1)) (by omega) (by omega) (by first | assumption | exact (by assumption : TXM T4)) (by first | assumption | exact (by assumption : WYM T4)) rfl) (And.intro rfl (And.intro rfl (And.intro rfl (And.intro rfl (True.intro)))))
    refine l_aload_n rfl rfl ?_
    refine l_iconst rfl ?_
    refine l_pfi rfl rfl rfl rfl ?_
    obtain ⟨U5, eU5⟩ : ∃ T : sS, T = uI S 904 161 (Int32.ofInt 0) := ⟨_, rfl⟩
    rw [← eU5]
    have hHU5 : HI U5 := by rw [eU5]; exact HI_w hH (show 0 ≤ 0 by omega) (show 0 ≤ 300 by omega)
    have hFU5 : FR md_mo_act S U5 := by rw [eU5]; exact FR.wI hF (mdf_i (r := (904, 905, 161, 162)) (List.mem_of_getElem? (i := 4) rfl) (inR_i (by omega) (by omega) (by omega) (by omega)))
    have w47 : Xi U5 904 161 = 0 := by rw [eU5]; exact Xi_same (by unfold rg; omega)
    refine l_aload_n rfl rfl ?_
    refine l_iconst rfl ?_
    refine l_pfz rfl rfl rfl rfl (by omega) ?_
    obtain ⟨U6, eU6⟩ : ∃ T : sS, T = uI U5 904 162 (Int32.ofInt 0) := ⟨_, rfl⟩
    rw [← eU6]
    have hHU6 : HI U6 := by rw [eU6]; exact HI_w hHU5 (show 0 ≤ 0 by omega) (show 0 ≤ 1 by omega)
    have hFU6 : FR md_mo_act S U6 := by rw [eU6]; exact FR.wI hFU5 (mdf_i (r := (904, 905, 162, 163)) (List.mem_of_getElem? (i := 5) rfl) (inR_i (by omega) (by omega) (by omega) (by omega)))
    have w48 : Xi U6 904 162 = 0 := by rw [eU6]; exact Xi_same (by unfold rg; omega)
    refine l_aload_n rfl rfl ?_
    refine l_iload_n rfl rfl ?_
    refine l_iload_n rfl rfl ?_
    refine l_iconst rfl ?_
    have w49 : Xi U6 904 19 = Xi S 904 19 := (show Xi U6 904 19 = Xi U5 904 19 from by rw [eU6]; exact Xi_ne (by omega)).trans ((show Xi U5 904 19 = Xi S 904 19 from by rw [eU5]; exact Xi_ne (by omega)))
    have w50 : 0 ≤ Xi S 904 19 ∧ Xi S 904 19 ≤ 24 := hH.c _ _
    refine l_callV rfl rfl rfl (t_mo_action hHU6 a noun 1 ⟨by omega, by omega⟩ ⟨by omega, by omega⟩ ⟨by omega, by omega⟩ (fun q => by rw [(hFU6.cx 942 rfl _).1] at q; exact (hg98 q).1) (fun q => by rw [(hFU6.cx 942 rfl _).1] at q; have := (hg98 q).2; omega) (by first | assumption | exact (TXM_FR (FR_e eU6) rfl (TXM_FR (FR_e eU5) rfl (by assumption : TXM S)))) (by first | assumption | exact (DEFM_FR hFU6 rfl (by assumption : DEFM S))) (by first | assumption | exact (RULM_FR hFU6 rfl (by assumption : RULM S))) (by first | assumption | exact (ABV_FR hFU6 rfl (by assumption : ABV S))) (by first | assumption | exact (LXM_FR hFU6 rfl (by assumption : LXM S))) (by first | assumption | exact (WYM_FR (FR_e eU6) rfl (WYM_FR (FR_e eU5) rfl (by assumption : WYM S)))) (by first | assumption | exact (AKR_FR hFU6 rfl (by assumption : AKR S))) _) ?_
    rintro _ T7 ⟨hHT7, w54, z53, rfl, w53, w51, w52⟩
    have hFT7 : FR md_mo_act S T7 := FR.tr hFU6 w54 rfl
    show Rl _ _ _ _ _ [iv z53] _ _
    refine l_istore rfl rfl rfl ?_
    refine l_iconst rfl ?_
    refine l_istore rfl rfl rfl ?_
    exact Rl_weak (C120 _ T7 hHT7 hFT7 (z53) (0) (by omega) (by omega) (by first | assumption | exact (by assumption : TXM T7)) (by first | assumption | exact (by assumption : WYM T7)) rfl) (And.intro rfl (And.intro rfl (And.intro rfl (And.intro rfl (True.intro)))))
  refine l_iload_n rfl rfl ?_
  refine l_iconst rfl ?_
  refine l_aload_n rfl rfl ?_
  refine l_gfi rfl rfl rfl rfl rfl ?_
  refine l_iconst rfl ?_
  refine l_isub rfl ?_
  refine l_callS rfl rfl (by decide) rfl (t_mo_in hH a 0 ((Xi S 904 49) - 1) ⟨by omega, by omega⟩ ⟨by omega, by omega⟩ ⟨by omega, by omega⟩ _) ?_
  rintro _ _ ⟨rfl, z56, rfl, w56, w55⟩
  show Rl _ _ _ _ _ [iv z56] _ _
  refine l_if_ne rfl rfl (by unfold rg; omega) (fun w57 => ?_) (fun w58 => ?_)
  · refine l_aload_n rfl rfl ?_
    refine l_gfr rfl rfl rfl rfl rfl (hH.r 904 50 942 rfl) ?_
    refine l_iload_n rfl rfl ?_
    refine l_iaload (n := 12) rfl rfl (by omega) (by omega) (by unfold rg; omega) ?_
    have w59 : -2 ≤ (Xi S 942 ((a).toNat)) ∧ (Xi S 942 ((a).toNat)) ≤ 15 := hH.c _ _
    refine l_istore_n rfl rfl rfl ?_
    refine l_iload_n rfl rfl ?_
    refine l_iconst rfl ?_
    refine l_icmp_ne rfl rfl (by unfold rg; omega) (by unfold rg; omega) (fun w60 => ?_) (fun w61 => ?_)
    · refine l_iload_n rfl rfl ?_
      refine l_bipush rfl rfl ?_
      refine l_icmp_ne rfl rfl (by unfold rg; omega) (by unfold rg; omega) (fun w62 => ?_) (fun w63 => ?_)
      · refine l_iload_n rfl rfl ?_
        refine l_iconst rfl ?_
        refine l_aload_n rfl rfl ?_
        refine l_gfi rfl rfl rfl rfl rfl ?_
        refine l_iconst rfl ?_
        refine l_isub rfl ?_
        refine l_callS rfl rfl (by decide) rfl (t_mo_in hH noun 0 ((Xi S 904 19) - 1) ⟨by omega, by omega⟩ ⟨by omega, by omega⟩ ⟨by omega, by omega⟩ _) ?_
        rintro _ _ ⟨rfl, z65, rfl, w65, w64⟩
        show Rl _ _ _ _ _ [iv z65] _ _
        refine l_if_eq rfl rfl (by unfold rg; omega) (fun w66 => ?_) (fun w67 => ?_)
        · refine l_iconst rfl ?_
          refine l_istore rfl rfl rfl ?_
          refine l_iload rfl rfl ?_
          refine l_if_ne rfl rfl (by unfold rg; omega) (fun w68 => absurd w68 (by omega)) (fun w69 => ?_)
          · refine l_iconst rfl ?_
            refine l_ireturn rfl rfl ?_
            exact ⟨hH, hF, _, rfl, ⟨by omega, by omega⟩, (by first | assumption | exact hX), (by first | assumption | exact hW)⟩
        · refine l_aload_n rfl rfl ?_
          refine l_aload_n rfl rfl ?_
          refine l_gfr rfl rfl rfl rfl rfl (hH.r 904 20 918 rfl) ?_
          refine l_iload_n rfl rfl ?_
          refine l_iaload (n := 24) rfl rfl (by omega) (by omega) (by unfold rg; omega) ?_
          have w70 : 0 ≤ (Xi S 918 ((noun).toNat)) ∧ (Xi S 918 ((noun).toNat)) ≤ 15 := hH.c _ _
          refine l_iload_n rfl rfl ?_
          refine l_callV rfl rfl rfl (t_mo_isBelow hH (Xi S 918 ((noun).toNat)) (Xi S 942 ((a).toNat)) ⟨by omega, by omega⟩ ⟨by omega, by omega⟩ (by first | assumption | exact (ABV_FR hF rfl (by assumption : ABV S))) _) ?_
          rintro _ _ ⟨rfl, z72, rfl, w72, w71⟩
          show Rl _ _ _ _ _ [iv z72] _ _
          refine l_if_eq rfl rfl (by unfold rg; omega) (fun w73 => ?_) (fun w74 => ?_)
          · refine l_iconst rfl ?_
            refine l_istore rfl rfl rfl ?_
            refine l_iload rfl rfl ?_
            refine l_if_ne rfl rfl (by unfold rg; omega) (fun w75 => absurd w75 (by omega)) (fun w76 => ?_)
            · refine l_iconst rfl ?_
              refine l_ireturn rfl rfl ?_
              exact ⟨hH, hF, _, rfl, ⟨by omega, by omega⟩, (by first | assumption | exact hX), (by first | assumption | exact hW)⟩
          · refine l_iconst rfl ?_
            refine l_goto rfl rfl ?_
            refine l_istore rfl rfl rfl ?_
            refine l_iload rfl rfl ?_
            refine l_if_ne rfl rfl (by unfold rg; omega) (fun w77 => ?_) (fun w78 => absurd w78 (by omega))
            · exact Rl_weak (C98  (by omega) (by omega) (by first | assumption | omega)) (And.intro rfl (And.intro rfl (And.intro rfl (True.intro))))
      · refine l_iload_n rfl rfl ?_
        refine l_iconst rfl ?_
        refine l_iconst rfl ?_
        refine l_callS rfl rfl (by decide) rfl (t_mo_in hH noun 0 5 ⟨by omega, by omega⟩ ⟨by omega, by omega⟩ ⟨by omega, by omega⟩ _) ?_
        rintro _ _ ⟨rfl, z80, rfl, w80, w79⟩
        show Rl _ _ _ _ _ [iv z80] _ _
        refine l_goto rfl rfl ?_
        refine l_istore rfl rfl rfl ?_
        refine l_iload rfl rfl ?_
        refine l_if_ne rfl rfl (by unfold rg; omega) (fun w81 => ?_) (fun w82 => ?_)
        · exact Rl_weak (C98  (by omega) (by omega) (by first | assumption | omega)) (And.intro rfl (And.intro rfl (And.intro rfl (True.intro))))
        · refine l_iconst rfl ?_
          refine l_ireturn rfl rfl ?_
          exact ⟨hH, hF, _, rfl, ⟨by omega, by omega⟩, (by first | assumption | exact hX), (by first | assumption | exact hW)⟩
    · refine l_iload_n rfl rfl ?_
      refine l_iconst rfl ?_
      refine l_icmp_ne rfl rfl (by unfold rg; omega) (by unfold rg; omega) (fun w83 => ?_) (fun w84 => ?_)
      · refine l_iconst rfl ?_
        refine l_goto rfl rfl ?_
        refine l_istore rfl rfl rfl ?_
        refine l_iload rfl rfl ?_
        refine l_if_ne rfl rfl (by unfold rg; omega) (fun w85 => absurd w85 (by omega)) (fun w86 => ?_)
        · refine l_iconst rfl ?_
          refine l_ireturn rfl rfl ?_
          exact ⟨hH, hF, _, rfl, ⟨by omega, by omega⟩, (by first | assumption | exact hX), (by first | assumption | exact hW)⟩
      · refine l_iconst rfl ?_
        refine l_goto rfl rfl ?_
        refine l_istore rfl rfl rfl ?_
        refine l_iload rfl rfl ?_
        refine l_if_ne rfl rfl (by unfold rg; omega) (fun w87 => ?_) (fun w88 => absurd w88 (by omega))
        · exact Rl_weak (C98  (by omega) (by omega) (by first | assumption | omega)) (And.intro rfl (And.intro rfl (And.intro rfl (True.intro))))
  · refine l_iconst rfl ?_
    refine l_ireturn rfl rfl ?_
    exact ⟨hH, hF, _, rfl, ⟨by omega, by omega⟩, (by first | assumption | exact hX), (by first | assumption | exact hW)⟩
def md_mo_is : List rec := [(904, 905, 154, 155)]
abbrev Q_mo_is (S : sS) (o : Int) (a : Int) : pst := fun r S1 => HI S1 ∧ FR md_mo_is S S1 ∧ (∃ z : Int, r = some (iv z) ∧ (-1 ≤ z ∧ z ≤ 1))
set_option maxRecDepth 100000 in
theorem t_mo_is {S : sS} (hH : HI S) (o : Int) (a : Int) (ho : -2147483648 ≤ o ∧ o ≤ 2147483647) (ha : -2147483648 ≤ a ∧ a ≤ 2147483647) (hB : ABV S) (hX : TXM S) (hD : DEFM S) (d : Nat) : Mt lay0 (d + 26) m_mo_is [.ref 904, iv o, iv a] S (Q_mo_is S o a) := by
  refine Mt_R rfl rfl ?_
  have hF : FR md_mo_is S S := FR.rf
  have hc3 : 0 ≤ Xi S 904 23 ∧ Xi S 904 23 ≤ 24 := hH.c _ _
  have hc19 : 0 ≤ Xi S 904 19 ∧ Xi S 904 19 ≤ 24 := hH.c _ _
  have hc32 : 0 ≤ Xi S 904 32 ∧ Xi S 904 32 ≤ 12 := hH.c _ _
  refine l_iload_n rfl rfl ?_
  refine l_iconst rfl ?_
  refine l_aload_n rfl rfl ?_
  refine l_gfi rfl rfl rfl rfl rfl ?_
  have w1 : 0 ≤ (Xi S 904 19) ∧ (Xi S 904 19) ≤ 24 := hH.c _ _
  refine l_iconst rfl ?_
  refine l_isub rfl ?_
  refine l_callS rfl rfl (by decide) rfl (t_mo_in hH o 0 ((Xi S 904 19) - 1) ⟨by omega, by omega⟩ ⟨by omega, by omega⟩ ⟨by omega, by omega⟩ _) ?_
  rintro _ _ ⟨rfl, z3, rfl, w3, w2⟩
  show Rl _ _ _ _ _ [iv z3] _ _
  refine l_if_eq rfl rfl (by unfold rg; omega) (fun w4 => ?_) (fun w5 => ?_)
  · refine l_iconst rfl ?_
    refine l_ireturn rfl rfl ?_
    exact ⟨hH, hF, _, rfl, ⟨by omega, by omega⟩⟩
  · refine l_iload_n rfl rfl ?_
    refine l_iconst rfl ?_
    refine l_aload_n rfl rfl ?_
    refine l_gfi rfl rfl rfl rfl rfl ?_
    have w6 : 0 ≤ (Xi S 904 23) ∧ (Xi S 904 23) ≤ 24 := hH.c _ _
    refine l_iconst rfl ?_
    refine l_isub rfl ?_
    refine l_callS rfl rfl (by decide) rfl (t_mo_in hH a 0 ((Xi S 904 23) - 1) ⟨by omega, by omega⟩ ⟨by omega, by omega⟩ ⟨by omega, by omega⟩ _) ?_
    rintro _ _ ⟨rfl, z8, rfl, w8, w7⟩
    show Rl _ _ _ _ _ [iv z8] _ _
    refine l_if_eq rfl rfl (by unfold rg; omega) (fun w9 => ?_) (fun w10 => ?_)
    · refine l_iconst rfl ?_
      refine l_ireturn rfl rfl ?_
      exact ⟨hH, hF, _, rfl, ⟨by omega, by omega⟩⟩
    · refine l_aload_n rfl rfl ?_
      refine l_aload_n rfl rfl ?_
      refine l_gfr rfl rfl rfl rfl rfl (hH.r 904 20 918 rfl) ?_
      refine l_iload_n rfl rfl ?_
      refine l_iaload (n := 24) rfl rfl (by omega) (by omega) (by unfold rg; omega) ?_
      have w11 : 0 ≤ (Xi S 918 ((o).toNat)) ∧ (Xi S 918 ((o).toNat)) ≤ 15 := hH.c _ _
      refine l_aload_n rfl rfl ?_
      refine l_gfr rfl rfl rfl rfl rfl (hH.r 904 24 921 rfl) ?_
      refine l_iload_n rfl rfl ?_
      refine l_iaload (n := 24) rfl rfl (by omega) (by omega) (by unfold rg; omega) ?_
      have w12 : 0 ≤ (Xi S 921 ((a).toNat)) ∧ (Xi S 921 ((a).toNat)) ≤ 15 := hH.c _ _
      refine l_callV rfl rfl rfl (t_mo_isBelow hH (Xi S 918 ((o).toNat)) (Xi S 921 ((a).toNat)) ⟨by omega, by omega⟩ ⟨by omega, by omega⟩ (by first | assumption | exact (ABV_FR hF rfl (by assumption : ABV S))) _) ?_
      rintro _ _ ⟨rfl, z14, rfl, w14, w13⟩
      show Rl _ _ _ _ _ [iv z14] _ _
      refine l_if_ne rfl rfl (by unfold rg; omega) (fun w15 => ?_) (fun w16 => ?_)
      · refine l_aload_n rfl rfl ?_
        refine l_iload_n rfl rfl ?_
        refine l_iload_n rfl rfl ?_
        refine l_iconst rfl ?_
        have w17 : 0 ≤ Xi S 904 19 ∧ Xi S 904 19 ≤ 24 := hH.c _ _
        refine l_callV rfl rfl rfl (t_mo_holds hH o a 0 ⟨by omega, by omega⟩ ⟨by omega, by omega⟩ ⟨by omega, by omega⟩ (Or.inl (by omega)) (by first | assumption | exact (ABV_FR hF rfl (by assumption : ABV S))) (by first | assumption | exact (TXM_FR hF rfl (by assumption : TXM S))) (by first | assumption | exact (DEFM_FR hF rfl (by assumption : DEFM S))) (by omega) _) ?_
        rintro _ T1 ⟨hHT1, w19, z18, rfl, w18⟩
        have hFT1 : FR md_mo_is S T1 := FR.tr hF w19 rfl
        show Rl _ _ _ _ _ [iv z18] _ _
        refine l_if_eq rfl rfl (by unfold rg; omega) (fun w20 => ?_) (fun w21 => ?_)
        · refine l_iconst rfl ?_
          refine l_ireturn rfl rfl ?_
          exact ⟨hHT1, hFT1, _, rfl, ⟨by omega, by omega⟩⟩
        · refine l_iconst rfl ?_
          refine l_goto rfl rfl ?_
          refine l_ireturn rfl rfl ?_
          exact ⟨hHT1, hFT1, _, rfl, ⟨by omega, by omega⟩⟩
      · refine l_iconst rfl ?_
        refine l_ireturn rfl rfl ?_
        exact ⟨hH, hF, _, rfl, ⟨by omega, by omega⟩⟩
def md_mo_feed : List rec := [(904, 905, 1, 2), (905, 906, 0, 100000)]
abbrev Q_mo_feed (S : sS) (w : Int) (n : Int) : pst := fun r S1 => HI S1 ∧ FR md_mo_feed S S1 ∧ (∃ z : Int, r = some (iv z) ∧ (-1 ≤ z ∧ z ≤ 5000) ∧ (1 ≤ n → n ≤ 8 → Xi S 904 1 + n ≤ 5000 → z = Xi S 904 1 + n ∧ Xi S1 904 1 = Xi S 904 1 + n) ∧ (n < 1 ∨ 8 < n ∨ 5000 < Xi S 904 1 + n → z = -1 ∧ Xi S1 904 1 = Xi S 904 1))
set_option maxRecDepth 100000 in
theorem t_mo_feed {S : sS} (hH : HI S) (w : Int) (n : Int) (hn : -2147483648 ≤ n ∧ n ≤ 2147483647) (d : Nat) : Mt lay0 (d + 1) m_mo_feed [.ref 904, jw w, iv n] S (Q_mo_feed S w n) := by
  refine Mt_R rfl rfl ?_
  have hF : FR md_mo_feed S S := FR.rf
  have w1 : 0 ≤ Xi S 904 1 ∧ Xi S 904 1 ≤ 5000 := hH.c _ _
  have C30 : ∀ (n30 : Nat) (T1 : sS) (_ : HI T1) (_ : FR md_mo_feed S T1) (v4 : Int), (-1 ≤ v4 ∧ v4 ≤ 7) → (Xi T1 904 1 = Xi S 904 1 + (n - 1 - v4)) → (1 ≤ n ∧ n ≤ 8 ∧ Xi S 904 1 + n ≤ 5000) → n30 = (v4 + 1).toNat → Rl lay0 (d + 0) m_mo_feed 30 [(0, .ref 904), (1, jw w), (4, iv v4)] [] T1 (Q_mo_feed S w n) := by
    intro n30
    induction n30 using Nat.strongRecOn with
    | ind n30 ih30 =>
      intro T1 hHT1 hFT1 v4 w2 w3 w4 hm30
      have w5 : 0 ≤ Xi T1 904 1 ∧ Xi T1 904 1 ≤ 5000 := hHT1.c _ _
      refine l_iload rfl rfl ?_
      refine l_if_lt rfl rfl (by unfold rg; omega) (fun w6 => ?_) (fun w7 => ?_)
      · refine l_aload_n rfl rfl ?_
        refine l_gfi rfl rfl rfl rfl rfl ?_
        refine l_ireturn rfl rfl ?_
        have w8 : 0 ≤ Xi T1 904 1 ∧ Xi T1 904 1 ≤ 5000 := hHT1.c _ _
        exact ⟨hHT1, hFT1, _, rfl, ⟨by omega, by omega⟩, (by first | assumption | omega), (by first | assumption | omega)⟩
      · refine l_aload_n rfl rfl ?_
        refine l_gfr rfl rfl rfl rfl rfl (hHT1.r 904 0 905 rfl) ?_
        refine l_aload_n rfl rfl ?_
        refine l_gfi rfl rfl rfl rfl rfl ?_
        refine l_lload_n rfl rfl ?_
        refine l_bipush rfl rfl ?_
        refine l_iload rfl rfl ?_
        refine l_imul rfl ?_
        refine l_lshrF rfl ?_
        have w9 : rgL (lshrF w (8 * v4)) := lshrF_rg
        refine l_l2iA rfl (fun c10 w10 => ?_)
        refine l_i2b rfl (fun c11 w11 => ?_)
        refine l_bastoreB1 (n := 5000) rfl rfl (by omega) (by omega) (by unfold rg; omega) ⟨by omega, by omega⟩ ?_
        obtain ⟨U2, eU2⟩ : ∃ T : sS, T = uI T1 905 (((Xi T1 904 1)).toNat) (Int32.ofInt c11) := ⟨_, rfl⟩
        rw [← eU2]
        have hHU2 : HI U2 := by rw [eU2]; exact HI_w hHT1 (show -128 ≤ c11 by omega) (show c11 ≤ 127 by omega)
        have hFU2 : FR md_mo_feed S U2 := by rw [eU2]; exact FR.wI hFT1 (mdf_i (r := (905, 906, 0, 100000)) (List.mem_of_getElem? (i := 1) rfl) (inR_i (by omega) (by omega) (by omega) (by omega)))
        have w12 : Xi U2 905 (((Xi T1 904 1)).toNat) = c11 := by rw [eU2]; exact Xi_same (by unfold rg; omega)
        refine l_aload_n rfl rfl ?_
        refine l_dup rfl rfl ?_
        refine l_gfi rfl rfl rfl rfl rfl ?_
        have w13 : (Xi U2 904 1) = (Xi T1 904 1) := (show Xi U2 904 1 = Xi T1 904 1 from by rw [eU2]; exact Xi_ne (by omega))
        rw [w13]
        refine l_iconst rfl ?_
        refine l_iadd rfl ?_
        refine l_pfi rfl rfl rfl rfl ?_
        obtain ⟨U3, eU3⟩ : ∃ T : sS, T = uI U2 904 1 (Int32.ofInt ((Xi T1 904 1) + 1)) := ⟨_, rfl⟩
        rw [← eU3]
        have hHU3 : HI U3 := by rw [eU3]; exact HI_w hHU2 (show 0 ≤ ((Xi T1 904 1) + 1) by omega) (show ((Xi T1 904 1) + 1) ≤ 5000 by omega)
        have hFU3 : FR md_mo_feed S U3 := by rw [eU3]; exact FR.wI hFU2 (mdf_i (r := (904, 905, 1, 2)) (List.mem_of_getElem? (i := 0) rfl) (inR_i (by omega) (by omega) (by omega) (by omega)))
        have w14 : Xi U3 904 1 = ((Xi T1 904 1) + 1) := by rw [eU3]; exact Xi_same (by unfold rg; omega)
        refine l_iinc rfl rfl rfl rfl ?_
        refine l_goto rfl rfl ?_
        have w15 : 0 ≤ Xi U3 904 1 ∧ Xi U3 904 1 ≤ 5000 := hHU3.c _ _
        exact Rl_weak (ih30 _ (by omega) U3 hHU3 hFU3 ((v4 + (-1))) (by omega) (by omega) (by omega) rfl) (And.intro rfl (And.intro rfl (And.intro rfl (True.intro))))
  refine l_iload_n rfl rfl ?_
  refine l_iconst rfl ?_
  refine l_icmp_lt rfl rfl (by unfold rg; omega) (by unfold rg; omega) (fun w16 => ?_) (fun w17 => ?_)
  · refine l_iconst rfl ?_
    refine l_ireturn rfl rfl ?_
    have w18 : 0 ≤ Xi S 904 1 ∧ Xi S 904 1 ≤ 5000 := hH.c _ _
    exact ⟨hH, hF, _, rfl, ⟨by omega, by omega⟩, (by first | assumption | omega), (by first | assumption | omega)⟩
  · refine l_iload_n rfl rfl ?_
    refine l_bipush rfl rfl ?_
    refine l_icmp_gt rfl rfl (by unfold rg; omega) (by unfold rg; omega) (fun w19 => ?_) (fun w20 => ?_)
    · refine l_iconst rfl ?_
      refine l_ireturn rfl rfl ?_
      have w21 : 0 ≤ Xi S 904 1 ∧ Xi S 904 1 ≤ 5000 := hH.c _ _
      exact ⟨hH, hF, _, rfl, ⟨by omega, by omega⟩, (by first | assumption | omega), (by first | assumption | omega)⟩
    · refine l_aload_n rfl rfl ?_
      refine l_gfi rfl rfl rfl rfl rfl ?_
      refine l_iload_n rfl rfl ?_
      refine l_iadd rfl ?_
      refine l_sipush rfl rfl ?_
      refine l_icmp_le rfl rfl (by unfold rg; omega) (by unfold rg; omega) (fun w22 => ?_) (fun w23 => ?_)
      · refine l_iload_n rfl rfl ?_
        refine l_iconst rfl ?_
        refine l_isub rfl ?_
        refine l_istore rfl rfl rfl ?_
        have w24 : 0 ≤ Xi S 904 1 ∧ Xi S 904 1 ≤ 5000 := hH.c _ _
        exact Rl_weak (C30 _ S hH hF ((n - 1)) (by omega) (by omega) (by omega) rfl) (And.intro rfl (And.intro rfl (And.intro rfl (True.intro))))
      · refine l_iconst rfl ?_
        refine l_ireturn rfl rfl ?_
        have w25 : 0 ≤ Xi S 904 1 ∧ Xi S 904 1 ≤ 5000 := hH.c _ _
        exact ⟨hH, hF, _, rfl, ⟨by omega, by omega⟩, (by first | assumption | omega), (by first | assumption | omega)⟩
def md_mo_isSaid : List rec := [(904, 905, 164, 165), (995, 996, 0, 100000)]
abbrev Q_mo_isSaid (S : sS) : pst := fun r S1 => HI S1 ∧ FR md_mo_isSaid S S1 ∧ (∃ z : Int, r = some (iv z) ∧ (0 ≤ z ∧ z ≤ 1))
set_option maxRecDepth 100000 in
theorem t_mo_isSaid {S : sS} (hH : HI S) (d : Nat) : Mt lay0 (d + 4) m_mo_isSaid [.ref 904] S (Q_mo_isSaid S) := by
  refine Mt_R rfl rfl ?_
  have hF : FR md_mo_isSaid S S := FR.rf
  have w1 : 0 ≤ Xi S 904 1 ∧ Xi S 904 1 ≤ 5000 := hH.c _ _
  have h1 : 0 ≤ Xi S 904 1 ∧ Xi S 904 1 ≤ 5000 := hH.c _ _
  have C7 : ∀ (n7 : Nat) (T1 : sS) (_ : HI T1) (_ : FR md_mo_isSaid S T1) (v1 : Int), (0 ≤ v1 ∧ v1 ≤ 5000) → n7 = (5001 - v1).toNat → Rl lay0 (d + 3) m_mo_isSaid 7 [(0, .ref 904), (1, iv v1)] [] T1 (Q_mo_isSaid S) := by
    intro n7
    induction n7 using Nat.strongRecOn with
    | ind n7 ih7 =>
      intro T1 hHT1 hFT1 v1 w2 hm7
      have w3 : Xi T1 904 1 = Xi S 904 1 := hFT1.x _ _ rfl
      have C34 : ∀ (n34 : Nat) (T2 : sS) (_ : HI T2) (_ : FR md_mo_isSaid S T2) (v1 : Int) (v2 : Int), (0 ≤ v1 ∧ v1 ≤ 4999) → (0 ≤ v2 ∧ v2 ≤ 5000) → (v1 ≤ v2) → (v1 < Xi S 904 1) → (v2 ≤ Xi S 904 1) → ((5001 - v1).toNat ≤ n7) → n34 = (5001 - v2).toNat → Rl lay0 (d + 3) m_mo_isSaid 34 [(0, .ref 904), (1, iv v1), (2, iv v2)] [] T2 (Q_mo_isSaid S) := by
        intro n34
        induction n34 using Nat.strongRecOn with
        | ind n34 ih34 =>
          intro T2 hHT2 hFT2 v1 v2 w4 w5 w6 w7 w8 w9 hm34
          have w10 : Xi T2 904 1 = Xi S 904 1 := hFT2.x _ _ rfl
          have C60 : ∀  (T3 : sS) (_ : HI T3) (_ : FR md_mo_isSaid S T3) (v1 : Int) (v2 : Int), (0 ≤ v1 ∧ v1 ≤ 4999) → (0 ≤ v2 ∧ v2 ≤ 5000) → (v1 ≤ v2) → (v1 < Xi S 904 1) → (v2 ≤ Xi S 904 1) → ((5001 - v1).toNat ≤ n7) → Rl lay0 (d + 3) m_mo_isSaid 60 [(0, .ref 904), (1, iv v1), (2, iv v2)] [] T3 (Q_mo_isSaid S) := by
            intro T3 hHT3 hFT3 v1 v2 w11 w12 w13 w14 w15 w16
            have w17 : Xi T3 904 1 = Xi S 904 1 := hFT3.x _ _ rfl
            refine l_iload_n rfl rfl ?_
            refine l_iload_n rfl rfl ?_
            refine l_icmp_eq rfl rfl (by unfold rg; omega) (by unfold rg; omega) (fun w18 => ?_) (fun w19 => ?_)
            · refine l_iconst rfl ?_
              refine l_ireturn rfl rfl ?_
              have w20 : 0 ≤ Xi T3 904 1 ∧ Xi T3 904 1 ≤ 5000 := hHT3.c _ _
              exact ⟨hHT3, hFT3, _, rfl, ⟨by omega, by omega⟩⟩
            · refine l_iload_n rfl rfl ?_
              refine l_iload_n rfl rfl ?_
              refine l_isub rfl ?_
              refine l_bipush rfl rfl ?_
              refine l_icmp_gt rfl rfl (by unfold rg; omega) (by unfold rg; omega) (fun w21 => ?_) (fun w22 => ?_)
              · refine l_iconst rfl ?_
                refine l_ireturn rfl rfl ?_
                have w23 : 0 ≤ Xi T3 904 1 ∧ Xi T3 904 1 ≤ 5000 := hHT3.c _ _
                exact ⟨hHT3, hFT3, _, rfl, ⟨by omega, by omega⟩⟩
              · refine l_aload_n rfl rfl ?_
                refine l_gfi rfl rfl rfl rfl rfl ?_
                have w24 : 0 ≤ (Xi T3 904 164) ∧ (Xi T3 904 164) ≤ 50 := hHT3.c _ _
                refine l_bipush rfl rfl ?_
                refine l_icmp_ne rfl rfl (by unfold rg; omega) (by unfold rg; omega) (fun w25 => ?_) (fun w26 => ?_)
                · refine l_aload_n rfl rfl ?_
                  refine l_gfr rfl rfl rfl rfl rfl (hHT3.r 904 163 995 rfl) ?_
                  refine l_aload_n rfl rfl ?_
                  refine l_gfi rfl rfl rfl rfl rfl ?_
                  refine l_aload_n rfl rfl ?_
                  refine l_gfr rfl rfl rfl rfl rfl (hHT3.r 904 0 905 rfl) ?_
                  refine l_iload_n rfl rfl ?_
                  refine l_iload_n rfl rfl ?_
                  refine l_iload_n rfl rfl ?_
                  refine l_isub rfl ?_
                  have w27 : 0 ≤ Xi T3 904 1 ∧ Xi T3 904 1 ≤ 5000 := hHT3.c _ _
                  refine l_callS rfl rfl (by decide) rfl (t_mo_wordOf hHT3 905 v1 (v2 - v1) (Or.inl rfl) ⟨by omega, by omega⟩ ⟨by omega, by omega⟩ (by first | assumption | omega) _) ?_
                  rintro _ _ ⟨rfl, z28, rfl⟩
                  show Rl _ _ _ _ _ [jw z28, iv (Xi T3 904 164), .ref 995] _ _
                  refine l_lastore (n := 50) rfl rfl (by omega) (by omega) (by unfold rg; omega) ?_
                  obtain ⟨U4, eU4⟩ : ∃ T : sS, T = uJ T3 995 (((Xi T3 904 164)).toNat) (Int64.ofInt z28) := ⟨_, rfl⟩
                  rw [← eU4]
                  have hHU4 : HI U4 := by rw [eU4]; exact HI_J hHT3
                  have hFU4 : FR md_mo_isSaid S U4 := by rw [eU4]; exact FR.wJ hFT3 (mdf_i (r := (995, 996, 0, 100000)) (List.mem_of_getElem? (i := 1) rfl) (inR_i (by omega) (by omega) (by omega) (by omega)))
                  refine l_aload_n rfl rfl ?_
                  refine l_dup rfl rfl ?_
                  refine l_gfi rfl rfl rfl rfl rfl ?_
                  have w29 : (Xi U4 904 164) = (Xi T3 904 164) := (show Xi U4 904 164 = Xi T3 904 164 from by rw [eU4]; rfl)
                  rw [w29]
                  refine l_iconst rfl ?_
                  refine l_iadd rfl ?_
                  refine l_pfi rfl rfl rfl rfl ?_
                  obtain ⟨U5, eU5⟩ : ∃ T : sS, T = uI U4 904 164 (Int32.ofInt ((Xi T3 904 164) + 1)) := ⟨_, rfl⟩
                  rw [← eU5]
                  have hHU5 : HI U5 := by rw [eU5]; exact HI_w hHU4 (show 0 ≤ ((Xi T3 904 164) + 1) by omega) (show ((Xi T3 904 164) + 1) ≤ 50 by omega)
                  have hFU5 : FR md_mo_isSaid S U5 := by rw [eU5]; exact FR.wI hFU4 (mdf_i (r := (904, 905, 164, 165)) (List.mem_of_getElem? (i := 0) rfl) (inR_i (by omega) (by omega) (by omega) (by omega)))
                  have w30 : Xi U5 904 164 = ((Xi T3 904 164) + 1) := by rw [eU5]; exact Xi_same (by unfold rg; omega)
                  refine l_iload_n rfl rfl ?_
                  refine l_istore_n rfl rfl rfl ?_
                  refine l_goto rfl rfl ?_
                  have w31 : Xi U5 904 1 = Xi T3 904 1 := (show Xi U5 904 1 = Xi U4 904 1 from by rw [eU5]; exact Xi_ne (by omega)).trans ((show Xi U4 904 1 = Xi T3 904 1 from by rw [eU4]; rfl))
                  have w32 : 0 ≤ Xi T3 904 1 ∧ Xi T3 904 1 ≤ 5000 := hHT3.c _ _
                  exact Rl_weak (ih7 _ (by omega) U5 hHU5 hFU5 (v2) (by omega) rfl) (And.intro rfl (And.intro rfl (True.intro)))
                · refine l_iconst rfl ?_
                  refine l_ireturn rfl rfl ?_
                  have w33 : 0 ≤ Xi T3 904 1 ∧ Xi T3 904 1 ≤ 5000 := hHT3.c _ _
                  exact ⟨hHT3, hFT3, _, rfl, ⟨by omega, by omega⟩⟩
          refine l_iload_n rfl rfl ?_
          refine l_aload_n rfl rfl ?_
          refine l_gfi rfl rfl rfl rfl rfl ?_
          have s36 : (Xi T2 904 1) = Xi S 904 1 := by first | rfl | exact hFT2.x 904 1 rfl
          refine l_icmp_ge rfl rfl (by unfold rg; omega) (by unfold rg; omega) (fun w34 => ?_) (fun w35 => ?_)
          · have w36 : 0 ≤ Xi T2 904 1 ∧ Xi T2 904 1 ≤ 5000 := hHT2.c _ _
            exact Rl_weak (C60 T2 hHT2 hFT2 (v1) (v2) (by omega) (by omega) (by omega) (by omega) (by omega) (by omega)) (And.intro rfl (And.intro rfl (And.intro rfl (True.intro))))
          · refine l_aload_n rfl rfl ?_
            refine l_gfr rfl rfl rfl rfl rfl (hHT2.r 904 0 905 rfl) ?_
            refine l_iload_n rfl rfl ?_
            refine l_baload (n := 5000) rfl rfl rfl (by decide) (by omega) (by omega) (by unfold rg; omega) ?_
            have w37 : -128 ≤ (Xi T2 905 ((v2).toNat)) ∧ (Xi T2 905 ((v2).toNat)) ≤ 127 := hHT2.c _ _
            have w38 : 0 ≤ Xi T2 904 1 ∧ Xi T2 904 1 ≤ 5000 := hHT2.c _ _
            refine l_callS rfl rfl (by decide) rfl (t_mo_isLetter hHT2 (Xi T2 905 ((v2).toNat)) ⟨by omega, by omega⟩ _) ?_
            rintro _ _ ⟨rfl, z40, rfl, w40, w39⟩
            show Rl _ _ _ _ _ [iv z40] _ _
            refine l_if_eq rfl rfl (by unfold rg; omega) (fun w41 => ?_) (fun w42 => ?_)
            · have w43 : 0 ≤ Xi T2 904 1 ∧ Xi T2 904 1 ≤ 5000 := hHT2.c _ _
              exact Rl_weak (C60 T2 hHT2 hFT2 (v1) (v2) (by omega) (by omega) (by omega) (by omega) (by omega) (by omega)) (And.intro rfl (And.intro rfl (And.intro rfl (True.intro))))
            · refine l_iinc rfl rfl rfl rfl ?_
              refine l_goto rfl rfl ?_
              have w44 : 0 ≤ Xi T2 904 1 ∧ Xi T2 904 1 ≤ 5000 := hHT2.c _ _
              exact Rl_weak (ih34 _ (by omega) T2 hHT2 hFT2 (v1) ((v2 + 1)) (by omega) (by omega) (by omega) (by omega) (by omega) (by omega) rfl) (And.intro rfl (And.intro rfl (And.intro rfl (True.intro))))
      refine l_iload_n rfl rfl ?_
      refine l_aload_n rfl rfl ?_
      refine l_gfi rfl rfl rfl rfl rfl ?_
      have s9 : (Xi T1 904 1) = Xi S 904 1 := by first | rfl | exact hFT1.x 904 1 rfl
      refine l_icmp_ge rfl rfl (by unfold rg; omega) (by unfold rg; omega) (fun w45 => ?_) (fun w46 => ?_)
      · refine l_iconst rfl ?_
        refine l_ireturn rfl rfl ?_
        have w47 : 0 ≤ Xi T1 904 1 ∧ Xi T1 904 1 ≤ 5000 := hHT1.c _ _
        exact ⟨hHT1, hFT1, _, rfl, ⟨by omega, by omega⟩⟩
      · refine l_aload_n rfl rfl ?_
        refine l_gfr rfl rfl rfl rfl rfl (hHT1.r 904 0 905 rfl) ?_
        refine l_iload_n rfl rfl ?_
        refine l_baload (n := 5000) rfl rfl rfl (by decide) (by omega) (by omega) (by unfold rg; omega) ?_
        have w48 : -128 ≤ (Xi T1 905 ((v1).toNat)) ∧ (Xi T1 905 ((v1).toNat)) ≤ 127 := hHT1.c _ _
        refine l_bipush rfl rfl ?_
        refine l_icmp_ne rfl rfl (by unfold rg; omega) (by unfold rg; omega) (fun w49 => ?_) (fun w50 => ?_)
        · refine l_iload_n rfl rfl ?_
          refine l_istore_n rfl rfl rfl ?_
          have w51 : 0 ≤ Xi T1 904 1 ∧ Xi T1 904 1 ≤ 5000 := hHT1.c _ _
          exact Rl_weak (C34 _ T1 hHT1 hFT1 (v1) (v1) (by omega) (by omega) (by omega) (by omega) (by omega) (by omega) rfl) (And.intro rfl (And.intro rfl (And.intro rfl (True.intro))))
        · refine l_iinc rfl rfl rfl rfl ?_
          refine l_goto rfl rfl ?_
          have w52 : 0 ≤ Xi T1 904 1 ∧ Xi T1 904 1 ≤ 5000 := hHT1.c _ _
          exact Rl_weak (ih7 _ (by omega) T1 hHT1 hFT1 ((v1 + 1)) (by omega) rfl) (And.intro rfl (And.intro rfl (True.intro)))
  refine l_aload_n rfl rfl ?_
  refine l_iconst rfl ?_
  refine l_pfi rfl rfl rfl rfl ?_
  obtain ⟨U6, eU6⟩ : ∃ T : sS, T = uI S 904 164 (Int32.ofInt 0) := ⟨_, rfl⟩
  rw [← eU6]
  have hHU6 : HI U6 := by rw [eU6]; exact HI_w hH (show 0 ≤ 0 by omega) (show 0 ≤ 50 by omega)
  have hFU6 : FR md_mo_isSaid S U6 := by rw [eU6]; exact FR.wI hF (mdf_i (r := (904, 905, 164, 165)) (List.mem_of_getElem? (i := 0) rfl) (inR_i (by omega) (by omega) (by omega) (by omega)))
  have w53 : Xi U6 904 164 = 0 := by rw [eU6]; exact Xi_same (by unfold rg; omega)
  refine l_iconst rfl ?_
  refine l_istore_n rfl rfl rfl ?_
  have w54 : Xi U6 904 1 = Xi S 904 1 := (show Xi U6 904 1 = Xi S 904 1 from by rw [eU6]; exact Xi_ne (by omega))
  have w55 : 0 ≤ Xi S 904 1 ∧ Xi S 904 1 ≤ 5000 := hH.c _ _
  exact Rl_weak (C7 _ U6 hHU6 hFU6 (0) (by omega) rfl) (And.intro rfl (And.intro rfl (True.intro)))
def md_mo_fitsCommand : List rec := [(904, 905, 165, 166)]
abbrev Q_mo_fitsCommand (S : sS) (c : Int) : pst := fun r S1 => HI S1 ∧ FR md_mo_fitsCommand S S1 ∧ (∃ z : Int, r = some (iv z) ∧ (0 ≤ z ∧ z ≤ 1))
set_option maxRecDepth 100000 in
theorem t_mo_fitsCommand {S : sS} (hH : HI S) (c : Int) (hc : 0 ≤ c ∧ c ≤ 19) (hM : LXM S) (hB : ABV S) (d : Nat) : Mt lay0 (d + 2) m_mo_fitsCommand [.ref 904, iv c] S (Q_mo_fitsCommand S c) := by
  refine Mt_R rfl rfl ?_
  have hF : FR md_mo_fitsCommand S S := FR.rf
  have C25 : ∀ (n25 : Nat) (T1 : sS) (_ : HI T1) (_ : FR md_mo_fitsCommand S T1) (v2 : Int) (v3 : Int) (v4 : Int) (v5 : Int), (0 ≤ v2 ∧ v2 ≤ 8) → (-8 ≤ v3 ∧ v3 ≤ 50) → (0 ≤ v4 ∧ v4 ≤ 50) → (0 ≤ v5 ∧ v5 ≤ 8) → (0 ≤ v4 ∧ v4 ≤ 50) → n25 = (9 - v5).toNat → Rl lay0 (d + 1) m_mo_fitsCommand 25 [(0, .ref 904), (1, iv c), (2, iv v2), (3, iv v3), (4, iv v4), (5, iv v5)] [] T1 (Q_mo_fitsCommand S c) := by
    intro n25
    induction n25 using Nat.strongRecOn with
    | ind n25 ih25 =>
      intro T1 hHT1 hFT1 v2 v3 v4 v5 w1 w2 w3 w4 w5 hm25
      have w6 : Xi T1 904 15 = Xi S 904 15 := hFT1.x _ _ rfl
      refine l_iload rfl rfl ?_
      refine l_iload_n rfl rfl ?_
      refine l_icmp_ge rfl rfl (by unfold rg; omega) (by unfold rg; omega) (fun w7 => ?_) (fun w8 => ?_)
      · refine l_iload rfl rfl ?_
        refine l_aload_n rfl rfl ?_
        refine l_gfi rfl rfl rfl rfl rfl ?_
        have w9 : 0 ≤ (Xi T1 904 164) ∧ (Xi T1 904 164) ≤ 50 := hHT1.c _ _
        refine l_icmp_ne rfl rfl (by unfold rg; omega) (by unfold rg; omega) (fun w10 => ?_) (fun w11 => ?_)
        · refine l_iconst rfl ?_
          refine l_ireturn rfl rfl ?_
          exact ⟨hHT1, hFT1, _, rfl, ⟨by omega, by omega⟩⟩
        · refine l_iconst rfl ?_
          refine l_goto rfl rfl ?_
          refine l_ireturn rfl rfl ?_
          exact ⟨hHT1, hFT1, _, rfl, ⟨by omega, by omega⟩⟩
      · refine l_aload_n rfl rfl ?_
        refine l_gfr rfl rfl rfl rfl rfl (hHT1.r 904 58 948 rfl) ?_
        refine l_bipush rfl rfl ?_
        refine l_iload_n rfl rfl ?_
        refine l_imul rfl ?_
        refine l_iload rfl rfl ?_
        refine l_iadd rfl ?_
        refine l_laload (n := 160) rfl rfl (by omega) (by omega) (by unfold rg; omega) ?_
        have w12 : -9223372036854775808 ≤ (Xj T1 948 ((((8 * c) + v5)).toNat)) ∧ (Xj T1 948 ((((8 * c) + v5)).toNat)) < 9223372036854775808 := Xj_rg
        refine l_lconst (z := 0) rfl rfl ?_
        refine l_lcmpA rfl (fun c13 w13 => ?_)
        refine l_if_eq rfl rfl (by unfold rg; omega) (fun w14 => ?_) (fun w15 => ?_)
        · refine l_iconst rfl ?_
          refine l_iload_n rfl rfl ?_
          refine l_iadd rfl ?_
          refine l_istore rfl rfl rfl ?_
          refine l_iload rfl rfl ?_
          refine l_iconst rfl ?_
          refine l_icmp_lt rfl rfl (by unfold rg; omega) (by unfold rg; omega) (fun w16 => ?_) (fun w17 => ?_)
          · refine l_iconst rfl ?_
            refine l_ireturn rfl rfl ?_
            exact ⟨hHT1, hFT1, _, rfl, ⟨by omega, by omega⟩⟩
          · refine l_iload rfl rfl ?_
            refine l_iconst rfl ?_
            refine l_icmp_gt rfl rfl (by unfold rg; omega) (by unfold rg; omega) (fun w18 => ?_) (fun w19 => ?_)
            · refine l_iconst rfl ?_
              refine l_ireturn rfl rfl ?_
              exact ⟨hHT1, hFT1, _, rfl, ⟨by omega, by omega⟩⟩
            · refine l_iload rfl rfl ?_
              refine l_iload rfl rfl ?_
              refine l_iadd rfl ?_
              refine l_aload_n rfl rfl ?_
              refine l_gfi rfl rfl rfl rfl rfl ?_
              have w20 : 0 ≤ (Xi T1 904 164) ∧ (Xi T1 904 164) ≤ 50 := hHT1.c _ _
              refine l_icmp_le rfl rfl (by unfold rg; omega) (by unfold rg; omega) (fun w21 => ?_) (fun w22 => ?_)
              · refine l_aload_n rfl rfl ?_
                refine l_aload_n rfl rfl ?_
                refine l_gfr rfl rfl rfl rfl rfl (hHT1.r 904 163 995 rfl) ?_
                refine l_iload rfl rfl ?_
                refine l_laload (n := 50) rfl rfl (by omega) (by omega) (by unfold rg; omega) ?_
                have w23 : -9223372036854775808 ≤ (Xj T1 995 ((v4).toNat)) ∧ (Xj T1 995 ((v4).toNat)) < 9223372036854775808 := Xj_rg
                refine l_iload rfl rfl ?_
                refine l_iconst rfl ?_
                refine l_icmp_le rfl rfl (by unfold rg; omega) (by unfold rg; omega) (fun w24 => ?_) (fun w25 => ?_)
                · refine l_lconst (z := 0) rfl rfl ?_
                  refine l_iload rfl rfl ?_
                  refine l_iconst rfl ?_
                  refine l_icmp_le rfl rfl (by unfold rg; omega) (by unfold rg; omega) (fun w26 => ?_) (fun w27 => ?_)
                  · refine l_lconst (z := 0) rfl rfl ?_
                    refine l_iload rfl rfl ?_
                    have w28 : 0 ≤ Xi T1 904 15 ∧ Xi T1 904 15 ≤ 300 := hHT1.c _ _
                    refine l_callV rfl rfl rfl (t_mo_find hHT1 (Xj T1 995 ((v4).toNat)) 0 0 (1 + v3) ⟨by omega, by omega⟩ _) ?_
                    rintro _ _ ⟨rfl, z30, rfl, w30, w29⟩
                    show Rl _ _ _ _ _ [iv z30] _ _
                    have hMc : LXM T1 := LXM_FR hFT1 rfl hM
                    have hc19 : 0 ≤ Xi T1 904 19 ∧ Xi T1 904 19 ≤ 24 := hHT1.c _ _
                    have hc15 : 0 ≤ Xi T1 904 15 ∧ Xi T1 904 15 ≤ 300 := hHT1.c _ _
                    refine l_istore rfl rfl rfl ?_
                    refine l_aload_n rfl rfl ?_
                    refine l_gfr rfl rfl rfl rfl rfl (hHT1.r 904 59 949 rfl) ?_
                    refine l_iload_n rfl rfl ?_
                    refine l_iaload (n := 20) rfl rfl (by omega) (by omega) (by unfold rg; omega) ?_
                    have w31 : -2 ≤ (Xi T1 949 ((c).toNat)) ∧ (Xi T1 949 ((c).toNat)) ≤ 15 := hHT1.c _ _
                    refine l_bipush rfl rfl ?_
                    refine l_icmp_ne rfl rfl (by unfold rg; omega) (by unfold rg; omega) (fun w32 => ?_) (fun w33 => ?_)
                    · refine l_iconst rfl ?_
                      refine l_istore rfl rfl rfl ?_
                      refine l_iload rfl rfl ?_
                      refine l_iconst rfl ?_
                      refine l_icmp_eq rfl rfl (by unfold rg; omega) (by unfold rg; omega) (fun w34 => ?_) (fun w35 => ?_)
                      · refine l_iconst rfl ?_
                        refine l_ireturn rfl rfl ?_
                        exact ⟨hHT1, hFT1, _, rfl, ⟨by omega, by omega⟩⟩
                      · refine l_aload_n rfl rfl ?_
                        refine l_gfr rfl rfl rfl rfl rfl (hHT1.r 904 12 914 rfl) ?_
                        refine l_iload rfl rfl ?_
                        refine l_iaload (n := 300) rfl rfl (by omega) (by omega) (by unfold rg; omega) ?_
                        have w36 : 0 ≤ (Xi T1 914 ((z30).toNat)) ∧ (Xi T1 914 ((z30).toNat)) ≤ 12 := hHT1.c _ _
                        refine l_iload rfl rfl ?_
                        refine l_if_eq rfl rfl (by unfold rg; omega) (fun w37 => ?_) (fun w38 => absurd w38 (by omega))
                        · refine l_iconst rfl ?_
                          refine l_icmp_ne rfl rfl (by unfold rg; omega) (by unfold rg; omega) (fun w39 => ?_) (fun w40 => ?_)
                          · refine l_iconst rfl ?_
                            refine l_ireturn rfl rfl ?_
                            exact ⟨hHT1, hFT1, _, rfl, ⟨by omega, by omega⟩⟩
                          · refine l_iload rfl rfl ?_
                            refine l_if_ne rfl rfl (by unfold rg; omega) (fun w41 => absurd w41 (by omega)) (fun w42 => ?_)
                            · refine l_aload_n rfl rfl ?_
                              refine l_aload_n rfl rfl ?_
                              refine l_gfr rfl rfl rfl rfl rfl (hHT1.r 904 20 918 rfl) ?_
                              refine l_aload_n rfl rfl ?_
                              refine l_gfr rfl rfl rfl rfl rfl (hHT1.r 904 13 915 rfl) ?_
                              refine l_iload rfl rfl ?_
                              refine l_iaload (n := 300) rfl rfl (by omega) (by omega) (by unfold rg; omega) ?_
                              have w43 : 0 ≤ (Xi T1 915 ((z30).toNat)) ∧ (Xi T1 915 ((z30).toNat)) ≤ 63 := hHT1.c _ _
                              have x2334 : Xi T1 914 (z30).toNat = 4 → (Xi T1 915 ((z30).toNat)) < Xi T1 904 19 := fun q => by have t := lxm (s := 4) hMc (k := z30) (by omega) (by omega) q; rw [cM4] at t; exact t
                              have x23312 : Xi T1 914 (z30).toNat = 12 → (Xi T1 915 ((z30).toNat)) < 6 := fun q => by have t := lxm (s := 12) hMc (k := z30) (by omega) (by omega) q; rw [cM12] at t; exact t
                              refine l_iaload (n := 24) rfl rfl (by omega) (by omega) (by unfold rg; omega) ?_
                              have w44 : 0 ≤ (Xi T1 918 (((Xi T1 915 ((z30).toNat))).toNat)) ∧ (Xi T1 918 (((Xi T1 915 ((z30).toNat))).toNat)) ≤ 15 := hHT1.c _ _
                              refine l_aload_n rfl rfl ?_
                              refine l_gfr rfl rfl rfl rfl rfl (hHT1.r 904 59 949 rfl) ?_
                              refine l_iload_n rfl rfl ?_
                              refine l_iaload (n := 20) rfl rfl (by omega) (by omega) (by unfold rg; omega) ?_
                              refine l_callV rfl rfl rfl (t_mo_isBelow hHT1 (Xi T1 918 (((Xi T1 915 ((z30).toNat))).toNat)) (Xi T1 949 ((c).toNat)) ⟨by omega, by omega⟩ ⟨by omega, by omega⟩ (by first | assumption | exact (ABV_FR hFT1 rfl (by assumption : ABV S))) _) ?_
                              rintro _ _ ⟨rfl, z46, rfl, w46, w45⟩
                              show Rl _ _ _ _ _ [iv z46] _ _
                              refine l_if_ne rfl rfl (by unfold rg; omega) (fun w47 => ?_) (fun w48 => ?_)
                              · refine l_aload_n rfl rfl ?_
                                refine l_aload_n rfl rfl ?_
                                refine l_gfr rfl rfl rfl rfl rfl (hHT1.r 904 13 915 rfl) ?_
                                refine l_iload rfl rfl ?_
                                refine l_iaload (n := 300) rfl rfl (by omega) (by omega) (by unfold rg; omega) ?_
                                have x2564 : Xi T1 914 (z30).toNat = 4 → (Xi T1 915 ((z30).toNat)) < Xi T1 904 19 := fun q => by have t := lxm (s := 4) hMc (k := z30) (by omega) (by omega) q; rw [cM4] at t; exact t
                                have x25612 : Xi T1 914 (z30).toNat = 12 → (Xi T1 915 ((z30).toNat)) < 6 := fun q => by have t := lxm (s := 12) hMc (k := z30) (by omega) (by omega) q; rw [cM12] at t; exact t
                                refine l_pfi rfl rfl rfl rfl ?_
                                obtain ⟨U2, eU2⟩ : ∃ T : sS, T = uI T1 904 165 (Int32.ofInt (Xi T1 915 ((z30).toNat))) := ⟨_, rfl⟩
                                rw [← eU2]
                                have hHU2 : HI U2 := by rw [eU2]; exact HI_w hHT1 (show -1 ≤ (Xi T1 915 ((z30).toNat)) by omega) (show (Xi T1 915 ((z30).toNat)) ≤ 23 by omega)
                                have hFU2 : FR md_mo_fitsCommand S U2 := by rw [eU2]; exact FR.wI hFT1 (mdf_i (r := (904, 905, 165, 166)) (List.mem_of_getElem? (i := 0) rfl) (inR_i (by omega) (by omega) (by omega) (by omega)))
                                have w49 : Xi U2 904 165 = (Xi T1 915 ((z30).toNat)) := by rw [eU2]; exact Xi_same (by unfold rg; omega)
                                refine l_iload rfl rfl ?_
                                refine l_iload rfl rfl ?_
                                refine l_iadd rfl ?_
                                refine l_istore rfl rfl rfl ?_
                                refine l_iinc rfl rfl rfl rfl ?_
                                refine l_goto rfl rfl ?_
                                exact Rl_weak (ih25 _ (by omega) U2 hHU2 hFU2 (v2) (v3) ((v4 + (1 + v3))) ((v5 + 1)) (by omega) (by omega) (by omega) (by omega) (by omega) rfl) (And.intro rfl (And.intro rfl (And.intro rfl (And.intro rfl (And.intro rfl (And.intro rfl (True.intro)))))))
                              · refine l_iconst rfl ?_
                                refine l_ireturn rfl rfl ?_
                                exact ⟨hHT1, hFT1, _, rfl, ⟨by omega, by omega⟩⟩
                    · refine l_iconst rfl ?_
                      refine l_goto rfl rfl ?_
                      refine l_istore rfl rfl rfl ?_
                      refine l_iload rfl rfl ?_
                      refine l_iconst rfl ?_
                      refine l_icmp_eq rfl rfl (by unfold rg; omega) (by unfold rg; omega) (fun w50 => ?_) (fun w51 => ?_)
                      · refine l_iconst rfl ?_
                        refine l_ireturn rfl rfl ?_
                        exact ⟨hHT1, hFT1, _, rfl, ⟨by omega, by omega⟩⟩
                      · refine l_aload_n rfl rfl ?_
                        refine l_gfr rfl rfl rfl rfl rfl (hHT1.r 904 12 914 rfl) ?_
                        refine l_iload rfl rfl ?_
                        refine l_iaload (n := 300) rfl rfl (by omega) (by omega) (by unfold rg; omega) ?_
                        have w52 : 0 ≤ (Xi T1 914 ((z30).toNat)) ∧ (Xi T1 914 ((z30).toNat)) ≤ 12 := hHT1.c _ _
                        refine l_iload rfl rfl ?_
                        refine l_if_eq rfl rfl (by unfold rg; omega) (fun w53 => absurd w53 (by omega)) (fun w54 => ?_)
                        · refine l_bipush rfl rfl ?_
                          refine l_goto rfl rfl ?_
                          refine l_icmp_ne rfl rfl (by unfold rg; omega) (by unfold rg; omega) (fun w55 => ?_) (fun w56 => ?_)
                          · refine l_iconst rfl ?_
                            refine l_ireturn rfl rfl ?_
                            exact ⟨hHT1, hFT1, _, rfl, ⟨by omega, by omega⟩⟩
                          · refine l_iload rfl rfl ?_
                            refine l_if_ne rfl rfl (by unfold rg; omega) (fun w57 => ?_) (fun w58 => absurd w58 (by omega))
                            · refine l_aload_n rfl rfl ?_
                              refine l_aload_n rfl rfl ?_
                              refine l_gfr rfl rfl rfl rfl rfl (hHT1.r 904 13 915 rfl) ?_
                              refine l_iload rfl rfl ?_
                              refine l_iaload (n := 300) rfl rfl (by omega) (by omega) (by unfold rg; omega) ?_
                              have w59 : 0 ≤ (Xi T1 915 ((z30).toNat)) ∧ (Xi T1 915 ((z30).toNat)) ≤ 63 := hHT1.c _ _
                              have x2564 : Xi T1 914 (z30).toNat = 4 → (Xi T1 915 ((z30).toNat)) < Xi T1 904 19 := fun q => by have t := lxm (s := 4) hMc (k := z30) (by omega) (by omega) q; rw [cM4] at t; exact t
                              have x25612 : Xi T1 914 (z30).toNat = 12 → (Xi T1 915 ((z30).toNat)) < 6 := fun q => by have t := lxm (s := 12) hMc (k := z30) (by omega) (by omega) q; rw [cM12] at t; exact t
                              refine l_pfi rfl rfl rfl rfl ?_
                              obtain ⟨U3, eU3⟩ : ∃ T : sS, T = uI T1 904 165 (Int32.ofInt (Xi T1 915 ((z30).toNat))) := ⟨_, rfl⟩
                              rw [← eU3]
                              have hHU3 : HI U3 := by rw [eU3]; exact HI_w hHT1 (show -1 ≤ (Xi T1 915 ((z30).toNat)) by omega) (show (Xi T1 915 ((z30).toNat)) ≤ 23 by omega)
                              have hFU3 : FR md_mo_fitsCommand S U3 := by rw [eU3]; exact FR.wI hFT1 (mdf_i (r := (904, 905, 165, 166)) (List.mem_of_getElem? (i := 0) rfl) (inR_i (by omega) (by omega) (by omega) (by omega)))
                              have w60 : Xi U3 904 165 = (Xi T1 915 ((z30).toNat)) := by rw [eU3]; exact Xi_same (by unfold rg; omega)
                              refine l_iload rfl rfl ?_
                              refine l_iload rfl rfl ?_
                              refine l_iadd rfl ?_
                              refine l_istore rfl rfl rfl ?_
                              refine l_iinc rfl rfl rfl rfl ?_
                              refine l_goto rfl rfl ?_
                              exact Rl_weak (ih25 _ (by omega) U3 hHU3 hFU3 (v2) (v3) ((v4 + (1 + v3))) ((v5 + 1)) (by omega) (by omega) (by omega) (by omega) (by omega) rfl) (And.intro rfl (And.intro rfl (And.intro rfl (And.intro rfl (And.intro rfl (And.intro rfl (True.intro)))))))
                  · refine l_aload_n rfl rfl ?_
                    refine l_gfr rfl rfl rfl rfl rfl (hHT1.r 904 163 995 rfl) ?_
                    refine l_iload rfl rfl ?_
                    refine l_iconst rfl ?_
                    refine l_iadd rfl ?_
                    refine l_laload (n := 50) rfl rfl (by omega) (by omega) (by unfold rg; omega) ?_
                    have w61 : -9223372036854775808 ≤ (Xj T1 995 (((v4 + 2)).toNat)) ∧ (Xj T1 995 (((v4 + 2)).toNat)) < 9223372036854775808 := Xj_rg
                    refine l_goto rfl rfl ?_
                    refine l_iload rfl rfl ?_
                    have w62 : 0 ≤ Xi T1 904 15 ∧ Xi T1 904 15 ≤ 300 := hHT1.c _ _
                    refine l_callV rfl rfl rfl (t_mo_find hHT1 (Xj T1 995 ((v4).toNat)) 0 (Xj T1 995 (((v4 + 2)).toNat)) (1 + v3) ⟨by omega, by omega⟩ _) ?_
                    rintro _ _ ⟨rfl, z64, rfl, w64, w63⟩
                    show Rl _ _ _ _ _ [iv z64] _ _
                    have hMc : LXM T1 := LXM_FR hFT1 rfl hM
                    have hc19 : 0 ≤ Xi T1 904 19 ∧ Xi T1 904 19 ≤ 24 := hHT1.c _ _
                    have hc15 : 0 ≤ Xi T1 904 15 ∧ Xi T1 904 15 ≤ 300 := hHT1.c _ _
                    refine l_istore rfl rfl rfl ?_
                    refine l_aload_n rfl rfl ?_
                    refine l_gfr rfl rfl rfl rfl rfl (hHT1.r 904 59 949 rfl) ?_
                    refine l_iload_n rfl rfl ?_
                    refine l_iaload (n := 20) rfl rfl (by omega) (by omega) (by unfold rg; omega) ?_
                    have w65 : -2 ≤ (Xi T1 949 ((c).toNat)) ∧ (Xi T1 949 ((c).toNat)) ≤ 15 := hHT1.c _ _
                    refine l_bipush rfl rfl ?_
                    refine l_icmp_ne rfl rfl (by unfold rg; omega) (by unfold rg; omega) (fun w66 => ?_) (fun w67 => ?_)
                    · refine l_iconst rfl ?_
                      refine l_istore rfl rfl rfl ?_
                      refine l_iload rfl rfl ?_
                      refine l_iconst rfl ?_
                      refine l_icmp_eq rfl rfl (by unfold rg; omega) (by unfold rg; omega) (fun w68 => ?_) (fun w69 => ?_)
                      · refine l_iconst rfl ?_
                        refine l_ireturn rfl rfl ?_
                        exact ⟨hHT1, hFT1, _, rfl, ⟨by omega, by omega⟩⟩
                      · refine l_aload_n rfl rfl ?_
                        refine l_gfr rfl rfl rfl rfl rfl (hHT1.r 904 12 914 rfl) ?_
                        refine l_iload rfl rfl ?_
                        refine l_iaload (n := 300) rfl rfl (by omega) (by omega) (by unfold rg; omega) ?_
                        have w70 : 0 ≤ (Xi T1 914 ((z64).toNat)) ∧ (Xi T1 914 ((z64).toNat)) ≤ 12 := hHT1.c _ _
                        refine l_iload rfl rfl ?_
                        refine l_if_eq rfl rfl (by unfold rg; omega) (fun w71 => ?_) (fun w72 => absurd w72 (by omega))
                        · refine l_iconst rfl ?_
                          refine l_icmp_ne rfl rfl (by unfold rg; omega) (by unfold rg; omega) (fun w73 => ?_) (fun w74 => ?_)
                          · refine l_iconst rfl ?_
                            refine l_ireturn rfl rfl ?_
                            exact ⟨hHT1, hFT1, _, rfl, ⟨by omega, by omega⟩⟩
                          · refine l_iload rfl rfl ?_
                            refine l_if_ne rfl rfl (by unfold rg; omega) (fun w75 => absurd w75 (by omega)) (fun w76 => ?_)
                            · refine l_aload_n rfl rfl ?_
                              refine l_aload_n rfl rfl ?_
                              refine l_gfr rfl rfl rfl rfl rfl (hHT1.r 904 20 918 rfl) ?_
                              refine l_aload_n rfl rfl ?_
                              refine l_gfr rfl rfl rfl rfl rfl (hHT1.r 904 13 915 rfl) ?_
                              refine l_iload rfl rfl ?_
                              refine l_iaload (n := 300) rfl rfl (by omega) (by omega) (by unfold rg; omega) ?_
                              have w77 : 0 ≤ (Xi T1 915 ((z64).toNat)) ∧ (Xi T1 915 ((z64).toNat)) ≤ 63 := hHT1.c _ _
                              have x2334 : Xi T1 914 (z64).toNat = 4 → (Xi T1 915 ((z64).toNat)) < Xi T1 904 19 := fun q => by have t := lxm (s := 4) hMc (k := z64) (by omega) (by omega) q; rw [cM4] at t; exact t
                              have x23312 : Xi T1 914 (z64).toNat = 12 → (Xi T1 915 ((z64).toNat)) < 6 := fun q => by have t := lxm (s := 12) hMc (k := z64) (by omega) (by omega) q; rw [cM12] at t; exact t
                              refine l_iaload (n := 24) rfl rfl (by omega) (by omega) (by unfold rg; omega) ?_
                              have w78 : 0 ≤ (Xi T1 918 (((Xi T1 915 ((z64).toNat))).toNat)) ∧ (Xi T1 918 (((Xi T1 915 ((z64).toNat))).toNat)) ≤ 15 := hHT1.c _ _
                              refine l_aload_n rfl rfl ?_
                              refine l_gfr rfl rfl rfl rfl rfl (hHT1.r 904 59 949 rfl) ?_
                              refine l_iload_n rfl rfl ?_
                              refine l_iaload (n := 20) rfl rfl (by omega) (by omega) (by unfold rg; omega) ?_
                              refine l_callV rfl rfl rfl (t_mo_isBelow hHT1 (Xi T1 918 (((Xi T1 915 ((z64).toNat))).toNat)) (Xi T1 949 ((c).toNat)) ⟨by omega, by omega⟩ ⟨by omega, by omega⟩ (by first | assumption | exact (ABV_FR hFT1 rfl (by assumption : ABV S))) _) ?_
                              rintro _ _ ⟨rfl, z80, rfl, w80, w79⟩
                              show Rl _ _ _ _ _ [iv z80] _ _
                              refine l_if_ne rfl rfl (by unfold rg; omega) (fun w81 => ?_) (fun w82 => ?_)
                              · refine l_aload_n rfl rfl ?_
                                refine l_aload_n rfl rfl ?_
                                refine l_gfr rfl rfl rfl rfl rfl (hHT1.r 904 13 915 rfl) ?_
                                refine l_iload rfl rfl ?_
                                refine l_iaload (n := 300) rfl rfl (by omega) (by omega) (by unfold rg; omega) ?_
                                have x2564 : Xi T1 914 (z64).toNat = 4 → (Xi T1 915 ((z64).toNat)) < Xi T1 904 19 := fun q => by have t := lxm (s := 4) hMc (k := z64) (by omega) (by omega) q; rw [cM4] at t; exact t
                                have x25612 : Xi T1 914 (z64).toNat = 12 → (Xi T1 915 ((z64).toNat)) < 6 := fun q => by have t := lxm (s := 12) hMc (k := z64) (by omega) (by omega) q; rw [cM12] at t; exact t
                                refine l_pfi rfl rfl rfl rfl ?_
                                obtain ⟨U4, eU4⟩ : ∃ T : sS, T = uI T1 904 165 (Int32.ofInt (Xi T1 915 ((z64).toNat))) := ⟨_, rfl⟩
                                rw [← eU4]
                                have hHU4 : HI U4 := by rw [eU4]; exact HI_w hHT1 (show -1 ≤ (Xi T1 915 ((z64).toNat)) by omega) (show (Xi T1 915 ((z64).toNat)) ≤ 23 by omega)
                                have hFU4 : FR md_mo_fitsCommand S U4 := by rw [eU4]; exact FR.wI hFT1 (mdf_i (r := (904, 905, 165, 166)) (List.mem_of_getElem? (i := 0) rfl) (inR_i (by omega) (by omega) (by omega) (by omega)))
                                have w83 : Xi U4 904 165 = (Xi T1 915 ((z64).toNat)) := by rw [eU4]; exact Xi_same (by unfold rg; omega)
                                refine l_iload rfl rfl ?_
                                refine l_iload rfl rfl ?_
                                refine l_iadd rfl ?_
                                refine l_istore rfl rfl rfl ?_
                                refine l_iinc rfl rfl rfl rfl ?_
                                refine l_goto rfl rfl ?_
                                exact Rl_weak (ih25 _ (by omega) U4 hHU4 hFU4 (v2) (v3) ((v4 + (1 + v3))) ((v5 + 1)) (by omega) (by omega) (by omega) (by omega) (by omega) rfl) (And.intro rfl (And.intro rfl (And.intro rfl (And.intro rfl (And.intro rfl (And.intro rfl (True.intro)))))))
                              · refine l_iconst rfl ?_
                                refine l_ireturn rfl rfl ?_
                                exact ⟨hHT1, hFT1, _, rfl, ⟨by omega, by omega⟩⟩
                    · refine l_iconst rfl ?_
                      refine l_goto rfl rfl ?_
                      refine l_istore rfl rfl rfl ?_
                      refine l_iload rfl rfl ?_
                      refine l_iconst rfl ?_
                      refine l_icmp_eq rfl rfl (by unfold rg; omega) (by unfold rg; omega) (fun w84 => ?_) (fun w85 => ?_)
                      · refine l_iconst rfl ?_
                        refine l_ireturn rfl rfl ?_
                        exact ⟨hHT1, hFT1, _, rfl, ⟨by omega, by omega⟩⟩
                      · refine l_aload_n rfl rfl ?_
                        refine l_gfr rfl rfl rfl rfl rfl (hHT1.r 904 12 914 rfl) ?_
                        refine l_iload rfl rfl ?_
                        refine l_iaload (n := 300) rfl rfl (by omega) (by omega) (by unfold rg; omega) ?_
                        have w86 : 0 ≤ (Xi T1 914 ((z64).toNat)) ∧ (Xi T1 914 ((z64).toNat)) ≤ 12 := hHT1.c _ _
                        refine l_iload rfl rfl ?_
                        refine l_if_eq rfl rfl (by unfold rg; omega) (fun w87 => absurd w87 (by omega)) (fun w88 => ?_)
                        · refine l_bipush rfl rfl ?_
                          refine l_goto rfl rfl ?_
                          refine l_icmp_ne rfl rfl (by unfold rg; omega) (by unfold rg; omega) (fun w89 => ?_) (fun w90 => ?_)
                          · refine l_iconst rfl ?_
                            refine l_ireturn rfl rfl ?_
                            exact ⟨hHT1, hFT1, _, rfl, ⟨by omega, by omega⟩⟩
                          · refine l_iload rfl rfl ?_
                            refine l_if_ne rfl rfl (by unfold rg; omega) (fun w91 => ?_) (fun w92 => absurd w92 (by omega))
                            · refine l_aload_n rfl rfl ?_
                              refine l_aload_n rfl rfl ?_
                              refine l_gfr rfl rfl rfl rfl rfl (hHT1.r 904 13 915 rfl) ?_
                              refine l_iload rfl rfl ?_
                              refine l_iaload (n := 300) rfl rfl (by omega) (by omega) (by unfold rg; omega) ?_
                              have w93 : 0 ≤ (Xi T1 915 ((z64).toNat)) ∧ (Xi T1 915 ((z64).toNat)) ≤ 63 := hHT1.c _ _
                              have x2564 : Xi T1 914 (z64).toNat = 4 → (Xi T1 915 ((z64).toNat)) < Xi T1 904 19 := fun q => by have t := lxm (s := 4) hMc (k := z64) (by omega) (by omega) q; rw [cM4] at t; exact t
                              have x25612 : Xi T1 914 (z64).toNat = 12 → (Xi T1 915 ((z64).toNat)) < 6 := fun q => by have t := lxm (s := 12) hMc (k := z64) (by omega) (by omega) q; rw [cM12] at t; exact t
                              refine l_pfi rfl rfl rfl rfl ?_
                              obtain ⟨U5, eU5⟩ : ∃ T : sS, T = uI T1 904 165 (Int32.ofInt (Xi T1 915 ((z64).toNat))) := ⟨_, rfl⟩
                              rw [← eU5]
                              have hHU5 : HI U5 := by rw [eU5]; exact HI_w hHT1 (show -1 ≤ (Xi T1 915 ((z64).toNat)) by omega) (show (Xi T1 915 ((z64).toNat)) ≤ 23 by omega)
                              have hFU5 : FR md_mo_fitsCommand S U5 := by rw [eU5]; exact FR.wI hFT1 (mdf_i (r := (904, 905, 165, 166)) (List.mem_of_getElem? (i := 0) rfl) (inR_i (by omega) (by omega) (by omega) (by omega)))
                              have w94 : Xi U5 904 165 = (Xi T1 915 ((z64).toNat)) := by rw [eU5]; exact Xi_same (by unfold rg; omega)
                              refine l_iload rfl rfl ?_
                              refine l_iload rfl rfl ?_
                              refine l_iadd rfl ?_
                              refine l_istore rfl rfl rfl ?_
                              refine l_iinc rfl rfl rfl rfl ?_
                              refine l_goto rfl rfl ?_
                              exact Rl_weak (ih25 _ (by omega) U5 hHU5 hFU5 (v2) (v3) ((v4 + (1 + v3))) ((v5 + 1)) (by omega) (by omega) (by omega) (by omega) (by omega) rfl) (And.intro rfl (And.intro rfl (And.intro rfl (And.intro rfl (And.intro rfl (And.intro rfl (True.intro)))))))
                · refine l_aload_n rfl rfl ?_
                  refine l_gfr rfl rfl rfl rfl rfl (hHT1.r 904 163 995 rfl) ?_
                  refine l_iload rfl rfl ?_
                  refine l_iconst rfl ?_
                  refine l_iadd rfl ?_
                  refine l_laload (n := 50) rfl rfl (by omega) (by omega) (by unfold rg; omega) ?_
                  have w95 : -9223372036854775808 ≤ (Xj T1 995 (((v4 + 1)).toNat)) ∧ (Xj T1 995 (((v4 + 1)).toNat)) < 9223372036854775808 := Xj_rg
                  refine l_goto rfl rfl ?_
                  refine l_iload rfl rfl ?_
                  refine l_iconst rfl ?_
                  refine l_icmp_le rfl rfl (by unfold rg; omega) (by unfold rg; omega) (fun w96 => ?_) (fun w97 => ?_)
                  · refine l_lconst (z := 0) rfl rfl ?_
                    refine l_iload rfl rfl ?_
                    have w98 : 0 ≤ Xi T1 904 15 ∧ Xi T1 904 15 ≤ 300 := hHT1.c _ _
                    refine l_callV rfl rfl rfl (t_mo_find hHT1 (Xj T1 995 ((v4).toNat)) (Xj T1 995 (((v4 + 1)).toNat)) 0 (1 + v3) ⟨by omega, by omega⟩ _) ?_
                    rintro _ _ ⟨rfl, z100, rfl, w100, w99⟩
                    show Rl _ _ _ _ _ [iv z100] _ _
                    have hMc : LXM T1 := LXM_FR hFT1 rfl hM
                    have hc19 : 0 ≤ Xi T1 904 19 ∧ Xi T1 904 19 ≤ 24 := hHT1.c _ _
                    have hc15 : 0 ≤ Xi T1 904 15 ∧ Xi T1 904 15 ≤ 300 := hHT1.c _ _
                    refine l_istore rfl rfl rfl ?_
                    refine l_aload_n rfl rfl ?_
                    refine l_gfr rfl rfl rfl rfl rfl (hHT1.r 904 59 949 rfl) ?_
                    refine l_iload_n rfl rfl ?_
                    refine l_iaload (n := 20) rfl rfl (by omega) (by omega) (by unfold rg; omega) ?_
                    have w101 : -2 ≤ (Xi T1 949 ((c).toNat)) ∧ (Xi T1 949 ((c).toNat)) ≤ 15 := hHT1.c _ _
                    refine l_bipush rfl rfl ?_
                    refine l_icmp_ne rfl rfl (by unfold rg; omega) (by unfold rg; omega) (fun w102 => ?_) (fun w103 => ?_)
                    · refine l_iconst rfl ?_
                      refine l_istore rfl rfl rfl ?_
                      refine l_iload rfl rfl ?_
                      refine l_iconst rfl ?_
                      refine l_icmp_eq rfl rfl (by unfold rg; omega) (by unfold rg; omega) (fun w104 => ?_) (fun w105 => ?_)
                      · refine l_iconst rfl ?_
                        refine l_ireturn rfl rfl ?_
                        exact ⟨hHT1, hFT1, _, rfl, ⟨by omega, by omega⟩⟩
                      · refine l_aload_n rfl rfl ?_
                        refine l_gfr rfl rfl rfl rfl rfl (hHT1.r 904 12 914 rfl) ?_
                        refine l_iload rfl rfl ?_
                        refine l_iaload (n := 300) rfl rfl (by omega) (by omega) (by unfold rg; omega) ?_
                        have w106 : 0 ≤ (Xi T1 914 ((z100).toNat)) ∧ (Xi T1 914 ((z100).toNat)) ≤ 12 := hHT1.c _ _
                        refine l_iload rfl rfl ?_
                        refine l_if_eq rfl rfl (by unfold rg; omega) (fun w107 => ?_) (fun w108 => absurd w108 (by omega))
                        · refine l_iconst rfl ?_
                          refine l_icmp_ne rfl rfl (by unfold rg; omega) (by unfold rg; omega) (fun w109 => ?_) (fun w110 => ?_)
                          · refine l_iconst rfl ?_
                            refine l_ireturn rfl rfl ?_
                            exact ⟨hHT1, hFT1, _, rfl, ⟨by omega, by omega⟩⟩
                          · refine l_iload rfl rfl ?_
                            refine l_if_ne rfl rfl (by unfold rg; omega) (fun w111 => absurd w111 (by omega)) (fun w112 => ?_)
                            · refine l_aload_n rfl rfl ?_
                              refine l_aload_n rfl rfl ?_
                              refine l_gfr rfl rfl rfl rfl rfl (hHT1.r 904 20 918 rfl) ?_
                              refine l_aload_n rfl rfl ?_
                              refine l_gfr rfl rfl rfl rfl rfl (hHT1.r 904 13 915 rfl) ?_
                              refine l_iload rfl rfl ?_
                              refine l_iaload (n := 300) rfl rfl (by omega) (by omega) (by unfold rg; omega) ?_
                              have w113 : 0 ≤ (Xi T1 915 ((z100).toNat)) ∧ (Xi T1 915 ((z100).toNat)) ≤ 63 := hHT1.c _ _
                              have x2334 : Xi T1 914 (z100).toNat = 4 → (Xi T1 915 ((z100).toNat)) < Xi T1 904 19 := fun q => by have t := lxm (s := 4) hMc (k := z100) (by omega) (by omega) q; rw [cM4] at t; exact t
                              have x23312 : Xi T1 914 (z100).toNat = 12 → (Xi T1 915 ((z100).toNat)) < 6 := fun q => by have t := lxm (s := 12) hMc (k := z100) (by omega) (by omega) q; rw [cM12] at t; exact t
                              refine l_iaload (n := 24) rfl rfl (by omega) (by omega) (by unfold rg; omega) ?_
                              have w114 : 0 ≤ (Xi T1 918 (((Xi T1 915 ((z100).toNat))).toNat)) ∧ (Xi T1 918 (((Xi T1 915 ((z100).toNat))).toNat)) ≤ 15 := hHT1.c _ _
                              refine l_aload_n rfl rfl ?_
                              refine l_gfr rfl rfl rfl rfl rfl (hHT1.r 904 59 949 rfl) ?_
                              refine l_iload_n rfl rfl ?_
                              refine l_iaload (n := 20) rfl rfl (by omega) (by omega) (by unfold rg; omega) ?_
                              refine l_callV rfl rfl rfl (t_mo_isBelow hHT1 (Xi T1 918 (((Xi T1 915 ((z100).toNat))).toNat)) (Xi T1 949 ((c).toNat)) ⟨by omega, by omega⟩ ⟨by omega, by omega⟩ (by first | assumption | exact (ABV_FR hFT1 rfl (by assumption : ABV S))) _) ?_
                              rintro _ _ ⟨rfl, z116, rfl, w116, w115⟩
                              show Rl _ _ _ _ _ [iv z116] _ _
                              refine l_if_ne rfl rfl (by unfold rg; omega) (fun w117 => ?_) (fun w118 => ?_)
                              · refine l_aload_n rfl rfl ?_
                                refine l_aload_n rfl rfl ?_
                                refine l_gfr rfl rfl rfl rfl rfl (hHT1.r 904 13 915 rfl) ?_
                                refine l_iload rfl rfl ?_
                                refine l_iaload (n := 300) rfl rfl (by omega) (by omega) (by unfold rg; omega) ?_
                                have x2564 : Xi T1 914 (z100).toNat = 4 → (Xi T1 915 ((z100).toNat)) < Xi T1 904 19 := fun q => by have t := lxm (s := 4) hMc (k := z100) (by omega) (by omega) q; rw [cM4] at t; exact t
                                have x25612 : Xi T1 914 (z100).toNat = 12 → (Xi T1 915 ((z100).toNat)) < 6 := fun q => by have t := lxm (s := 12) hMc (k := z100) (by omega) (by omega) q; rw [cM12] at t; exact t
                                refine l_pfi rfl rfl rfl rfl ?_
                                obtain ⟨U6, eU6⟩ : ∃ T : sS, T = uI T1 904 165 (Int32.ofInt (Xi T1 915 ((z100).toNat))) := ⟨_, rfl⟩
                                rw [← eU6]
                                have hHU6 : HI U6 := by rw [eU6]; exact HI_w hHT1 (show -1 ≤ (Xi T1 915 ((z100).toNat)) by omega) (show (Xi T1 915 ((z100).toNat)) ≤ 23 by omega)
                                have hFU6 : FR md_mo_fitsCommand S U6 := by rw [eU6]; exact FR.wI hFT1 (mdf_i (r := (904, 905, 165, 166)) (List.mem_of_getElem? (i := 0) rfl) (inR_i (by omega) (by omega) (by omega) (by omega)))
                                have w119 : Xi U6 904 165 = (Xi T1 915 ((z100).toNat)) := by rw [eU6]; exact Xi_same (by unfold rg; omega)
                                refine l_iload rfl rfl ?_
                                refine l_iload rfl rfl ?_
                                refine l_iadd rfl ?_
                                refine l_istore rfl rfl rfl ?_
                                refine l_iinc rfl rfl rfl rfl ?_
                                refine l_goto rfl rfl ?_
                                exact Rl_weak (ih25 _ (by omega) U6 hHU6 hFU6 (v2) (v3) ((v4 + (1 + v3))) ((v5 + 1)) (by omega) (by omega) (by omega) (by omega) (by omega) rfl) (And.intro rfl (And.intro rfl (And.intro rfl (And.intro rfl (And.intro rfl (And.intro rfl (True.intro)))))))
                              · refine l_iconst rfl ?_
                                refine l_ireturn rfl rfl ?_
                                exact ⟨hHT1, hFT1, _, rfl, ⟨by omega, by omega⟩⟩
                    · refine l_iconst rfl ?_
                      refine l_goto rfl rfl ?_
                      refine l_istore rfl rfl rfl ?_
                      refine l_iload rfl rfl ?_
                      refine l_iconst rfl ?_
                      refine l_icmp_eq rfl rfl (by unfold rg; omega) (by unfold rg; omega) (fun w120 => ?_) (fun w121 => ?_)
                      · refine l_iconst rfl ?_
                        refine l_ireturn rfl rfl ?_
                        exact ⟨hHT1, hFT1, _, rfl, ⟨by omega, by omega⟩⟩
                      · refine l_aload_n rfl rfl ?_
                        refine l_gfr rfl rfl rfl rfl rfl (hHT1.r 904 12 914 rfl) ?_
                        refine l_iload rfl rfl ?_
                        refine l_iaload (n := 300) rfl rfl (by omega) (by omega) (by unfold rg; omega) ?_
                        have w122 : 0 ≤ (Xi T1 914 ((z100).toNat)) ∧ (Xi T1 914 ((z100).toNat)) ≤ 12 := hHT1.c _ _
                        refine l_iload rfl rfl ?_
                        refine l_if_eq rfl rfl (by unfold rg; omega) (fun w123 => absurd w123 (by omega)) (fun w124 => ?_)
                        · refine l_bipush rfl rfl ?_
                          refine l_goto rfl rfl ?_
                          refine l_icmp_ne rfl rfl (by unfold rg; omega) (by unfold rg; omega) (fun w125 => ?_) (fun w126 => ?_)
                          · refine l_iconst rfl ?_
                            refine l_ireturn rfl rfl ?_
                            exact ⟨hHT1, hFT1, _, rfl, ⟨by omega, by omega⟩⟩
                          · refine l_iload rfl rfl ?_
                            refine l_if_ne rfl rfl (by unfold rg; omega) (fun w127 => ?_) (fun w128 => absurd w128 (by omega))
                            · refine l_aload_n rfl rfl ?_
                              refine l_aload_n rfl rfl ?_
                              refine l_gfr rfl rfl rfl rfl rfl (hHT1.r 904 13 915 rfl) ?_
                              refine l_iload rfl rfl ?_
                              refine l_iaload (n := 300) rfl rfl (by omega) (by omega) (by unfold rg; omega) ?_
                              have w129 : 0 ≤ (Xi T1 915 ((z100).toNat)) ∧ (Xi T1 915 ((z100).toNat)) ≤ 63 := hHT1.c _ _
                              have x2564 : Xi T1 914 (z100).toNat = 4 → (Xi T1 915 ((z100).toNat)) < Xi T1 904 19 := fun q => by have t := lxm (s := 4) hMc (k := z100) (by omega) (by omega) q; rw [cM4] at t; exact t
                              have x25612 : Xi T1 914 (z100).toNat = 12 → (Xi T1 915 ((z100).toNat)) < 6 := fun q => by have t := lxm (s := 12) hMc (k := z100) (by omega) (by omega) q; rw [cM12] at t; exact t
                              refine l_pfi rfl rfl rfl rfl ?_
                              obtain ⟨U7, eU7⟩ : ∃ T : sS, T = uI T1 904 165 (Int32.ofInt (Xi T1 915 ((z100).toNat))) := ⟨_, rfl⟩
                              rw [← eU7]
                              have hHU7 : HI U7 := by rw [eU7]; exact HI_w hHT1 (show -1 ≤ (Xi T1 915 ((z100).toNat)) by omega) (show (Xi T1 915 ((z100).toNat)) ≤ 23 by omega)
                              have hFU7 : FR md_mo_fitsCommand S U7 := by rw [eU7]; exact FR.wI hFT1 (mdf_i (r := (904, 905, 165, 166)) (List.mem_of_getElem? (i := 0) rfl) (inR_i (by omega) (by omega) (by omega) (by omega)))
                              have w130 : Xi U7 904 165 = (Xi T1 915 ((z100).toNat)) := by rw [eU7]; exact Xi_same (by unfold rg; omega)
                              refine l_iload rfl rfl ?_
                              refine l_iload rfl rfl ?_
                              refine l_iadd rfl ?_
                              refine l_istore rfl rfl rfl ?_
                              refine l_iinc rfl rfl rfl rfl ?_
                              refine l_goto rfl rfl ?_
                              exact Rl_weak (ih25 _ (by omega) U7 hHU7 hFU7 (v2) (v3) ((v4 + (1 + v3))) ((v5 + 1)) (by omega) (by omega) (by omega) (by omega) (by omega) rfl) (And.intro rfl (And.intro rfl (And.intro rfl (And.intro rfl (And.intro rfl (And.intro rfl (True.intro)))))))
                  · refine l_aload_n rfl rfl ?_
                    refine l_gfr rfl rfl rfl rfl rfl (hHT1.r 904 163 995 rfl) ?_
                    refine l_iload rfl rfl ?_
                    refine l_iconst rfl ?_
                    refine l_iadd rfl ?_
                    refine l_laload (n := 50) rfl rfl (by omega) (by omega) (by unfold rg; omega) ?_
                    have w131 : -9223372036854775808 ≤ (Xj T1 995 (((v4 + 2)).toNat)) ∧ (Xj T1 995 (((v4 + 2)).toNat)) < 9223372036854775808 := Xj_rg
                    refine l_goto rfl rfl ?_
                    refine l_iload rfl rfl ?_
                    have w132 : 0 ≤ Xi T1 904 15 ∧ Xi T1 904 15 ≤ 300 := hHT1.c _ _
                    refine l_callV rfl rfl rfl (t_mo_find hHT1 (Xj T1 995 ((v4).toNat)) (Xj T1 995 (((v4 + 1)).toNat)) (Xj T1 995 (((v4 + 2)).toNat)) (1 + v3) ⟨by omega, by omega⟩ _) ?_
                    rintro _ _ ⟨rfl, z134, rfl, w134, w133⟩
                    show Rl _ _ _ _ _ [iv z134] _ _
                    have hMc : LXM T1 := LXM_FR hFT1 rfl hM
                    have hc19 : 0 ≤ Xi T1 904 19 ∧ Xi T1 904 19 ≤ 24 := hHT1.c _ _
                    have hc15 : 0 ≤ Xi T1 904 15 ∧ Xi T1 904 15 ≤ 300 := hHT1.c _ _
                    refine l_istore rfl rfl rfl ?_
                    refine l_aload_n rfl rfl ?_
                    refine l_gfr rfl rfl rfl rfl rfl (hHT1.r 904 59 949 rfl) ?_
                    refine l_iload_n rfl rfl ?_
                    refine l_iaload (n := 20) rfl rfl (by omega) (by omega) (by unfold rg; omega) ?_
                    have w135 : -2 ≤ (Xi T1 949 ((c).toNat)) ∧ (Xi T1 949 ((c).toNat)) ≤ 15 := hHT1.c _ _
                    refine l_bipush rfl rfl ?_
                    refine l_icmp_ne rfl rfl (by unfold rg; omega) (by unfold rg; omega) (fun w136 => ?_) (fun w137 => ?_)
                    · refine l_iconst rfl ?_
                      refine l_istore rfl rfl rfl ?_
                      refine l_iload rfl rfl ?_
                      refine l_iconst rfl ?_
                      refine l_icmp_eq rfl rfl (by unfold rg; omega) (by unfold rg; omega) (fun w138 => ?_) (fun w139 => ?_)
                      · refine l_iconst rfl ?_
                        refine l_ireturn rfl rfl ?_
                        exact ⟨hHT1, hFT1, _, rfl, ⟨by omega, by omega⟩⟩
                      · refine l_aload_n rfl rfl ?_
                        refine l_gfr rfl rfl rfl rfl rfl (hHT1.r 904 12 914 rfl) ?_
                        refine l_iload rfl rfl ?_
                        refine l_iaload (n := 300) rfl rfl (by omega) (by omega) (by unfold rg; omega) ?_
                        have w140 : 0 ≤ (Xi T1 914 ((z134).toNat)) ∧ (Xi T1 914 ((z134).toNat)) ≤ 12 := hHT1.c _ _
                        refine l_iload rfl rfl ?_
                        refine l_if_eq rfl rfl (by unfold rg; omega) (fun w141 => ?_) (fun w142 => absurd w142 (by omega))
                        · refine l_iconst rfl ?_
                          refine l_icmp_ne rfl rfl (by unfold rg; omega) (by unfold rg; omega) (fun w143 => ?_) (fun w144 => ?_)
                          · refine l_iconst rfl ?_
                            refine l_ireturn rfl rfl ?_
                            exact ⟨hHT1, hFT1, _, rfl, ⟨by omega, by omega⟩⟩
                          · refine l_iload rfl rfl ?_
                            refine l_if_ne rfl rfl (by unfold rg; omega) (fun w145 => absurd w145 (by omega)) (fun w146 => ?_)
                            · refine l_aload_n rfl rfl ?_
                              refine l_aload_n rfl rfl ?_
                              refine l_gfr rfl rfl rfl rfl rfl (hHT1.r 904 20 918 rfl) ?_
                              refine l_aload_n rfl rfl ?_
                              refine l_gfr rfl rfl rfl rfl rfl (hHT1.r 904 13 915 rfl) ?_
                              refine l_iload rfl rfl ?_
                              refine l_iaload (n := 300) rfl rfl (by omega) (by omega) (by unfold rg; omega) ?_
                              have w147 : 0 ≤ (Xi T1 915 ((z134).toNat)) ∧ (Xi T1 915 ((z134).toNat)) ≤ 63 := hHT1.c _ _
                              have x2334 : Xi T1 914 (z134).toNat = 4 → (Xi T1 915 ((z134).toNat)) < Xi T1 904 19 := fun q => by have t := lxm (s := 4) hMc (k := z134) (by omega) (by omega) q; rw [cM4] at t; exact t
                              have x23312 : Xi T1 914 (z134).toNat = 12 → (Xi T1 915 ((z134).toNat)) < 6 := fun q => by have t := lxm (s := 12) hMc (k := z134) (by omega) (by omega) q; rw [cM12] at t; exact t
                              refine l_iaload (n := 24) rfl rfl (by omega) (by omega) (by unfold rg; omega) ?_
                              have w148 : 0 ≤ (Xi T1 918 (((Xi T1 915 ((z134).toNat))).toNat)) ∧ (Xi T1 918 (((Xi T1 915 ((z134).toNat))).toNat)) ≤ 15 := hHT1.c _ _
                              refine l_aload_n rfl rfl ?_
                              refine l_gfr rfl rfl rfl rfl rfl (hHT1.r 904 59 949 rfl) ?_
                              refine l_iload_n rfl rfl ?_
                              refine l_iaload (n := 20) rfl rfl (by omega) (by omega) (by unfold rg; omega) ?_
                              refine l_callV rfl rfl rfl (t_mo_isBelow hHT1 (Xi T1 918 (((Xi T1 915 ((z134).toNat))).toNat)) (Xi T1 949 ((c).toNat)) ⟨by omega, by omega⟩ ⟨by omega, by omega⟩ (by first | assumption | exact (ABV_FR hFT1 rfl (by assumption : ABV S))) _) ?_
                              rintro _ _ ⟨rfl, z150, rfl, w150, w149⟩
                              show Rl _ _ _ _ _ [iv z150] _ _
                              refine l_if_ne rfl rfl (by unfold rg; omega) (fun w151 => ?_) (fun w152 => ?_)
                              · refine l_aload_n rfl rfl ?_
                                refine l_aload_n rfl rfl ?_
                                refine l_gfr rfl rfl rfl rfl rfl (hHT1.r 904 13 915 rfl) ?_
                                refine l_iload rfl rfl ?_
                                refine l_iaload (n := 300) rfl rfl (by omega) (by omega) (by unfold rg; omega) ?_
                                have x2564 : Xi T1 914 (z134).toNat = 4 → (Xi T1 915 ((z134).toNat)) < Xi T1 904 19 := fun q => by have t := lxm (s := 4) hMc (k := z134) (by omega) (by omega) q; rw [cM4] at t; exact t
                                have x25612 : Xi T1 914 (z134).toNat = 12 → (Xi T1 915 ((z134).toNat)) < 6 := fun q => by have t := lxm (s := 12) hMc (k := z134) (by omega) (by omega) q; rw [cM12] at t; exact t
                                refine l_pfi rfl rfl rfl rfl ?_
                                obtain ⟨U8, eU8⟩ : ∃ T : sS, T = uI T1 904 165 (Int32.ofInt (Xi T1 915 ((z134).toNat))) := ⟨_, rfl⟩
                                rw [← eU8]
                                have hHU8 : HI U8 := by rw [eU8]; exact HI_w hHT1 (show -1 ≤ (Xi T1 915 ((z134).toNat)) by omega) (show (Xi T1 915 ((z134).toNat)) ≤ 23 by omega)
                                have hFU8 : FR md_mo_fitsCommand S U8 := by rw [eU8]; exact FR.wI hFT1 (mdf_i (r := (904, 905, 165, 166)) (List.mem_of_getElem? (i := 0) rfl) (inR_i (by omega) (by omega) (by omega) (by omega)))
                                have w153 : Xi U8 904 165 = (Xi T1 915 ((z134).toNat)) := by rw [eU8]; exact Xi_same (by unfold rg; omega)
                                refine l_iload rfl rfl ?_
                                refine l_iload rfl rfl ?_
                                refine l_iadd rfl ?_
                                refine l_istore rfl rfl rfl ?_
                                refine l_iinc rfl rfl rfl rfl ?_
                                refine l_goto rfl rfl ?_
                                exact Rl_weak (ih25 _ (by omega) U8 hHU8 hFU8 (v2) (v3) ((v4 + (1 + v3))) ((v5 + 1)) (by omega) (by omega) (by omega) (by omega) (by omega) rfl) (And.intro rfl (And.intro rfl (And.intro rfl (And.intro rfl (And.intro rfl (And.intro rfl (True.intro)))))))
                              · refine l_iconst rfl ?_
                                refine l_ireturn rfl rfl ?_
                                exact ⟨hHT1, hFT1, _, rfl, ⟨by omega, by omega⟩⟩
                    · refine l_iconst rfl ?_
                      refine l_goto rfl rfl ?_
                      refine l_istore rfl rfl rfl ?_
                      refine l_iload rfl rfl ?_
                      refine l_iconst rfl ?_
                      refine l_icmp_eq rfl rfl (by unfold rg; omega) (by unfold rg; omega) (fun w154 => ?_) (fun w155 => ?_)
                      · refine l_iconst rfl ?_
                        refine l_ireturn rfl rfl ?_
                        exact ⟨hHT1, hFT1, _, rfl, ⟨by omega, by omega⟩⟩
                      · refine l_aload_n rfl rfl ?_
                        refine l_gfr rfl rfl rfl rfl rfl (hHT1.r 904 12 914 rfl) ?_
                        refine l_iload rfl rfl ?_
                        refine l_iaload (n := 300) rfl rfl (by omega) (by omega) (by unfold rg; omega) ?_
                        have w156 : 0 ≤ (Xi T1 914 ((z134).toNat)) ∧ (Xi T1 914 ((z134).toNat)) ≤ 12 := hHT1.c _ _
                        refine l_iload rfl rfl ?_
                        refine l_if_eq rfl rfl (by unfold rg; omega) (fun w157 => absurd w157 (by omega)) (fun w158 => ?_)
                        · refine l_bipush rfl rfl ?_
                          refine l_goto rfl rfl ?_
                          refine l_icmp_ne rfl rfl (by unfold rg; omega) (by unfold rg; omega) (fun w159 => ?_) (fun w160 => ?_)
                          · refine l_iconst rfl ?_
                            refine l_ireturn rfl rfl ?_
                            exact ⟨hHT1, hFT1, _, rfl, ⟨by omega, by omega⟩⟩
                          · refine l_iload rfl rfl ?_
                            refine l_if_ne rfl rfl (by unfold rg; omega) (fun w161 => ?_) (fun w162 => absurd w162 (by omega))
                            · refine l_aload_n rfl rfl ?_
                              refine l_aload_n rfl rfl ?_
                              refine l_gfr rfl rfl rfl rfl rfl (hHT1.r 904 13 915 rfl) ?_
                              refine l_iload rfl rfl ?_
                              refine l_iaload (n := 300) rfl rfl (by omega) (by omega) (by unfold rg; omega) ?_
                              have w163 : 0 ≤ (Xi T1 915 ((z134).toNat)) ∧ (Xi T1 915 ((z134).toNat)) ≤ 63 := hHT1.c _ _
                              have x2564 : Xi T1 914 (z134).toNat = 4 → (Xi T1 915 ((z134).toNat)) < Xi T1 904 19 := fun q => by have t := lxm (s := 4) hMc (k := z134) (by omega) (by omega) q; rw [cM4] at t; exact t
                              have x25612 : Xi T1 914 (z134).toNat = 12 → (Xi T1 915 ((z134).toNat)) < 6 := fun q => by have t := lxm (s := 12) hMc (k := z134) (by omega) (by omega) q; rw [cM12] at t; exact t
                              refine l_pfi rfl rfl rfl rfl ?_
                              obtain ⟨U9, eU9⟩ : ∃ T : sS, T = uI T1 904 165 (Int32.ofInt (Xi T1 915 ((z134).toNat))) := ⟨_, rfl⟩
                              rw [← eU9]
                              have hHU9 : HI U9 := by rw [eU9]; exact HI_w hHT1 (show -1 ≤ (Xi T1 915 ((z134).toNat)) by omega) (show (Xi T1 915 ((z134).toNat)) ≤ 23 by omega)
                              have hFU9 : FR md_mo_fitsCommand S U9 := by rw [eU9]; exact FR.wI hFT1 (mdf_i (r := (904, 905, 165, 166)) (List.mem_of_getElem? (i := 0) rfl) (inR_i (by omega) (by omega) (by omega) (by omega)))
                              have w164 : Xi U9 904 165 = (Xi T1 915 ((z134).toNat)) := by rw [eU9]; exact Xi_same (by unfold rg; omega)
                              refine l_iload rfl rfl ?_
                              refine l_iload rfl rfl ?_
                              refine l_iadd rfl ?_
                              refine l_istore rfl rfl rfl ?_
                              refine l_iinc rfl rfl rfl rfl ?_
                              refine l_goto rfl rfl ?_
                              exact Rl_weak (ih25 _ (by omega) U9 hHU9 hFU9 (v2) (v3) ((v4 + (1 + v3))) ((v5 + 1)) (by omega) (by omega) (by omega) (by omega) (by omega) rfl) (And.intro rfl (And.intro rfl (And.intro rfl (And.intro rfl (And.intro rfl (And.intro rfl (True.intro)))))))
              · refine l_iconst rfl ?_
                refine l_ireturn rfl rfl ?_
                exact ⟨hHT1, hFT1, _, rfl, ⟨by omega, by omega⟩⟩
        · refine l_iload rfl rfl ?_
          refine l_aload_n rfl rfl ?_
          refine l_gfi rfl rfl rfl rfl rfl ?_
          have w165 : 0 ≤ (Xi T1 904 164) ∧ (Xi T1 904 164) ≤ 50 := hHT1.c _ _
          refine l_icmp_ge rfl rfl (by unfold rg; omega) (by unfold rg; omega) (fun w166 => ?_) (fun w167 => ?_)
          · refine l_iconst rfl ?_
            refine l_ireturn rfl rfl ?_
            exact ⟨hHT1, hFT1, _, rfl, ⟨by omega, by omega⟩⟩
          · refine l_aload_n rfl rfl ?_
            refine l_gfr rfl rfl rfl rfl rfl (hHT1.r 904 163 995 rfl) ?_
            refine l_iload rfl rfl ?_
            refine l_laload (n := 50) rfl rfl (by omega) (by omega) (by unfold rg; omega) ?_
            have w168 : -9223372036854775808 ≤ (Xj T1 995 ((v4).toNat)) ∧ (Xj T1 995 ((v4).toNat)) < 9223372036854775808 := Xj_rg
            refine l_aload_n rfl rfl ?_
            refine l_gfr rfl rfl rfl rfl rfl (hHT1.r 904 58 948 rfl) ?_
            refine l_bipush rfl rfl ?_
            refine l_iload_n rfl rfl ?_
            refine l_imul rfl ?_
            refine l_iload rfl rfl ?_
            refine l_iadd rfl ?_
            refine l_laload (n := 160) rfl rfl (by omega) (by omega) (by unfold rg; omega) ?_
            have w169 : -9223372036854775808 ≤ (Xj T1 948 ((((8 * c) + v5)).toNat)) ∧ (Xj T1 948 ((((8 * c) + v5)).toNat)) < 9223372036854775808 := Xj_rg
            refine l_lcmpA rfl (fun c170 w170 => ?_)
            refine l_if_eq rfl rfl (by unfold rg; omega) (fun w171 => ?_) (fun w172 => ?_)
            · refine l_iinc rfl rfl rfl rfl ?_
              refine l_goto rfl rfl ?_
              refine l_iinc rfl rfl rfl rfl ?_
              refine l_goto rfl rfl ?_
              exact Rl_weak (ih25 _ (by omega) T1 hHT1 hFT1 (v2) (v3) ((v4 + 1)) ((v5 + 1)) (by omega) (by omega) (by omega) (by omega) (by omega) rfl) (And.intro rfl (And.intro rfl (And.intro rfl (And.intro rfl (And.intro rfl (And.intro rfl (True.intro)))))))
            · refine l_iconst rfl ?_
              refine l_ireturn rfl rfl ?_
              exact ⟨hHT1, hFT1, _, rfl, ⟨by omega, by omega⟩⟩
  refine l_aload_n rfl rfl ?_
  refine l_gfr rfl rfl rfl rfl rfl (hH.r 904 57 947 rfl) ?_
  refine l_iload_n rfl rfl ?_
  refine l_iaload (n := 20) rfl rfl (by omega) (by omega) (by unfold rg; omega) ?_
  have w173 : 0 ≤ (Xi S 947 ((c).toNat)) ∧ (Xi S 947 ((c).toNat)) ≤ 8 := hH.c _ _
  refine l_istore_n rfl rfl rfl ?_
  refine l_aload_n rfl rfl ?_
  refine l_gfi rfl rfl rfl rfl rfl ?_
  have w174 : 0 ≤ (Xi S 904 164) ∧ (Xi S 904 164) ≤ 50 := hH.c _ _
  refine l_iload_n rfl rfl ?_
  refine l_isub rfl ?_
  refine l_istore_n rfl rfl rfl ?_
  refine l_iconst rfl ?_
  refine l_istore rfl rfl rfl ?_
  refine l_aload_n rfl rfl ?_
  refine l_iconst rfl ?_
  refine l_pfi rfl rfl rfl rfl ?_
  obtain ⟨U10, eU10⟩ : ∃ T : sS, T = uI S 904 165 (Int32.ofInt (-1)) := ⟨_, rfl⟩
  rw [← eU10]
  have hHU10 : HI U10 := by rw [eU10]; exact HI_w hH (show -1 ≤ (-1) by omega) (show (-1) ≤ 23 by omega)
  have hFU10 : FR md_mo_fitsCommand S U10 := by rw [eU10]; exact FR.wI hF (mdf_i (r := (904, 905, 165, 166)) (List.mem_of_getElem? (i := 0) rfl) (inR_i (by omega) (by omega) (by omega) (by omega)))
  have w175 : Xi U10 904 165 = (-1) := by rw [eU10]; exact Xi_same (by unfold rg; omega)
  refine l_iconst rfl ?_
  refine l_istore rfl rfl rfl ?_
  exact Rl_weak (C25 _ U10 hHU10 hFU10 ((Xi S 947 ((c).toNat))) (((Xi S 904 164) - (Xi S 947 ((c).toNat)))) (0) (0) (by omega) (by omega) (by omega) (by omega) (by omega) rfl) (And.intro rfl (And.intro rfl (And.intro rfl (And.intro rfl (And.intro rfl (And.intro rfl (True.intro)))))))
def md_mo_command : List rec := [(904, 905, 1, 2), (904, 905, 154, 155), (904, 905, 156, 157), (904, 905, 158, 159), (904, 905, 160, 161), (904, 905, 161, 162), (904, 905, 162, 163), (904, 905, 164, 165), (904, 905, 165, 166), (919, 920, 0, 100000), (920, 921, 0, 100000), (925, 926, 0, 100000), (930, 931, 0, 100000), (931, 932, 0, 100000), (932, 933, 0, 100000), (940, 941, 0, 100000), (993, 994, 0, 100000), (994, 995, 0, 100000), (995, 996, 0, 100000)]
abbrev Q_mo_command (S : sS) : pst := fun r S1 => HI S1 ∧ FR md_mo_command S S1 ∧ (∃ z : Int, r = some (iv z) ∧ (-2 ≤ z ∧ z ≤ 5) ∧ (TXM S1) ∧ (WYM S1))
set_option maxRecDepth 100000 in
theorem t_mo_command {S : sS} (hH : HI S) (hX : TXM S) (hD : DEFM S) (hR : RULM S) (hB : ABV S) (hM : LXM S) (hW : WYM S) (hA : AKR S) (d : Nat) : Mt lay0 (d + 58) m_mo_command [.ref 904] S (Q_mo_command S) := by
  refine Mt_R rfl rfl ?_
  have hF : FR md_mo_command S S := FR.rf
  have C12 : ∀ (n12 : Nat) (T1 : sS) (_ : HI T1) (_ : FR md_mo_command S T1) (v1 : Int) (v2 : Int), (0 ≤ v1 ∧ v1 ≤ 1) → (0 ≤ v2 ∧ v2 ≤ 20) → (TXM T1) → (WYM T1) → n12 = (21 - v2).toNat → Rl lay0 (d + 57) m_mo_command 12 [(0, .ref 904), (1, iv v1), (2, iv v2)] [] T1 (Q_mo_command S) := by
    intro n12
    induction n12 using Nat.strongRecOn with
    | ind n12 ih12 =>
      intro T1 hHT1 hFT1 v1 v2 w1 w2 hX12 hW12 hm12
      refine l_iload_n rfl rfl ?_
      refine l_aload_n rfl rfl ?_
      refine l_gfi rfl rfl rfl rfl rfl ?_
      have w3 : 0 ≤ (Xi T1 904 55) ∧ (Xi T1 904 55) ≤ 20 := hHT1.c _ _
      refine l_icmp_ge rfl rfl (by unfold rg; omega) (by unfold rg; omega) (fun w4 => ?_) (fun w5 => ?_)
      · refine l_bipush rfl rfl ?_
        refine l_ireturn rfl rfl ?_
        exact ⟨hHT1, hFT1, _, rfl, ⟨by omega, by omega⟩, (by first | assumption | exact hX), (by first | assumption | exact hW)⟩
      · refine l_iload_n rfl rfl ?_
        refine l_if_eq rfl rfl (by unfold rg; omega) (fun w6 => ?_) (fun w7 => ?_)
        · refine l_bipush rfl rfl ?_
          refine l_ireturn rfl rfl ?_
          exact ⟨hHT1, hFT1, _, rfl, ⟨by omega, by omega⟩, (by first | assumption | exact hX), (by first | assumption | exact hW)⟩
        · refine l_aload_n rfl rfl ?_
          refine l_iload_n rfl rfl ?_
          refine l_callV rfl rfl rfl (t_mo_fitsCommand hHT1 v2 ⟨by omega, by omega⟩ (by first | assumption | exact (LXM_FR hFT1 rfl (by assumption : LXM S))) (by first | assumption | exact (ABV_FR hFT1 rfl (by assumption : ABV S))) _) ?_
          rintro _ T2 ⟨hHT2, w9, z8, rfl, w8⟩
          have hFT2 : FR md_mo_command S T2 := FR.tr hFT1 w9 rfl
          show Rl _ _ _ _ _ [iv z8] _ _
          refine l_if_eq rfl rfl (by unfold rg; omega) (fun w10 => ?_) (fun w11 => ?_)
          · refine l_iinc rfl rfl rfl rfl ?_
            refine l_goto rfl rfl ?_
            exact Rl_weak (ih12 _ (by omega) T2 hHT2 hFT2 (v1) ((v2 + 1)) (by omega) (by omega) (by first | assumption | exact (TXM_FR w9 rfl (by assumption : TXM T1))) (by first | assumption | exact (WYM_FR w9 rfl (by assumption : WYM T1))) rfl) (And.intro rfl (And.intro rfl (And.intro rfl (True.intro))))
          · refine l_aload_n rfl rfl ?_
            refine l_aload_n rfl rfl ?_
            refine l_gfr rfl rfl rfl rfl rfl (hHT2.r 904 56 946 rfl) ?_
            refine l_iload_n rfl rfl ?_
            refine l_iaload (n := 20) rfl rfl (by omega) (by omega) (by unfold rg; omega) ?_
            have w12 : 0 ≤ (Xi T2 946 ((v2).toNat)) ∧ (Xi T2 946 ((v2).toNat)) ≤ 11 := hHT2.c _ _
            refine l_aload_n rfl rfl ?_
            refine l_gfi rfl rfl rfl rfl rfl ?_
            have w13 : -1 ≤ (Xi T2 904 165) ∧ (Xi T2 904 165) ≤ 23 := hHT2.c _ _
            refine l_callV rfl rfl rfl (t_mo_act hHT2 (Xi T2 946 ((v2).toNat)) (Xi T2 904 165) ⟨by omega, by omega⟩ ⟨by omega, by omega⟩ (by first | assumption | exact (TXM_FR w9 rfl (by assumption : TXM T1))) (by first | assumption | exact (DEFM_FR hFT2 rfl (by assumption : DEFM S))) (by first | assumption | exact (RULM_FR hFT2 rfl (by assumption : RULM S))) (by first | assumption | exact (ABV_FR hFT2 rfl (by assumption : ABV S))) (by first | assumption | exact (LXM_FR hFT2 rfl (by assumption : LXM S))) (by first | assumption | exact (WYM_FR w9 rfl (by assumption : WYM T1))) (by first | assumption | exact (AKR_FR hFT2 rfl (by assumption : AKR S))) _) ?_
            rintro _ T3 ⟨hHT3, w17, z16, rfl, w16, w14, w15⟩
            have hFT3 : FR md_mo_command S T3 := FR.tr hFT2 w17 rfl
            show Rl _ _ _ _ _ [iv z16] _ _
            refine l_ireturn rfl rfl ?_
            exact ⟨hHT3, hFT3, _, rfl, ⟨by omega, by omega⟩, (by first | assumption | exact hX), (by first | assumption | exact hW)⟩
  refine l_aload_n rfl rfl ?_
  refine l_callV rfl rfl rfl (t_mo_isSaid hH _) ?_
  rintro _ T4 ⟨hHT4, w19, z18, rfl, w18⟩
  have hFT4 : FR md_mo_command S T4 := FR.tr hF w19 rfl
  show Rl _ _ _ _ _ [iv z18] _ _
  refine l_istore_n rfl rfl rfl ?_
  refine l_aload_n rfl rfl ?_
  refine l_iconst rfl ?_
  refine l_pfi rfl rfl rfl rfl ?_
  obtain ⟨U5, eU5⟩ : ∃ T : sS, T = uI T4 904 1 (Int32.ofInt 0) := ⟨_, rfl⟩
  rw [← eU5]
  have hHU5 : HI U5 := by rw [eU5]; exact HI_w hHT4 (show 0 ≤ 0 by omega) (show 0 ≤ 5000 by omega)
  have hFU5 : FR md_mo_command S U5 := by rw [eU5]; exact FR.wI hFT4 (mdf_i (r := (904, 905, 1, 2)) (List.mem_of_getElem? (i := 0) rfl) (inR_i (by omega) (by omega) (by omega) (by omega)))
  have w20 : Xi U5 904 1 = 0 := by rw [eU5]; exact Xi_same (by unfold rg; omega)
  refine l_iconst rfl ?_
  refine l_istore_n rfl rfl rfl ?_
  exact Rl_weak (C12 _ U5 hHU5 hFU5 (z18) (0) (by omega) (by omega) (by first | assumption | exact (TXM_FR (FR_e eU5) rfl (TXM_FR w19 rfl (by assumption : TXM S)))) (by first | assumption | exact (WYM_FR (FR_e eU5) rfl (WYM_FR w19 rfl (by assumption : WYM S)))) rfl) (And.intro rfl (And.intro rfl (And.intro rfl (True.intro))))
