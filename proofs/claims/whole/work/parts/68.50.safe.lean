/-! SAFETY of methods: printed by wip/safe (vc.py, decl.py) -/
theorem mad_ru {S U : sS} {c j : Nat} {v : Int32} (e : U = uI S (248 + c) j v) (hc : c < 24) (h : MAD S) : MAD U := fun i hi => by
  rw [e, Xi_ne (by omega)] at hi
  rw [e, Xi_ne (by omega), Xi_ne (by omega), Xi_ne (by omega)]
  exact h i hi
def md_rr_actingOn : List rec := [(246, 247, 5, 6), (248, 272, 0, 100000), (276, 876, 0, 1), (276, 876, 1, 2), (276, 876, 2, 3), (276, 876, 3, 4), (276, 876, 4, 5), (276, 876, 5, 6), (276, 876, 6, 7), (876, 877, 8, 9), (876, 877, 9, 10), (895, 896, 5, 6), (895, 896, 6, 7), (895, 896, 7, 8), (895, 896, 8, 9), (895, 896, 9, 10), (895, 896, 12, 13), (895, 896, 13, 14), (895, 896, 14, 15), (896, 897, 0, 100000), (897, 898, 0, 100000), (898, 899, 0, 100000)]
abbrev Q_rr_actingOn (S : sS) (ru : Nat) (from_ : Int) (to : Int) : pst := fun r S1 => HI S1 ∧ FR md_rr_actingOn S S1 ∧ (∃ z : Int, r = some (iv z) ∧ (0 ≤ z ∧ z ≤ 1) ∧ (KRU S S1 ru) ∧ (z = 1 → sG S S1) ∧ (z = 1 → 0 ≤ Xi S1 (248 + ru) 1 ∧ Xi S1 (248 + ru) 1 < Xi S1 5 8) ∧ (z = 1 → 0 ≤ Xi S1 19 (Xi S1 (248 + ru) 1).toNat) ∧ (z = 1 → Xi S1 246 5 = Xi S 246 5 + Xi S1 (248 + ru) 4) ∧ (z = 1 → Xi S1 (248 + ru) 5 = Xi S (248 + ru) 5 ∧ Xi S1 (248 + ru) 6 = Xi S (248 + ru) 6 ∧ Xi S1 (248 + ru) 7 = Xi S (248 + ru) 7) ∧ (z = 1 → ∀ i : Nat, (i : Int) < Xi S1 (248 + ru) 4 → TSok S1 True ((Xi S 246 5).toNat + i)) ∧ (z = 0 → Xi S1 876 8 ≠ 0))
set_option maxRecDepth 100000 in
theorem c237_rr_actingOn {S : sS} (hH : HI S) (ru : Nat) (from_ : Int) (to : Int) (hfrom_ : 0 ≤ from_ ∧ from_ ≤ 5130) (hto : 0 ≤ to ∧ to ≤ 5130) (hru : S.2.2 899 4 = some (248 + ru)) (hrk : ru < 24) (hL : LEX S) (h4 : Xi S (248 + ru) 4 = 0) (hn : Xi S 246 5 + 5 ≤ 600) (hd : 0 ≤ Xi S 899 5) (d : Nat) : ∀ (n237 : Nat) (T1 : sS) (_ : HI T1) (_ : FR md_rr_actingOn S T1) (v8 : Int), (0 ≤ v8 ∧ v8 ≤ 5) → (sG S T1) → (KRU S T1 ru) → (Xi T1 246 5 = Xi S 246 5 + v8) → (v8 ≤ Xi T1 895 14) → (Xi T1 (248 + ru) 4 = Xi T1 895 14) → (0 ≤ Xi T1 (248 + ru) 1 ∧ Xi T1 (248 + ru) 1 < Xi S 5 8) → (Xi T1 (248 + ru) 5 = Xi S (248 + ru) 5 ∧ Xi T1 (248 + ru) 6 = Xi S (248 + ru) 6 ∧ Xi T1 (248 + ru) 7 = Xi S (248 + ru) 7) → (0 ≤ Xi S 19 (Xi T1 (248 + ru) 1).toNat) → (MAD T1) → (∀ i : Nat, (i : Int) < v8 → TSok T1 True ((Xi S 246 5).toNat + i)) → n237 = (6 - v8).toNat → Rl lay0 (d + 4) m_rr_actingOn 237 [(0, .ref 899), (8, iv v8)] [] T1 (Q_rr_actingOn S ru from_ to) := by
  have hF : FR md_rr_actingOn S S := FR.rf
  have w1 : 0 ≤ Xi S 246 5 ∧ Xi S 246 5 ≤ 200000 := hH.c _ _
  have w2 : 0 ≤ Xi S 5 8 ∧ Xi S 5 8 ≤ 12 := hH.c _ _
  have w3 : 0 ≤ Xi S 895 14 ∧ Xi S 895 14 ≤ 5 := hH.c _ _
  have w4 : -1 ≤ Xi S 899 5 ∧ Xi S 899 5 ≤ 5131 := hH.c _ _
  intro n237
  induction n237 using Nat.strongRecOn with
  | ind n237 ih237 =>
    intro T1 hHT1 hFT1 v8 w5 hg237 hq237 w6 w7 w8 w9 w10 hn237 hM237 ht237 hm237
    have w11 : Xi T1 5 8 = Xi S 5 8 := hFT1.x _ _ rfl
    have w12 : Xi T1 895 4 = Xi S 895 4 := hFT1.x _ _ rfl
    have w13 : Xi T1 899 5 = Xi S 899 5 := hFT1.x _ _ rfl
    have w14 : 0 ≤ Xi T1 246 5 ∧ Xi T1 246 5 ≤ 200000 := hHT1.c _ _
    have w15 : 0 ≤ Xi T1 895 14 ∧ Xi T1 895 14 ≤ 5 := hHT1.c _ _
    refine l_iload rfl rfl ?_
    refine l_aload_n rfl rfl ?_
    refine l_gfr rfl rfl rfl rfl rfl (hHT1.r 899 2 895 rfl) ?_
    refine l_gfi rfl rfl rfl rfl rfl ?_
    refine l_icmp_ge rfl rfl (by unfold rg; omega) (by unfold rg; omega) (fun w16 => ?_) (fun w17 => ?_)
    · refine l_iconst rfl ?_
      refine l_ireturn rfl rfl ?_
      have w19 : 0 ≤ Xi T1 5 8 ∧ Xi T1 5 8 ≤ 12 := hHT1.c _ _
      have w20 : 0 ≤ Xi T1 876 8 ∧ Xi T1 876 8 ≤ 9 := hHT1.c _ _
      have w22 : -1 ≤ Xi T1 899 5 ∧ Xi T1 899 5 ≤ 5131 := hHT1.c _ _
      exact ⟨hHT1, hFT1, _, rfl, ⟨by omega, by omega⟩, (hq237), (fun q => by first | (exfalso; omega) | exact hg237 | exact sG_n (n := 600) hH hFT1 rfl KCL.rf (by omega) (by omega)), (fun q => by have e58 : Xi T1 5 8 = Xi S 5 8 := hFT1.x 5 8 rfl; omega), (fun q => by first | (exfalso; omega) | (rw [(hFT1.cx 19 rfl _).1]; first | exact hn237 | exact n195)), (by omega), (by omega), (fun q => by first | (exfalso; omega) | (intro i hi; exact ht237 i (by omega)) | (intro i hi; exfalso; omega)), (fun q => by first | omega | (exfalso; omega))⟩
    · refine l_aload_n rfl rfl ?_
      refine l_gfr rfl rfl rfl rfl rfl (hHT1.r 899 3 246 rfl) ?_
      refine l_iconst rfl ?_
      refine l_callV rfl rfl rfl (t_bo_nextClause__2 hHT1 0 ⟨by omega, by omega⟩ (by first | assumption | omega) _) ?_
      rintro _ T2 ⟨hHT2, w32, z31, rfl, w31, w27, w28, w29, w30⟩
      have hFT2 : FR md_rr_actingOn S T2 := FR.tr hFT1 w32 rfl
      show Rl _ _ _ _ _ [.ref (276 + z31)] _ _
      have rT2_1 : Xi T2 (248 + ru) 1 = Xi T1 (248 + ru) 1 := FR_ru w32 rfl (by omega)
      have rT2_2 : Xi T2 (248 + ru) 2 = Xi T1 (248 + ru) 2 := FR_ru w32 rfl (by omega)
      have rT2_3 : Xi T2 (248 + ru) 3 = Xi T1 (248 + ru) 3 := FR_ru w32 rfl (by omega)
      have rT2_4 : Xi T2 (248 + ru) 4 = Xi T1 (248 + ru) 4 := FR_ru w32 rfl (by omega)
      have rT2_5 : Xi T2 (248 + ru) 5 = Xi T1 (248 + ru) 5 := FR_ru w32 rfl (by omega)
      have rT2_6 : Xi T2 (248 + ru) 6 = Xi T1 (248 + ru) 6 := FR_ru w32 rfl (by omega)
      have rT2_7 : Xi T2 (248 + ru) 7 = Xi T1 (248 + ru) 7 := FR_ru w32 rfl (by omega)
      have a254 : Xi T2 895 14 = Xi T1 895 14 := (by assumption : FR md_bo_nextClause__2 T1 T2).x 895 14 rfl
      have n254 : 0 ≤ Xi S 19 (Xi T2 (248 + ru) 1).toNat := by rw [show Xi T2 (248 + ru) 1 = Xi T1 (248 + ru) 1 by omega]; exact hn237
      have hM254 : MAD T2 := MAD_FR (by assumption : FR md_bo_nextClause__2 T1 T2) rfl hM237
      refine l_astore rfl rfl rfl ?_
      refine l_aload rfl rfl ?_
      refine l_bipush rfl rfl ?_
      refine l_pfi rfl rfl (layClW (by omega) rfl) rfl ?_
      obtain ⟨U3, eU3⟩ : ∃ T : sS, T = uI T2 (276 + z31) 2 (Int32.ofInt (-2)) := ⟨_, rfl⟩
      rw [← eU3]
      have hHU3 : HI U3 := by rw [eU3]; exact HI_w hHT2 (by rw [lh_cl2 (by omega)]; omega) (by rw [lh_cl2 (by omega)]; omega)
      have hFU3 : FR md_rr_actingOn S U3 := by rw [eU3]; exact FR.wI hFT2 (mdf_i (r := (276, 876, 2, 3)) (List.mem_of_getElem? (i := 4) rfl) (inR_i (by omega) (by omega) (by omega) (by omega)))
      have w33 : Xi U3 (276 + z31) 2 = (-2) := by rw [eU3]; exact Xi_same (by unfold rg; omega)
      have rU3_1 : Xi U3 (248 + ru) 1 = Xi T2 (248 + ru) 1 := by rw [eU3, Xi_ne (by omega)]
      have rU3_2 : Xi U3 (248 + ru) 2 = Xi T2 (248 + ru) 2 := by rw [eU3, Xi_ne (by omega)]
      have rU3_3 : Xi U3 (248 + ru) 3 = Xi T2 (248 + ru) 3 := by rw [eU3, Xi_ne (by omega)]
      have rU3_4 : Xi U3 (248 + ru) 4 = Xi T2 (248 + ru) 4 := by rw [eU3, Xi_ne (by omega)]
      have rU3_5 : Xi U3 (248 + ru) 5 = Xi T2 (248 + ru) 5 := by rw [eU3, Xi_ne (by omega)]
      have rU3_6 : Xi U3 (248 + ru) 6 = Xi T2 (248 + ru) 6 := by rw [eU3, Xi_ne (by omega)]
      have rU3_7 : Xi U3 (248 + ru) 7 = Xi T2 (248 + ru) 7 := by rw [eU3, Xi_ne (by omega)]
      have a263 : Xi U3 895 14 = Xi T2 895 14 := by rw [eU3, Xi_ne (by omega)]
      have n263 : 0 ≤ Xi S 19 (Xi U3 (248 + ru) 1).toNat := by rw [show Xi U3 (248 + ru) 1 = Xi T2 (248 + ru) 1 by omega]; exact n254
      have hM263 : MAD U3 := mad_cl eU3 (by omega) hM254
      have f263 : Xi U3 (276 + z31) 5 = 0 := by rw [eU3, Xi_ne (by omega)]; omega
      have w263 : Xi U3 (276 + z31) 2 = -2 := by omega
      refine l_aload rfl rfl ?_
      refine l_aload_n rfl rfl ?_
      refine l_gfr rfl rfl rfl rfl rfl (hHU3.r 899 2 895 rfl) ?_
      refine l_gfr rfl rfl rfl rfl rfl (hHU3.r 895 15 896 rfl) ?_
      refine l_iload rfl rfl ?_
      refine l_iaload (n := 5) rfl rfl (by omega) (by omega) (by unfold rg; omega) ?_
      have w34 : 0 ≤ (Xi U3 896 ((v8).toNat)) ∧ (Xi U3 896 ((v8).toNat)) ≤ 63 := hHU3.c _ _
      refine l_aload_n rfl rfl ?_
      refine l_gfr rfl rfl rfl rfl rfl (hHU3.r 899 2 895 rfl) ?_
      refine l_gfr rfl rfl rfl rfl rfl (hHU3.r 895 16 897 rfl) ?_
      refine l_iload rfl rfl ?_
      refine l_iaload (n := 5) rfl rfl (by omega) (by omega) (by unfold rg; omega) ?_
      have w35 : -1 ≤ (Xi U3 897 ((v8).toNat)) ∧ (Xi U3 897 ((v8).toNat)) ≤ 11 := hHU3.c _ _
      have m285 : (Xi U3 897 ((v8).toNat)) = -1 → Xi U3 896 (v8).toNat < Xi U3 5 3 := fun q => hM263 (v8).toNat (by omega) (by omega)
      refine l_callS rfl rfl (by decide) rfl (t_rr_nameAdjective__2 hHU3 z31 (Xi U3 896 ((v8).toNat)) (Xi U3 897 ((v8).toNat)) (by omega) ⟨by omega, by omega⟩ ⟨by omega, by omega⟩ _) ?_
      rintro _ T4 ⟨hHT4, w49, rfl, w44, w45, w46, w47⟩
      have hFT4 : FR md_rr_actingOn S T4 := FR.tr hFU3 w49 rfl
      show Rl _ _ _ _ _ [] _ _
      have rT4_1 : Xi T4 (248 + ru) 1 = Xi U3 (248 + ru) 1 := FR_ru w49 rfl (by omega)
      have rT4_2 : Xi T4 (248 + ru) 2 = Xi U3 (248 + ru) 2 := FR_ru w49 rfl (by omega)
      have rT4_3 : Xi T4 (248 + ru) 3 = Xi U3 (248 + ru) 3 := FR_ru w49 rfl (by omega)
      have rT4_4 : Xi T4 (248 + ru) 4 = Xi U3 (248 + ru) 4 := FR_ru w49 rfl (by omega)
      have rT4_5 : Xi T4 (248 + ru) 5 = Xi U3 (248 + ru) 5 := FR_ru w49 rfl (by omega)
      have rT4_6 : Xi T4 (248 + ru) 6 = Xi U3 (248 + ru) 6 := FR_ru w49 rfl (by omega)
      have rT4_7 : Xi T4 (248 + ru) 7 = Xi U3 (248 + ru) 7 := FR_ru w49 rfl (by omega)
      have n288 : 0 ≤ Xi S 19 (Xi T4 (248 + ru) 1).toNat := by rw [show Xi T4 (248 + ru) 1 = Xi U3 (248 + ru) 1 by omega]; exact n263
      have hM288 : MAD T4 := MAD_FR (by assumption : FR md_rr_nameAdjective__2 U3 T4) rfl hM263
      have x53 : Xi T4 5 3 = Xi U3 5 3 := (by assumption : FR md_rr_nameAdjective__2 U3 T4).x 5 3 rfl
      have o288 : TSok T4 True _ := ts_na (by assumption) (by assumption) (by assumption) (Or.inr ⟨w263, trivial⟩) f263 (by omega) (by omega)
      refine l_iinc rfl rfl rfl rfl ?_
      refine l_goto rfl rfl ?_
      have w50 : Xi T4 246 5 = Xi T2 246 5 := (show Xi T4 246 5 = Xi U3 246 5 from w49.x _ _ rfl).trans ((show Xi U3 246 5 = Xi T2 246 5 from by rw [eU3]; exact Xi_ne (by omega)))
      have w51 : 0 ≤ Xi T2 246 5 ∧ Xi T2 246 5 ≤ 200000 := hHT2.c _ _
      have w52 : Xi T4 5 8 = Xi T1 5 8 := (show Xi T4 5 8 = Xi U3 5 8 from w49.x _ _ rfl).trans ( (show Xi U3 5 8 = Xi T2 5 8 from by rw [eU3]; exact Xi_ne (by omega)).trans ((show Xi T2 5 8 = Xi T1 5 8 from w32.x _ _ rfl)))
      have w53 : 0 ≤ Xi T1 5 8 ∧ Xi T1 5 8 ≤ 12 := hHT1.c _ _
      have w54 : Xi T4 895 14 = Xi T1 895 14 := (show Xi T4 895 14 = Xi U3 895 14 from w49.x _ _ rfl).trans ( (show Xi U3 895 14 = Xi T2 895 14 from by rw [eU3]; exact Xi_ne (by omega)).trans ((show Xi T2 895 14 = Xi T1 895 14 from w32.x _ _ rfl)))
      have w56 : Xi T4 899 5 = Xi T1 899 5 := (show Xi T4 899 5 = Xi U3 899 5 from w49.x _ _ rfl).trans ( (show Xi U3 899 5 = Xi T2 899 5 from by rw [eU3]; exact Xi_ne (by omega)).trans ((show Xi T2 899 5 = Xi T1 899 5 from w32.x _ _ rfl)))
      have w57 : -1 ≤ Xi T1 899 5 ∧ Xi T1 899 5 ≤ 5131 := hHT1.c _ _
      exact Rl_weak (ih237 _ (by omega) T4 hHT4 hFT4 ((v8 + 1)) (by omega) (by first | exact sG_n (n := 600) hH ((FR.tr (show FR md_rr_actingOn T1 U3 from by rw [eU3]; exact FR.wI (FR.tr FR.rf w32 rfl) (mdf_i (r := (276, 876, 2, 3)) (List.mem_of_getElem? (i := 4) rfl) (inR_i (by omega) (by omega) (by omega) (by omega)))) w49 rfl) : FR md_rr_actingOn T1 T4) rfl (kcl_tr (kcl_w eU3 (kcl_tr KCL.rf (by assumption : KCL T1 T2 _))) (by assumption : KCL U3 T4 _)) (by omega) (by omega) | exact sG.tr hg237 (sG_n hHT1 ((FR.tr (show FR md_rr_actingOn T1 U3 from by rw [eU3]; exact FR.wI (FR.tr FR.rf w32 rfl) (mdf_i (r := (276, 876, 2, 3)) (List.mem_of_getElem? (i := 4) rfl) (inR_i (by omega) (by omega) (by omega) (by omega)))) w49 rfl) : FR md_rr_actingOn T1 T4) rfl (kcl_tr (kcl_w eU3 (kcl_tr KCL.rf (by assumption : KCL T1 T2 _))) (by assumption : KCL U3 T4 _)) (by omega) (by omega))) ((kru_f w49 rfl (kru_o eU3 (by omega) (kru_f w32 rfl hq237)))) (by omega) (by omega) (by omega) (by omega) (by omega) (by first | exact n288 | exact n233) (by first | exact hM288 | exact hM233) (by first | exact fun i hi => by omega | exact ts_s hHT1 (sG_n hHT1 ((FR.tr (show FR md_rr_actingOn T1 U3 from by rw [eU3]; exact FR.wI (FR.tr FR.rf w32 rfl) (mdf_i (r := (276, 876, 2, 3)) (List.mem_of_getElem? (i := 4) rfl) (inR_i (by omega) (by omega) (by omega) (by omega)))) w49 rfl) : FR md_rr_actingOn T1 T4) rfl (kcl_tr (kcl_w eU3 (kcl_tr KCL.rf (by assumption : KCL T1 T2 _))) (by assumption : KCL U3 T4 _)) (by omega) (by omega)) ht237 (by omega) (by omega) (by omega) o288 (by omega)) rfl) (And.intro rfl (And.intro rfl (True.intro)))
set_option maxRecDepth 100000 in
theorem t_rr_actingOn {S : sS} (hH : HI S) (ru : Nat) (from_ : Int) (to : Int) (hfrom_ : 0 ≤ from_ ∧ from_ ≤ 5130) (hto : 0 ≤ to ∧ to ≤ 5130) (hru : S.2.2 899 4 = some (248 + ru)) (hrk : ru < 24) (hL : LEX S) (h4 : Xi S (248 + ru) 4 = 0) (hn : Xi S 246 5 + 5 ≤ 600) (hd : 0 ≤ Xi S 899 5) (d : Nat) : Mt lay0 (d + 5) m_rr_actingOn [.ref 899, iv from_, iv to] S (Q_rr_actingOn S ru from_ to) := by
  refine Mt_R rfl rfl ?_
  have C237 := c237_rr_actingOn hH ru from_ to hfrom_ hto hru hrk hL h4 hn hd d 
  have hF : FR md_rr_actingOn S S := FR.rf
  have w1 : 0 ≤ Xi S 246 5 ∧ Xi S 246 5 ≤ 200000 := hH.c _ _
  have w2 : 0 ≤ Xi S 5 8 ∧ Xi S 5 8 ≤ 12 := hH.c _ _
  have w3 : 0 ≤ Xi S 895 14 ∧ Xi S 895 14 ≤ 5 := hH.c _ _
  have w4 : -1 ≤ Xi S 899 5 ∧ Xi S 899 5 ≤ 5131 := hH.c _ _
  refine l_aload_n rfl rfl ?_
  refine l_gfr rfl rfl rfl rfl rfl (hH.r 899 2 895 rfl) ?_
  refine l_bipush rfl rfl ?_
  refine l_iload_n rfl rfl ?_
  refine l_iload_n rfl rfl ?_
  refine l_callV rfl rfl rfl (t_me_find hH 8 from_ to ⟨by omega, by omega⟩ ⟨by omega, by omega⟩ ⟨by omega, by omega⟩ (by first | assumption | exact (LEX_FR hF rfl rfl (by assumption : LEX S))) _) ?_
  rintro _ _ ⟨rfl, z65, rfl, w65, w62, w63, w64⟩
  have w66 : z65 ≠ -1 → _ := fun h => fb8 hH (w62 h)
  clear w63
  show Rl _ _ _ _ _ [iv z65] _ _
  refine l_istore_n rfl rfl rfl ?_
  refine l_iload_n rfl rfl ?_
  refine l_iconst rfl ?_
  refine l_iadd rfl ?_
  refine l_istore rfl rfl rfl ?_
  refine l_iload_n rfl rfl ?_
  refine l_iconst rfl ?_
  refine l_icmp_ne rfl rfl (by unfold rg; omega) (by unfold rg; omega) (fun w67 => ?_) (fun w68 => ?_)
  · refine l_aload_n rfl rfl ?_
    refine l_gfr rfl rfl rfl rfl rfl (hH.r 899 1 1 rfl) ?_
    refine l_gfr rfl rfl rfl rfl rfl (hH.r 1 18 19 rfl) ?_
    refine l_iload_n rfl rfl ?_
    refine l_iaload (n := 12) rfl rfl (by omega) (by omega) (by unfold rg; omega) ?_
    have w69 : -2 ≤ (Xi S 19 ((z65).toNat)) ∧ (Xi S 19 ((z65).toNat)) ≤ 15 := hH.c _ _
    refine l_istore rfl rfl rfl ?_
    refine l_iload rfl rfl ?_
    refine l_if_ge rfl rfl (by unfold rg; omega) (fun w70 => ?_) (fun w71 => ?_)
    · refine l_aload_n rfl rfl ?_
      refine l_gfr rfl rfl rfl rfl rfl (hH.r 899 2 895 rfl) ?_
      refine l_iload rfl rfl ?_
      refine l_aload_n rfl rfl ?_
      refine l_gfi rfl rfl rfl rfl rfl ?_
      have w75 : -1 ≤ Xi S 895 4 ∧ Xi S 895 4 ≤ 15 := hH.c _ _
      refine l_callV rfl rfl rfl (t_me_readThing hH (to + 1) (Xi S 899 5) ⟨by omega, by omega⟩ ⟨by omega, by omega⟩ (by first | assumption | exact (LEX_FR hF rfl rfl (by assumption : LEX S))) _) ?_
      rintro _ T5 ⟨hHT5, w82, z81, rfl, w81, w77, w78, w79, w80⟩
      have hFT5 : FR md_rr_actingOn S T5 := FR.tr hF w82 rfl
      show Rl _ _ _ _ _ [iv z81] _ _
      have rT5_1 : Xi T5 (248 + ru) 1 = Xi S (248 + ru) 1 := FR_ru w82 rfl (by omega)
      have rT5_2 : Xi T5 (248 + ru) 2 = Xi S (248 + ru) 2 := FR_ru w82 rfl (by omega)
      have rT5_3 : Xi T5 (248 + ru) 3 = Xi S (248 + ru) 3 := FR_ru w82 rfl (by omega)
      have rT5_4 : Xi T5 (248 + ru) 4 = Xi S (248 + ru) 4 := FR_ru w82 rfl (by omega)
      have rT5_5 : Xi T5 (248 + ru) 5 = Xi S (248 + ru) 5 := FR_ru w82 rfl (by omega)
      have rT5_6 : Xi T5 (248 + ru) 6 = Xi S (248 + ru) 6 := FR_ru w82 rfl (by omega)
      have rT5_7 : Xi T5 (248 + ru) 7 = Xi S (248 + ru) 7 := FR_ru w82 rfl (by omega)
      refine l_pop rfl rfl ?_
      refine l_aload_n rfl rfl ?_
      refine l_gfr rfl rfl rfl rfl rfl (hHT5.r 899 2 895 rfl) ?_
      refine l_gfi rfl rfl rfl rfl rfl ?_
      have w83 : -2 ≤ (Xi T5 895 5) ∧ (Xi T5 895 5) ≤ 23 := hHT5.c _ _
      refine l_if_lt rfl rfl (by unfold rg; omega) (fun w84 => ?_) (fun w85 => ?_)
      · refine l_iconst rfl ?_
        refine l_istore rfl rfl rfl ?_
        refine l_aload_n rfl rfl ?_
        refine l_gfr rfl rfl rfl rfl rfl (hHT5.r 899 2 895 rfl) ?_
        refine l_iload rfl rfl ?_
        refine l_aload_n rfl rfl ?_
        refine l_gfi rfl rfl rfl rfl rfl ?_
        have w86 : (Xi T5 899 5) = (Xi S 899 5) := (show Xi T5 899 5 = Xi S 899 5 from w82.x _ _ rfl)
        rw [w86]
        refine l_iconst rfl ?_
        refine l_iconst rfl ?_
        refine l_iload rfl rfl ?_
        have w93 : Xi T5 899 5 = Xi S 899 5 := (show Xi T5 899 5 = Xi S 899 5 from w82.x _ _ rfl)
        refine l_callV rfl rfl rfl (t_me_countReadings hHT5 (to + 1) (Xi S 899 5) 0 1 (Xi S 19 ((z65).toNat)) ⟨by omega, by omega⟩ ⟨by omega, by omega⟩ ⟨by omega, by omega⟩ ⟨by omega, by omega⟩ ⟨by omega, by omega⟩ (by first | assumption | exact (LEX_FR hFT5 rfl rfl (by assumption : LEX S))) _) ?_
        rintro _ T6 ⟨hHT6, w98, z97, rfl, w97, w95, w96⟩
        have hFT6 : FR md_rr_actingOn S T6 := FR.tr hFT5 w98 rfl
        show Rl _ _ _ _ _ [iv z97] _ _
        have rT6_1 : Xi T6 (248 + ru) 1 = Xi T5 (248 + ru) 1 := FR_ru w98 rfl (by omega)
        have rT6_2 : Xi T6 (248 + ru) 2 = Xi T5 (248 + ru) 2 := FR_ru w98 rfl (by omega)
        have rT6_3 : Xi T6 (248 + ru) 3 = Xi T5 (248 + ru) 3 := FR_ru w98 rfl (by omega)
        have rT6_4 : Xi T6 (248 + ru) 4 = Xi T5 (248 + ru) 4 := FR_ru w98 rfl (by omega)
        have rT6_5 : Xi T6 (248 + ru) 5 = Xi T5 (248 + ru) 5 := FR_ru w98 rfl (by omega)
        have rT6_6 : Xi T6 (248 + ru) 6 = Xi T5 (248 + ru) 6 := FR_ru w98 rfl (by omega)
        have rT6_7 : Xi T6 (248 + ru) 7 = Xi T5 (248 + ru) 7 := FR_ru w98 rfl (by omega)
        have e123 : z97 ≠ 0 → 0 < cpF S (Xi T6 895 12) (to + 1) (Xi T6 895 13) 1 := fun q => by rw [← cpF_FR hFT5 rfl]; exact (by assumption : z97 ≠ 0 → 0 < cpF T5 (Xi T6 895 12) (to + 1) (Xi T6 895 13) 1) q
        refine l_istore rfl rfl rfl ?_
        refine l_iload rfl rfl ?_
        refine l_iload rfl rfl ?_
        refine l_if_eq rfl rfl (by unfold rg; omega) (fun w99 => ?_) (fun w100 => absurd w100 (by omega))
        · refine l_iconst rfl ?_
          refine l_iadd rfl ?_
          refine l_iconst rfl ?_
          refine l_icmp_eq rfl rfl (by unfold rg; omega) (by unfold rg; omega) (fun w101 => ?_) (fun w102 => ?_)
          · refine l_aload_n rfl rfl ?_
            refine l_gfr rfl rfl rfl rfl rfl ((hFT6 899 4 rfl).2.2.trans hru) ?_
            refine l_iconst rfl ?_
            refine l_iload_n rfl rfl ?_
            refine l_iastore (n := 8) rfl (lay_248 (by omega)) (by omega) (by omega) (by unfold rg; omega) ?_
            obtain ⟨U7, eU7⟩ : ∃ T : sS, T = uI T6 (248 + ru) ((1 : Int).toNat) (Int32.ofInt z65) := ⟨_, rfl⟩
            rw [← eU7]
            have hHU7 : HI U7 := by rw [eU7]; exact HI_w hHT6 (by rw [lh_ru1 (by omega)]; omega) (by rw [lh_ru1 (by omega)]; omega)
            have hFU7 : FR md_rr_actingOn S U7 := by rw [eU7]; exact FR.wI hFT6 (mdf_i (r := (248, 272, 0, 100000)) (List.mem_of_getElem? (i := 1) rfl) (inR_i (by omega) (by omega) (by omega) (by omega)))
            have w104 : Xi U7 (248 + ru) ((1 : Int).toNat) = z65 := by rw [eU7]; exact Xi_same (by unfold rg; omega)
            have rU7_1 : Xi U7 (248 + ru) 1 = z65 := by rw [eU7]; exact Xi_same (by unfold rg; omega)
            have rU7_2 : Xi U7 (248 + ru) 2 = Xi T6 (248 + ru) 2 := by rw [eU7, Xi_ne (by omega)]
            have rU7_3 : Xi U7 (248 + ru) 3 = Xi T6 (248 + ru) 3 := by rw [eU7, Xi_ne (by omega)]
            have rU7_4 : Xi U7 (248 + ru) 4 = Xi T6 (248 + ru) 4 := by rw [eU7, Xi_ne (by omega)]
            have rU7_5 : Xi U7 (248 + ru) 5 = Xi T6 (248 + ru) 5 := by rw [eU7, Xi_ne (by omega)]
            have rU7_6 : Xi U7 (248 + ru) 6 = Xi T6 (248 + ru) 6 := by rw [eU7, Xi_ne (by omega)]
            have rU7_7 : Xi U7 (248 + ru) 7 = Xi T6 (248 + ru) 7 := by rw [eU7, Xi_ne (by omega)]
            have k177 : Xi U7 895 12 = Xi T6 895 12 ∧ Xi U7 895 13 = Xi T6 895 13 := ⟨by rw [eU7, Xi_ne (by omega)], by rw [eU7, Xi_ne (by omega)]⟩
            have f177 : Xi U7 5 8 = Xi S 5 8 := hFU7.x 5 8 rfl
            have n177 : 0 ≤ Xi S 19 (Xi U7 (248 + ru) 1).toNat := by rw [show Xi U7 (248 + ru) 1 = z65 by omega]; omega
            refine l_iload rfl rfl ?_
            refine l_if_eq rfl rfl (by unfold rg; omega) (fun w105 => ?_) (fun w106 => absurd w106 (by omega))
            · refine l_aload_n rfl rfl ?_
              refine l_gfr rfl rfl rfl rfl rfl (hHU7.r 899 2 895 rfl) ?_
              refine l_iload rfl rfl ?_
              refine l_iconst rfl ?_
              have w107 : Xi U7 246 5 = Xi S 246 5 := (show Xi U7 246 5 = Xi T6 246 5 from by rw [eU7]; exact Xi_ne (by omega)).trans ( (show Xi T6 246 5 = Xi T5 246 5 from w98.x _ _ rfl).trans ((show Xi T5 246 5 = Xi S 246 5 from w82.x _ _ rfl)))
              have w109 : Xi U7 5 8 = Xi S 5 8 := (show Xi U7 5 8 = Xi T6 5 8 from by rw [eU7]; exact Xi_ne (by omega)).trans ( (show Xi T6 5 8 = Xi T5 5 8 from w98.x _ _ rfl).trans ((show Xi T5 5 8 = Xi S 5 8 from w82.x _ _ rfl)))
              have w111 : Xi U7 895 12 = Xi T6 895 12 := (show Xi U7 895 12 = Xi T6 895 12 from by rw [eU7]; exact Xi_ne (by omega))
              have w112 : 0 ≤ Xi T6 895 12 ∧ Xi T6 895 12 ≤ 15 := hHT6.c _ _
              have w113 : Xi U7 895 13 = Xi T6 895 13 := (show Xi U7 895 13 = Xi T6 895 13 from by rw [eU7]; exact Xi_ne (by omega))
              have w114 : Xi U7 895 14 = Xi S 895 14 := (show Xi U7 895 14 = Xi T6 895 14 from by rw [eU7]; exact Xi_ne (by omega)).trans ( (show Xi T6 895 14 = Xi T5 895 14 from w98.x _ _ rfl).trans ((show Xi T5 895 14 = Xi S 895 14 from w82.x _ _ rfl)))
              have w116 : Xi U7 899 5 = Xi S 899 5 := (show Xi U7 899 5 = Xi T6 899 5 from by rw [eU7]; exact Xi_ne (by omega)).trans ( (show Xi T6 899 5 = Xi T5 899 5 from w98.x _ _ rfl).trans ((show Xi T5 899 5 = Xi S 899 5 from w82.x _ _ rfl)))
              refine l_callV rfl rfl rfl (t_me_keepReading hHU7 (to + 1) 1 ⟨by omega, by omega⟩ ⟨by omega, by omega⟩ (by first | assumption | exact (LEX_FR hFU7 rfl rfl (by assumption : LEX S))) (by first | assumption | omega) (by rw [cpF_FR hFU7 rfl, k177.1, k177.2]; exact e123 (by omega)) _) ?_
              rintro _ T8 ⟨hHT8, w120, rfl, w118⟩
              have hFT8 : FR md_rr_actingOn S T8 := FR.tr hFU7 w120 rfl
              show Rl _ _ _ _ _ [] _ _
              have rT8_1 : Xi T8 (248 + ru) 1 = Xi U7 (248 + ru) 1 := FR_ru w120 rfl (by omega)
              have rT8_2 : Xi T8 (248 + ru) 2 = Xi U7 (248 + ru) 2 := FR_ru w120 rfl (by omega)
              have rT8_3 : Xi T8 (248 + ru) 3 = Xi U7 (248 + ru) 3 := FR_ru w120 rfl (by omega)
              have rT8_4 : Xi T8 (248 + ru) 4 = Xi U7 (248 + ru) 4 := FR_ru w120 rfl (by omega)
              have rT8_5 : Xi T8 (248 + ru) 5 = Xi U7 (248 + ru) 5 := FR_ru w120 rfl (by omega)
              have rT8_6 : Xi T8 (248 + ru) 6 = Xi U7 (248 + ru) 6 := FR_ru w120 rfl (by omega)
              have rT8_7 : Xi T8 (248 + ru) 7 = Xi U7 (248 + ru) 7 := FR_ru w120 rfl (by omega)
              have n205 : 0 ≤ Xi S 19 (Xi T8 (248 + ru) 1).toNat := by rw [show Xi T8 (248 + ru) 1 = Xi U7 (248 + ru) 1 by omega]; exact n177
              have hM205 : MAD T8 := by assumption
              refine l_aload_n rfl rfl ?_
              refine l_gfr rfl rfl rfl rfl rfl ((hFT8 899 4 rfl).2.2.trans hru) ?_
              refine l_iconst rfl ?_
              refine l_aload_n rfl rfl ?_
              refine l_gfr rfl rfl rfl rfl rfl (hHT8.r 899 2 895 rfl) ?_
              refine l_gfi rfl rfl rfl rfl rfl ?_
              have w122 : 0 ≤ (Xi T8 895 12) ∧ (Xi T8 895 12) ≤ 15 := hHT8.c _ _
              refine l_iastore (n := 8) rfl (lay_248 (by omega)) (by omega) (by omega) (by unfold rg; omega) ?_
              obtain ⟨U9, eU9⟩ : ∃ T : sS, T = uI T8 (248 + ru) ((3 : Int).toNat) (Int32.ofInt (Xi T8 895 12)) := ⟨_, rfl⟩
              rw [← eU9]
              have hHU9 : HI U9 := by rw [eU9]; exact HI_w hHT8 (by rw [lh_ru3 (by omega)]; omega) (by rw [lh_ru3 (by omega)]; omega)
              have hFU9 : FR md_rr_actingOn S U9 := by rw [eU9]; exact FR.wI hFT8 (mdf_i (r := (248, 272, 0, 100000)) (List.mem_of_getElem? (i := 1) rfl) (inR_i (by omega) (by omega) (by omega) (by omega)))
              have w123 : Xi U9 (248 + ru) ((3 : Int).toNat) = (Xi T8 895 12) := by rw [eU9]; exact Xi_same (by unfold rg; omega)
              have rU9_1 : Xi U9 (248 + ru) 1 = Xi T8 (248 + ru) 1 := by rw [eU9, Xi_ne (by omega)]
              have rU9_2 : Xi U9 (248 + ru) 2 = Xi T8 (248 + ru) 2 := by rw [eU9, Xi_ne (by omega)]
              have rU9_3 : Xi U9 (248 + ru) 3 = (Xi T8 895 12) := by rw [eU9]; exact Xi_same (by unfold rg; omega)
              have rU9_4 : Xi U9 (248 + ru) 4 = Xi T8 (248 + ru) 4 := by rw [eU9, Xi_ne (by omega)]
              have rU9_5 : Xi U9 (248 + ru) 5 = Xi T8 (248 + ru) 5 := by rw [eU9, Xi_ne (by omega)]
              have rU9_6 : Xi U9 (248 + ru) 6 = Xi T8 (248 + ru) 6 := by rw [eU9, Xi_ne (by omega)]
              have rU9_7 : Xi U9 (248 + ru) 7 = Xi T8 (248 + ru) 7 := by rw [eU9, Xi_ne (by omega)]
              have n220 : 0 ≤ Xi S 19 (Xi U9 (248 + ru) 1).toNat := by rw [show Xi U9 (248 + ru) 1 = Xi T8 (248 + ru) 1 by omega]; exact n205
              have hM220 : MAD U9 := mad_ru eU9 (by omega) hM205
              have a220 : Xi U9 895 14 = Xi T8 895 14 := by rw [eU9, Xi_ne (by omega)]
              refine l_aload_n rfl rfl ?_
              refine l_gfr rfl rfl rfl rfl rfl ((hFU9 899 4 rfl).2.2.trans hru) ?_
              refine l_iconst rfl ?_
              refine l_aload_n rfl rfl ?_
              refine l_gfr rfl rfl rfl rfl rfl (hHU9.r 899 2 895 rfl) ?_
              refine l_gfi rfl rfl rfl rfl rfl ?_
              have w125 : 0 ≤ (Xi U9 895 14) ∧ (Xi U9 895 14) ≤ 5 := hHU9.c _ _
              refine l_iastore (n := 8) rfl (lay_248 (by omega)) (by omega) (by omega) (by unfold rg; omega) ?_
              obtain ⟨U10, eU10⟩ : ∃ T : sS, T = uI U9 (248 + ru) ((4 : Int).toNat) (Int32.ofInt (Xi U9 895 14)) := ⟨_, rfl⟩
              rw [← eU10]
              have hHU10 : HI U10 := by rw [eU10]; exact HI_w hHU9 (by rw [lh_ru4 (by omega)]; omega) (by rw [lh_ru4 (by omega)]; omega)
              have hFU10 : FR md_rr_actingOn S U10 := by rw [eU10]; exact FR.wI hFU9 (mdf_i (r := (248, 272, 0, 100000)) (List.mem_of_getElem? (i := 1) rfl) (inR_i (by omega) (by omega) (by omega) (by omega)))
              have w126 : Xi U10 (248 + ru) ((4 : Int).toNat) = (Xi U9 895 14) := by rw [eU10]; exact Xi_same (by unfold rg; omega)
              have rU10_1 : Xi U10 (248 + ru) 1 = Xi U9 (248 + ru) 1 := by rw [eU10, Xi_ne (by omega)]
              have rU10_2 : Xi U10 (248 + ru) 2 = Xi U9 (248 + ru) 2 := by rw [eU10, Xi_ne (by omega)]
              have rU10_3 : Xi U10 (248 + ru) 3 = Xi U9 (248 + ru) 3 := by rw [eU10, Xi_ne (by omega)]
              have rU10_4 : Xi U10 (248 + ru) 4 = (Xi U9 895 14) := by rw [eU10]; exact Xi_same (by unfold rg; omega)
              have rU10_5 : Xi U10 (248 + ru) 5 = Xi U9 (248 + ru) 5 := by rw [eU10, Xi_ne (by omega)]
              have rU10_6 : Xi U10 (248 + ru) 6 = Xi U9 (248 + ru) 6 := by rw [eU10, Xi_ne (by omega)]
              have rU10_7 : Xi U10 (248 + ru) 7 = Xi U9 (248 + ru) 7 := by rw [eU10, Xi_ne (by omega)]
              have n233 : 0 ≤ Xi S 19 (Xi U10 (248 + ru) 1).toNat := by rw [show Xi U10 (248 + ru) 1 = Xi U9 (248 + ru) 1 by omega]; exact n220
              have hM233 : MAD U10 := mad_ru eU10 (by omega) hM220
              have a233 : Xi U10 895 14 = Xi U9 895 14 := by rw [eU10, Xi_ne (by omega)]
              refine l_iconst rfl ?_
              refine l_istore rfl rfl rfl ?_
              have w127 : Xi U10 246 5 = Xi S 246 5 := (show Xi U10 246 5 = Xi U9 246 5 from by rw [eU10]; exact Xi_ne (by omega)).trans ( (show Xi U9 246 5 = Xi T8 246 5 from by rw [eU9]; exact Xi_ne (by omega)).trans ( (show Xi T8 246 5 = Xi U7 246 5 from w120.x _ _ rfl).trans ( (show Xi U7 246 5 = Xi T6 246 5 from by rw [eU7]; exact Xi_ne (by omega)).trans ( (show Xi T6 246 5 = Xi T5 246 5 from w98.x _ _ rfl).trans ((show Xi T5 246 5 = Xi S 246 5 from w82.x _ _ rfl))))))
              have w129 : Xi U10 5 8 = Xi S 5 8 := (show Xi U10 5 8 = Xi U9 5 8 from by rw [eU10]; exact Xi_ne (by omega)).trans ( (show Xi U9 5 8 = Xi T8 5 8 from by rw [eU9]; exact Xi_ne (by omega)).trans ( (show Xi T8 5 8 = Xi U7 5 8 from w120.x _ _ rfl).trans ( (show Xi U7 5 8 = Xi T6 5 8 from by rw [eU7]; exact Xi_ne (by omega)).trans ( (show Xi T6 5 8 = Xi T5 5 8 from w98.x _ _ rfl).trans ((show Xi T5 5 8 = Xi S 5 8 from w82.x _ _ rfl))))))
              have w131 : Xi U10 895 14 = Xi T8 895 14 := (show Xi U10 895 14 = Xi U9 895 14 from by rw [eU10]; exact Xi_ne (by omega)).trans ((show Xi U9 895 14 = Xi T8 895 14 from by rw [eU9]; exact Xi_ne (by omega)))
              have w132 : 0 ≤ Xi T8 895 14 ∧ Xi T8 895 14 ≤ 5 := hHT8.c _ _
              have w133 : Xi U10 899 5 = Xi S 899 5 := (show Xi U10 899 5 = Xi U9 899 5 from by rw [eU10]; exact Xi_ne (by omega)).trans ( (show Xi U9 899 5 = Xi T8 899 5 from by rw [eU9]; exact Xi_ne (by omega)).trans ( (show Xi T8 899 5 = Xi U7 899 5 from w120.x _ _ rfl).trans ( (show Xi U7 899 5 = Xi T6 899 5 from by rw [eU7]; exact Xi_ne (by omega)).trans ( (show Xi T6 899 5 = Xi T5 899 5 from w98.x _ _ rfl).trans ((show Xi T5 899 5 = Xi S 899 5 from w82.x _ _ rfl))))))
              exact Rl_weak (C237 _ U10 hHU10 hFU10 (0) (by omega) (by first | exact sG_n (n := 600) hH ((show FR md_rr_actingOn S U10 from by rw [eU10]; exact FR.wI (show FR md_rr_actingOn S U9 from by rw [eU9]; exact FR.wI (FR.tr (show FR md_rr_actingOn S U7 from by rw [eU7]; exact FR.wI (FR.tr (FR.tr FR.rf w82 rfl) w98 rfl) (mdf_i (r := (248, 272, 0, 100000)) (List.mem_of_getElem? (i := 1) rfl) (inR_i (by omega) (by omega) (by omega) (by omega)))) w120 rfl) (mdf_i (r := (248, 272, 0, 100000)) (List.mem_of_getElem? (i := 1) rfl) (inR_i (by omega) (by omega) (by omega) (by omega)))) (mdf_i (r := (248, 272, 0, 100000)) (List.mem_of_getElem? (i := 1) rfl) (inR_i (by omega) (by omega) (by omega) (by omega)))) : FR md_rr_actingOn S U10) rfl (kcl_o eU10 (by omega) (kcl_o eU9 (by omega) (kcl_f w120 rfl (kcl_o eU7 (by omega) (kcl_f w98 rfl (kcl_f w82 rfl KCL.rf)))))) (by omega) (by omega) | exact sG.tr hg237 (sG_n hH ((show FR md_rr_actingOn S U10 from by rw [eU10]; exact FR.wI (show FR md_rr_actingOn S U9 from by rw [eU9]; exact FR.wI (FR.tr (show FR md_rr_actingOn S U7 from by rw [eU7]; exact FR.wI (FR.tr (FR.tr FR.rf w82 rfl) w98 rfl) (mdf_i (r := (248, 272, 0, 100000)) (List.mem_of_getElem? (i := 1) rfl) (inR_i (by omega) (by omega) (by omega) (by omega)))) w120 rfl) (mdf_i (r := (248, 272, 0, 100000)) (List.mem_of_getElem? (i := 1) rfl) (inR_i (by omega) (by omega) (by omega) (by omega)))) (mdf_i (r := (248, 272, 0, 100000)) (List.mem_of_getElem? (i := 1) rfl) (inR_i (by omega) (by omega) (by omega) (by omega)))) : FR md_rr_actingOn S U10) rfl (kcl_o eU10 (by omega) (kcl_o eU9 (by omega) (kcl_f w120 rfl (kcl_o eU7 (by omega) (kcl_f w98 rfl (kcl_f w82 rfl KCL.rf)))))) (by omega) (by omega))) ((kru_w eU10 (kru_w eU9 (kru_f w120 rfl (kru_w eU7 (kru_f w98 rfl (kru_f w82 rfl KRU.rf))))))) (by omega) (by omega) (by omega) (by omega) (by omega) (by first | exact n288 | exact n233) (by first | exact hM288 | exact hM233) (by first | exact fun i hi => by omega | exact ts_s hH (sG_n hH ((show FR md_rr_actingOn S U10 from by rw [eU10]; exact FR.wI (show FR md_rr_actingOn S U9 from by rw [eU9]; exact FR.wI (FR.tr (show FR md_rr_actingOn S U7 from by rw [eU7]; exact FR.wI (FR.tr (FR.tr FR.rf w82 rfl) w98 rfl) (mdf_i (r := (248, 272, 0, 100000)) (List.mem_of_getElem? (i := 1) rfl) (inR_i (by omega) (by omega) (by omega) (by omega)))) w120 rfl) (mdf_i (r := (248, 272, 0, 100000)) (List.mem_of_getElem? (i := 1) rfl) (inR_i (by omega) (by omega) (by omega) (by omega)))) (mdf_i (r := (248, 272, 0, 100000)) (List.mem_of_getElem? (i := 1) rfl) (inR_i (by omega) (by omega) (by omega) (by omega)))) : FR md_rr_actingOn S U10) rfl (kcl_o eU10 (by omega) (kcl_o eU9 (by omega) (kcl_f w120 rfl (kcl_o eU7 (by omega) (kcl_f w98 rfl (kcl_f w82 rfl KCL.rf)))))) (by omega) (by omega)) ht237 (by omega) (by omega) (by omega) o288 (by omega)) rfl) (And.intro rfl (And.intro rfl (True.intro)))
          · refine l_aload_n rfl rfl ?_
            refine l_gfr rfl rfl rfl rfl rfl (hHT6.r 899 0 876 rfl) ?_
            refine l_iload rfl rfl ?_
            refine l_if_ne rfl rfl (by unfold rg; omega) (fun w135 => absurd w135 (by omega)) (fun w136 => ?_)
            · refine l_iload rfl rfl ?_
              refine l_if_le rfl rfl (by unfold rg; omega) (fun w137 => ?_) (fun w138 => ?_)
              · refine l_iconst rfl ?_
                refine l_iload rfl rfl ?_
                refine l_callV rfl rfl rfl (t_to_wrong hHT6 4 (to + 1) ⟨by omega, by omega⟩ ⟨by omega, by omega⟩ _) ?_
                rintro _ T11 ⟨hHT11, w150, z149, rfl, w149, w147, w148⟩
                have hFT11 : FR md_rr_actingOn S T11 := FR.tr hFT6 w150 rfl
                show Rl _ _ _ _ _ [iv z149] _ _
                have rT11_1 : Xi T11 (248 + ru) 1 = Xi T6 (248 + ru) 1 := FR_ru w150 rfl (by omega)
                have rT11_2 : Xi T11 (248 + ru) 2 = Xi T6 (248 + ru) 2 := FR_ru w150 rfl (by omega)
                have rT11_3 : Xi T11 (248 + ru) 3 = Xi T6 (248 + ru) 3 := FR_ru w150 rfl (by omega)
                have rT11_4 : Xi T11 (248 + ru) 4 = Xi T6 (248 + ru) 4 := FR_ru w150 rfl (by omega)
                have rT11_5 : Xi T11 (248 + ru) 5 = Xi T6 (248 + ru) 5 := FR_ru w150 rfl (by omega)
                have rT11_6 : Xi T11 (248 + ru) 6 = Xi T6 (248 + ru) 6 := FR_ru w150 rfl (by omega)
                have rT11_7 : Xi T11 (248 + ru) 7 = Xi T6 (248 + ru) 7 := FR_ru w150 rfl (by omega)
                refine l_ireturn rfl (retI_z (by omega)) ?_
                have w151 : Xi T11 246 5 = Xi S 246 5 := (show Xi T11 246 5 = Xi T6 246 5 from w150.x _ _ rfl).trans ( (show Xi T6 246 5 = Xi T5 246 5 from w98.x _ _ rfl).trans ((show Xi T5 246 5 = Xi S 246 5 from w82.x _ _ rfl)))
                have w153 : Xi T11 5 8 = Xi S 5 8 := (show Xi T11 5 8 = Xi T6 5 8 from w150.x _ _ rfl).trans ( (show Xi T6 5 8 = Xi T5 5 8 from w98.x _ _ rfl).trans ((show Xi T5 5 8 = Xi S 5 8 from w82.x _ _ rfl)))
                have w155 : 0 ≤ Xi T11 876 8 ∧ Xi T11 876 8 ≤ 9 := hHT11.c _ _
                have w156 : Xi T11 895 14 = Xi S 895 14 := (show Xi T11 895 14 = Xi T6 895 14 from w150.x _ _ rfl).trans ( (show Xi T6 895 14 = Xi T5 895 14 from w98.x _ _ rfl).trans ((show Xi T5 895 14 = Xi S 895 14 from w82.x _ _ rfl)))
                have w158 : Xi T11 899 5 = Xi S 899 5 := (show Xi T11 899 5 = Xi T6 899 5 from w150.x _ _ rfl).trans ( (show Xi T6 899 5 = Xi T5 899 5 from w98.x _ _ rfl).trans ((show Xi T5 899 5 = Xi S 899 5 from w82.x _ _ rfl)))
                exact ⟨hHT11, hFT11, _, rfl, ⟨by omega, by omega⟩, ((kru_f w150 rfl (kru_f w98 rfl (kru_f w82 rfl KRU.rf)))), (fun q => by first | (exfalso; omega) | exact hg237 | exact sG_n (n := 600) hH hFT11 rfl (kcl_f w150 rfl (kcl_f w98 rfl (kcl_f w82 rfl KCL.rf))) (by omega) (by omega)), (fun q => by have e58 : Xi T11 5 8 = Xi S 5 8 := hFT11.x 5 8 rfl; omega), (fun q => by first | (exfalso; omega) | (rw [(hFT11.cx 19 rfl _).1]; first | exact hn237 | exact n195)), (by omega), (by omega), (fun q => by first | (exfalso; omega) | (intro i hi; exact ht237 i (by omega)) | (intro i hi; exfalso; omega)), (fun q => by first | omega | (exfalso; omega))⟩
              · refine l_bipush rfl rfl ?_
                refine l_goto rfl rfl ?_
                refine l_iload rfl rfl ?_
                refine l_callV rfl rfl rfl (t_to_wrong hHT6 7 (to + 1) ⟨by omega, by omega⟩ ⟨by omega, by omega⟩ _) ?_
                rintro _ T12 ⟨hHT12, w171, z170, rfl, w170, w168, w169⟩
                have hFT12 : FR md_rr_actingOn S T12 := FR.tr hFT6 w171 rfl
                show Rl _ _ _ _ _ [iv z170] _ _
                have rT12_1 : Xi T12 (248 + ru) 1 = Xi T6 (248 + ru) 1 := FR_ru w171 rfl (by omega)
                have rT12_2 : Xi T12 (248 + ru) 2 = Xi T6 (248 + ru) 2 := FR_ru w171 rfl (by omega)
                have rT12_3 : Xi T12 (248 + ru) 3 = Xi T6 (248 + ru) 3 := FR_ru w171 rfl (by omega)
                have rT12_4 : Xi T12 (248 + ru) 4 = Xi T6 (248 + ru) 4 := FR_ru w171 rfl (by omega)
                have rT12_5 : Xi T12 (248 + ru) 5 = Xi T6 (248 + ru) 5 := FR_ru w171 rfl (by omega)
                have rT12_6 : Xi T12 (248 + ru) 6 = Xi T6 (248 + ru) 6 := FR_ru w171 rfl (by omega)
                have rT12_7 : Xi T12 (248 + ru) 7 = Xi T6 (248 + ru) 7 := FR_ru w171 rfl (by omega)
                refine l_ireturn rfl (retI_z (by omega)) ?_
                have w172 : Xi T12 246 5 = Xi S 246 5 := (show Xi T12 246 5 = Xi T6 246 5 from w171.x _ _ rfl).trans ( (show Xi T6 246 5 = Xi T5 246 5 from w98.x _ _ rfl).trans ((show Xi T5 246 5 = Xi S 246 5 from w82.x _ _ rfl)))
                have w174 : Xi T12 5 8 = Xi S 5 8 := (show Xi T12 5 8 = Xi T6 5 8 from w171.x _ _ rfl).trans ( (show Xi T6 5 8 = Xi T5 5 8 from w98.x _ _ rfl).trans ((show Xi T5 5 8 = Xi S 5 8 from w82.x _ _ rfl)))
                have w176 : 0 ≤ Xi T12 876 8 ∧ Xi T12 876 8 ≤ 9 := hHT12.c _ _
                have w177 : Xi T12 895 14 = Xi S 895 14 := (show Xi T12 895 14 = Xi T6 895 14 from w171.x _ _ rfl).trans ( (show Xi T6 895 14 = Xi T5 895 14 from w98.x _ _ rfl).trans ((show Xi T5 895 14 = Xi S 895 14 from w82.x _ _ rfl)))
                have w179 : Xi T12 899 5 = Xi S 899 5 := (show Xi T12 899 5 = Xi T6 899 5 from w171.x _ _ rfl).trans ( (show Xi T6 899 5 = Xi T5 899 5 from w98.x _ _ rfl).trans ((show Xi T5 899 5 = Xi S 899 5 from w82.x _ _ rfl)))
                exact ⟨hHT12, hFT12, _, rfl, ⟨by omega, by omega⟩, ((kru_f w171 rfl (kru_f w98 rfl (kru_f w82 rfl KRU.rf)))), (fun q => by first | (exfalso; omega) | exact hg237 | exact sG_n (n := 600) hH hFT12 rfl (kcl_f w171 rfl (kcl_f w98 rfl (kcl_f w82 rfl KCL.rf))) (by omega) (by omega)), (fun q => by have e58 : Xi T12 5 8 = Xi S 5 8 := hFT12.x 5 8 rfl; omega), (fun q => by first | (exfalso; omega) | (rw [(hFT12.cx 19 rfl _).1]; first | exact hn237 | exact n195)), (by omega), (by omega), (fun q => by first | (exfalso; omega) | (intro i hi; exact ht237 i (by omega)) | (intro i hi; exfalso; omega)), (fun q => by first | omega | (exfalso; omega))⟩
      · refine l_aload_n rfl rfl ?_
        refine l_gfr rfl rfl rfl rfl rfl (hHT5.r 899 1 1 rfl) ?_
        refine l_aload_n rfl rfl ?_
        refine l_gfr rfl rfl rfl rfl rfl (hHT5.r 899 2 895 rfl) ?_
        refine l_gfi rfl rfl rfl rfl rfl ?_
        have w181 : -1 ≤ (Xi T5 895 6) ∧ (Xi T5 895 6) ≤ 15 := hHT5.c _ _
        refine l_iload rfl rfl ?_
        refine l_callV rfl rfl rfl (t_vo_isKind hHT5 (Xi T5 895 6) (Xi S 19 ((z65).toNat)) ⟨by omega, by omega⟩ ⟨by omega, by omega⟩ _) ?_
        rintro _ _ ⟨rfl, z191, rfl, w191, w190⟩
        show Rl _ _ _ _ _ [iv z191] _ _
        refine l_if_eq rfl rfl (by unfold rg; omega) (fun w192 => ?_) (fun w193 => ?_)
        · refine l_iconst rfl ?_
          refine l_istore rfl rfl rfl ?_
          refine l_aload_n rfl rfl ?_
          refine l_gfr rfl rfl rfl rfl rfl (hHT5.r 899 2 895 rfl) ?_
          refine l_iload rfl rfl ?_
          refine l_aload_n rfl rfl ?_
          refine l_gfi rfl rfl rfl rfl rfl ?_
          have w194 : (Xi T5 899 5) = (Xi S 899 5) := (show Xi T5 899 5 = Xi S 899 5 from w82.x _ _ rfl)
          rw [w194]
          refine l_iconst rfl ?_
          refine l_iconst rfl ?_
          refine l_iload rfl rfl ?_
          have w201 : Xi T5 899 5 = Xi S 899 5 := (show Xi T5 899 5 = Xi S 899 5 from w82.x _ _ rfl)
          refine l_callV rfl rfl rfl (t_me_countReadings hHT5 (to + 1) (Xi S 899 5) 0 1 (Xi S 19 ((z65).toNat)) ⟨by omega, by omega⟩ ⟨by omega, by omega⟩ ⟨by omega, by omega⟩ ⟨by omega, by omega⟩ ⟨by omega, by omega⟩ (by first | assumption | exact (LEX_FR hFT5 rfl rfl (by assumption : LEX S))) _) ?_
          rintro _ T13 ⟨hHT13, w206, z205, rfl, w205, w203, w204⟩
          have hFT13 : FR md_rr_actingOn S T13 := FR.tr hFT5 w206 rfl
          show Rl _ _ _ _ _ [iv z205] _ _
          have rT13_1 : Xi T13 (248 + ru) 1 = Xi T5 (248 + ru) 1 := FR_ru w206 rfl (by omega)
          have rT13_2 : Xi T13 (248 + ru) 2 = Xi T5 (248 + ru) 2 := FR_ru w206 rfl (by omega)
          have rT13_3 : Xi T13 (248 + ru) 3 = Xi T5 (248 + ru) 3 := FR_ru w206 rfl (by omega)
          have rT13_4 : Xi T13 (248 + ru) 4 = Xi T5 (248 + ru) 4 := FR_ru w206 rfl (by omega)
          have rT13_5 : Xi T13 (248 + ru) 5 = Xi T5 (248 + ru) 5 := FR_ru w206 rfl (by omega)
          have rT13_6 : Xi T13 (248 + ru) 6 = Xi T5 (248 + ru) 6 := FR_ru w206 rfl (by omega)
          have rT13_7 : Xi T13 (248 + ru) 7 = Xi T5 (248 + ru) 7 := FR_ru w206 rfl (by omega)
          have e123 : z205 ≠ 0 → 0 < cpF S (Xi T13 895 12) (to + 1) (Xi T13 895 13) 1 := fun q => by rw [← cpF_FR hFT5 rfl]; exact (by assumption : z205 ≠ 0 → 0 < cpF T5 (Xi T13 895 12) (to + 1) (Xi T13 895 13) 1) q
          refine l_istore rfl rfl rfl ?_
          refine l_iload rfl rfl ?_
          refine l_iload rfl rfl ?_
          refine l_if_eq rfl rfl (by unfold rg; omega) (fun w207 => ?_) (fun w208 => absurd w208 (by omega))
          · refine l_iconst rfl ?_
            refine l_iadd rfl ?_
            refine l_iconst rfl ?_
            refine l_icmp_eq rfl rfl (by unfold rg; omega) (by unfold rg; omega) (fun w209 => ?_) (fun w210 => ?_)
            · refine l_aload_n rfl rfl ?_
              refine l_gfr rfl rfl rfl rfl rfl ((hFT13 899 4 rfl).2.2.trans hru) ?_
              refine l_iconst rfl ?_
              refine l_iload_n rfl rfl ?_
              refine l_iastore (n := 8) rfl (lay_248 (by omega)) (by omega) (by omega) (by unfold rg; omega) ?_
              obtain ⟨U14, eU14⟩ : ∃ T : sS, T = uI T13 (248 + ru) ((1 : Int).toNat) (Int32.ofInt z65) := ⟨_, rfl⟩
              rw [← eU14]
              have hHU14 : HI U14 := by rw [eU14]; exact HI_w hHT13 (by rw [lh_ru1 (by omega)]; omega) (by rw [lh_ru1 (by omega)]; omega)
              have hFU14 : FR md_rr_actingOn S U14 := by rw [eU14]; exact FR.wI hFT13 (mdf_i (r := (248, 272, 0, 100000)) (List.mem_of_getElem? (i := 1) rfl) (inR_i (by omega) (by omega) (by omega) (by omega)))
              have w212 : Xi U14 (248 + ru) ((1 : Int).toNat) = z65 := by rw [eU14]; exact Xi_same (by unfold rg; omega)
              have rU14_1 : Xi U14 (248 + ru) 1 = z65 := by rw [eU14]; exact Xi_same (by unfold rg; omega)
              have rU14_2 : Xi U14 (248 + ru) 2 = Xi T13 (248 + ru) 2 := by rw [eU14, Xi_ne (by omega)]
              have rU14_3 : Xi U14 (248 + ru) 3 = Xi T13 (248 + ru) 3 := by rw [eU14, Xi_ne (by omega)]
              have rU14_4 : Xi U14 (248 + ru) 4 = Xi T13 (248 + ru) 4 := by rw [eU14, Xi_ne (by omega)]
              have rU14_5 : Xi U14 (248 + ru) 5 = Xi T13 (248 + ru) 5 := by rw [eU14, Xi_ne (by omega)]
              have rU14_6 : Xi U14 (248 + ru) 6 = Xi T13 (248 + ru) 6 := by rw [eU14, Xi_ne (by omega)]
              have rU14_7 : Xi U14 (248 + ru) 7 = Xi T13 (248 + ru) 7 := by rw [eU14, Xi_ne (by omega)]
              have k177 : Xi U14 895 12 = Xi T13 895 12 ∧ Xi U14 895 13 = Xi T13 895 13 := ⟨by rw [eU14, Xi_ne (by omega)], by rw [eU14, Xi_ne (by omega)]⟩
              have f177 : Xi U14 5 8 = Xi S 5 8 := hFU14.x 5 8 rfl
              have n177 : 0 ≤ Xi S 19 (Xi U14 (248 + ru) 1).toNat := by rw [show Xi U14 (248 + ru) 1 = z65 by omega]; omega
              refine l_iload rfl rfl ?_
              refine l_if_eq rfl rfl (by unfold rg; omega) (fun w213 => ?_) (fun w214 => absurd w214 (by omega))
              · refine l_aload_n rfl rfl ?_
                refine l_gfr rfl rfl rfl rfl rfl (hHU14.r 899 2 895 rfl) ?_
                refine l_iload rfl rfl ?_
                refine l_iconst rfl ?_
                have w215 : Xi U14 246 5 = Xi S 246 5 := (show Xi U14 246 5 = Xi T13 246 5 from by rw [eU14]; exact Xi_ne (by omega)).trans ( (show Xi T13 246 5 = Xi T5 246 5 from w206.x _ _ rfl).trans ((show Xi T5 246 5 = Xi S 246 5 from w82.x _ _ rfl)))
                have w217 : Xi U14 5 8 = Xi S 5 8 := (show Xi U14 5 8 = Xi T13 5 8 from by rw [eU14]; exact Xi_ne (by omega)).trans ( (show Xi T13 5 8 = Xi T5 5 8 from w206.x _ _ rfl).trans ((show Xi T5 5 8 = Xi S 5 8 from w82.x _ _ rfl)))
                have w219 : Xi U14 895 12 = Xi T13 895 12 := (show Xi U14 895 12 = Xi T13 895 12 from by rw [eU14]; exact Xi_ne (by omega))
                have w220 : 0 ≤ Xi T13 895 12 ∧ Xi T13 895 12 ≤ 15 := hHT13.c _ _
                have w221 : Xi U14 895 13 = Xi T13 895 13 := (show Xi U14 895 13 = Xi T13 895 13 from by rw [eU14]; exact Xi_ne (by omega))
                have w222 : Xi U14 895 14 = Xi S 895 14 := (show Xi U14 895 14 = Xi T13 895 14 from by rw [eU14]; exact Xi_ne (by omega)).trans ( (show Xi T13 895 14 = Xi T5 895 14 from w206.x _ _ rfl).trans ((show Xi T5 895 14 = Xi S 895 14 from w82.x _ _ rfl)))
                have w224 : Xi U14 899 5 = Xi S 899 5 := (show Xi U14 899 5 = Xi T13 899 5 from by rw [eU14]; exact Xi_ne (by omega)).trans ( (show Xi T13 899 5 = Xi T5 899 5 from w206.x _ _ rfl).trans ((show Xi T5 899 5 = Xi S 899 5 from w82.x _ _ rfl)))
                refine l_callV rfl rfl rfl (t_me_keepReading hHU14 (to + 1) 1 ⟨by omega, by omega⟩ ⟨by omega, by omega⟩ (by first | assumption | exact (LEX_FR hFU14 rfl rfl (by assumption : LEX S))) (by first | assumption | omega) (by rw [cpF_FR hFU14 rfl, k177.1, k177.2]; exact e123 (by omega)) _) ?_
                rintro _ T15 ⟨hHT15, w228, rfl, w226⟩
                have hFT15 : FR md_rr_actingOn S T15 := FR.tr hFU14 w228 rfl
                show Rl _ _ _ _ _ [] _ _
                have rT15_1 : Xi T15 (248 + ru) 1 = Xi U14 (248 + ru) 1 := FR_ru w228 rfl (by omega)
                have rT15_2 : Xi T15 (248 + ru) 2 = Xi U14 (248 + ru) 2 := FR_ru w228 rfl (by omega)
                have rT15_3 : Xi T15 (248 + ru) 3 = Xi U14 (248 + ru) 3 := FR_ru w228 rfl (by omega)
                have rT15_4 : Xi T15 (248 + ru) 4 = Xi U14 (248 + ru) 4 := FR_ru w228 rfl (by omega)
                have rT15_5 : Xi T15 (248 + ru) 5 = Xi U14 (248 + ru) 5 := FR_ru w228 rfl (by omega)
                have rT15_6 : Xi T15 (248 + ru) 6 = Xi U14 (248 + ru) 6 := FR_ru w228 rfl (by omega)
                have rT15_7 : Xi T15 (248 + ru) 7 = Xi U14 (248 + ru) 7 := FR_ru w228 rfl (by omega)
                have n205 : 0 ≤ Xi S 19 (Xi T15 (248 + ru) 1).toNat := by rw [show Xi T15 (248 + ru) 1 = Xi U14 (248 + ru) 1 by omega]; exact n177
                have hM205 : MAD T15 := by assumption
                refine l_aload_n rfl rfl ?_
                refine l_gfr rfl rfl rfl rfl rfl ((hFT15 899 4 rfl).2.2.trans hru) ?_
                refine l_iconst rfl ?_
                refine l_aload_n rfl rfl ?_
                refine l_gfr rfl rfl rfl rfl rfl (hHT15.r 899 2 895 rfl) ?_
                refine l_gfi rfl rfl rfl rfl rfl ?_
                have w230 : 0 ≤ (Xi T15 895 12) ∧ (Xi T15 895 12) ≤ 15 := hHT15.c _ _
                refine l_iastore (n := 8) rfl (lay_248 (by omega)) (by omega) (by omega) (by unfold rg; omega) ?_
                obtain ⟨U16, eU16⟩ : ∃ T : sS, T = uI T15 (248 + ru) ((3 : Int).toNat) (Int32.ofInt (Xi T15 895 12)) := ⟨_, rfl⟩
                rw [← eU16]
                have hHU16 : HI U16 := by rw [eU16]; exact HI_w hHT15 (by rw [lh_ru3 (by omega)]; omega) (by rw [lh_ru3 (by omega)]; omega)
                have hFU16 : FR md_rr_actingOn S U16 := by rw [eU16]; exact FR.wI hFT15 (mdf_i (r := (248, 272, 0, 100000)) (List.mem_of_getElem? (i := 1) rfl) (inR_i (by omega) (by omega) (by omega) (by omega)))
                have w231 : Xi U16 (248 + ru) ((3 : Int).toNat) = (Xi T15 895 12) := by rw [eU16]; exact Xi_same (by unfold rg; omega)
                have rU16_1 : Xi U16 (248 + ru) 1 = Xi T15 (248 + ru) 1 := by rw [eU16, Xi_ne (by omega)]
                have rU16_2 : Xi U16 (248 + ru) 2 = Xi T15 (248 + ru) 2 := by rw [eU16, Xi_ne (by omega)]
                have rU16_3 : Xi U16 (248 + ru) 3 = (Xi T15 895 12) := by rw [eU16]; exact Xi_same (by unfold rg; omega)
                have rU16_4 : Xi U16 (248 + ru) 4 = Xi T15 (248 + ru) 4 := by rw [eU16, Xi_ne (by omega)]
                have rU16_5 : Xi U16 (248 + ru) 5 = Xi T15 (248 + ru) 5 := by rw [eU16, Xi_ne (by omega)]
                have rU16_6 : Xi U16 (248 + ru) 6 = Xi T15 (248 + ru) 6 := by rw [eU16, Xi_ne (by omega)]
                have rU16_7 : Xi U16 (248 + ru) 7 = Xi T15 (248 + ru) 7 := by rw [eU16, Xi_ne (by omega)]
                have n220 : 0 ≤ Xi S 19 (Xi U16 (248 + ru) 1).toNat := by rw [show Xi U16 (248 + ru) 1 = Xi T15 (248 + ru) 1 by omega]; exact n205
                have hM220 : MAD U16 := mad_ru eU16 (by omega) hM205
                have a220 : Xi U16 895 14 = Xi T15 895 14 := by rw [eU16, Xi_ne (by omega)]
                refine l_aload_n rfl rfl ?_
                refine l_gfr rfl rfl rfl rfl rfl ((hFU16 899 4 rfl).2.2.trans hru) ?_
                refine l_iconst rfl ?_
                refine l_aload_n rfl rfl ?_
                refine l_gfr rfl rfl rfl rfl rfl (hHU16.r 899 2 895 rfl) ?_
                refine l_gfi rfl rfl rfl rfl rfl ?_
                have w233 : 0 ≤ (Xi U16 895 14) ∧ (Xi U16 895 14) ≤ 5 := hHU16.c _ _
                refine l_iastore (n := 8) rfl (lay_248 (by omega)) (by omega) (by omega) (by unfold rg; omega) ?_
                obtain ⟨U17, eU17⟩ : ∃ T : sS, T = uI U16 (248 + ru) ((4 : Int).toNat) (Int32.ofInt (Xi U16 895 14)) := ⟨_, rfl⟩
                rw [← eU17]
                have hHU17 : HI U17 := by rw [eU17]; exact HI_w hHU16 (by rw [lh_ru4 (by omega)]; omega) (by rw [lh_ru4 (by omega)]; omega)
                have hFU17 : FR md_rr_actingOn S U17 := by rw [eU17]; exact FR.wI hFU16 (mdf_i (r := (248, 272, 0, 100000)) (List.mem_of_getElem? (i := 1) rfl) (inR_i (by omega) (by omega) (by omega) (by omega)))
                have w234 : Xi U17 (248 + ru) ((4 : Int).toNat) = (Xi U16 895 14) := by rw [eU17]; exact Xi_same (by unfold rg; omega)
                have rU17_1 : Xi U17 (248 + ru) 1 = Xi U16 (248 + ru) 1 := by rw [eU17, Xi_ne (by omega)]
                have rU17_2 : Xi U17 (248 + ru) 2 = Xi U16 (248 + ru) 2 := by rw [eU17, Xi_ne (by omega)]
                have rU17_3 : Xi U17 (248 + ru) 3 = Xi U16 (248 + ru) 3 := by rw [eU17, Xi_ne (by omega)]
                have rU17_4 : Xi U17 (248 + ru) 4 = (Xi U16 895 14) := by rw [eU17]; exact Xi_same (by unfold rg; omega)
                have rU17_5 : Xi U17 (248 + ru) 5 = Xi U16 (248 + ru) 5 := by rw [eU17, Xi_ne (by omega)]
                have rU17_6 : Xi U17 (248 + ru) 6 = Xi U16 (248 + ru) 6 := by rw [eU17, Xi_ne (by omega)]
                have rU17_7 : Xi U17 (248 + ru) 7 = Xi U16 (248 + ru) 7 := by rw [eU17, Xi_ne (by omega)]
                have n233 : 0 ≤ Xi S 19 (Xi U17 (248 + ru) 1).toNat := by rw [show Xi U17 (248 + ru) 1 = Xi U16 (248 + ru) 1 by omega]; exact n220
                have hM233 : MAD U17 := mad_ru eU17 (by omega) hM220
                have a233 : Xi U17 895 14 = Xi U16 895 14 := by rw [eU17, Xi_ne (by omega)]
                refine l_iconst rfl ?_
                refine l_istore rfl rfl rfl ?_
                have w235 : Xi U17 246 5 = Xi S 246 5 := (show Xi U17 246 5 = Xi U16 246 5 from by rw [eU17]; exact Xi_ne (by omega)).trans ( (show Xi U16 246 5 = Xi T15 246 5 from by rw [eU16]; exact Xi_ne (by omega)).trans ( (show Xi T15 246 5 = Xi U14 246 5 from w228.x _ _ rfl).trans ( (show Xi U14 246 5 = Xi T13 246 5 from by rw [eU14]; exact Xi_ne (by omega)).trans ( (show Xi T13 246 5 = Xi T5 246 5 from w206.x _ _ rfl).trans ((show Xi T5 246 5 = Xi S 246 5 from w82.x _ _ rfl))))))
                have w237 : Xi U17 5 8 = Xi S 5 8 := (show Xi U17 5 8 = Xi U16 5 8 from by rw [eU17]; exact Xi_ne (by omega)).trans ( (show Xi U16 5 8 = Xi T15 5 8 from by rw [eU16]; exact Xi_ne (by omega)).trans ( (show Xi T15 5 8 = Xi U14 5 8 from w228.x _ _ rfl).trans ( (show Xi U14 5 8 = Xi T13 5 8 from by rw [eU14]; exact Xi_ne (by omega)).trans ( (show Xi T13 5 8 = Xi T5 5 8 from w206.x _ _ rfl).trans ((show Xi T5 5 8 = Xi S 5 8 from w82.x _ _ rfl))))))
                have w239 : Xi U17 895 14 = Xi T15 895 14 := (show Xi U17 895 14 = Xi U16 895 14 from by rw [eU17]; exact Xi_ne (by omega)).trans ((show Xi U16 895 14 = Xi T15 895 14 from by rw [eU16]; exact Xi_ne (by omega)))
                have w240 : 0 ≤ Xi T15 895 14 ∧ Xi T15 895 14 ≤ 5 := hHT15.c _ _
                have w241 : Xi U17 899 5 = Xi S 899 5 := (show Xi U17 899 5 = Xi U16 899 5 from by rw [eU17]; exact Xi_ne (by omega)).trans ( (show Xi U16 899 5 = Xi T15 899 5 from by rw [eU16]; exact Xi_ne (by omega)).trans ( (show Xi T15 899 5 = Xi U14 899 5 from w228.x _ _ rfl).trans ( (show Xi U14 899 5 = Xi T13 899 5 from by rw [eU14]; exact Xi_ne (by omega)).trans ( (show Xi T13 899 5 = Xi T5 899 5 from w206.x _ _ rfl).trans ((show Xi T5 899 5 = Xi S 899 5 from w82.x _ _ rfl))))))
                exact Rl_weak (C237 _ U17 hHU17 hFU17 (0) (by omega) (by first | exact sG_n (n := 600) hH ((show FR md_rr_actingOn S U17 from by rw [eU17]; exact FR.wI (show FR md_rr_actingOn S U16 from by rw [eU16]; exact FR.wI (FR.tr (show FR md_rr_actingOn S U14 from by rw [eU14]; exact FR.wI (FR.tr (FR.tr FR.rf w82 rfl) w206 rfl) (mdf_i (r := (248, 272, 0, 100000)) (List.mem_of_getElem? (i := 1) rfl) (inR_i (by omega) (by omega) (by omega) (by omega)))) w228 rfl) (mdf_i (r := (248, 272, 0, 100000)) (List.mem_of_getElem? (i := 1) rfl) (inR_i (by omega) (by omega) (by omega) (by omega)))) (mdf_i (r := (248, 272, 0, 100000)) (List.mem_of_getElem? (i := 1) rfl) (inR_i (by omega) (by omega) (by omega) (by omega)))) : FR md_rr_actingOn S U17) rfl (kcl_o eU17 (by omega) (kcl_o eU16 (by omega) (kcl_f w228 rfl (kcl_o eU14 (by omega) (kcl_f w206 rfl (kcl_f w82 rfl KCL.rf)))))) (by omega) (by omega) | exact sG.tr hg237 (sG_n hH ((show FR md_rr_actingOn S U17 from by rw [eU17]; exact FR.wI (show FR md_rr_actingOn S U16 from by rw [eU16]; exact FR.wI (FR.tr (show FR md_rr_actingOn S U14 from by rw [eU14]; exact FR.wI (FR.tr (FR.tr FR.rf w82 rfl) w206 rfl) (mdf_i (r := (248, 272, 0, 100000)) (List.mem_of_getElem? (i := 1) rfl) (inR_i (by omega) (by omega) (by omega) (by omega)))) w228 rfl) (mdf_i (r := (248, 272, 0, 100000)) (List.mem_of_getElem? (i := 1) rfl) (inR_i (by omega) (by omega) (by omega) (by omega)))) (mdf_i (r := (248, 272, 0, 100000)) (List.mem_of_getElem? (i := 1) rfl) (inR_i (by omega) (by omega) (by omega) (by omega)))) : FR md_rr_actingOn S U17) rfl (kcl_o eU17 (by omega) (kcl_o eU16 (by omega) (kcl_f w228 rfl (kcl_o eU14 (by omega) (kcl_f w206 rfl (kcl_f w82 rfl KCL.rf)))))) (by omega) (by omega))) ((kru_w eU17 (kru_w eU16 (kru_f w228 rfl (kru_w eU14 (kru_f w206 rfl (kru_f w82 rfl KRU.rf))))))) (by omega) (by omega) (by omega) (by omega) (by omega) (by first | exact n288 | exact n233) (by first | exact hM288 | exact hM233) (by first | exact fun i hi => by omega | exact ts_s hH (sG_n hH ((show FR md_rr_actingOn S U17 from by rw [eU17]; exact FR.wI (show FR md_rr_actingOn S U16 from by rw [eU16]; exact FR.wI (FR.tr (show FR md_rr_actingOn S U14 from by rw [eU14]; exact FR.wI (FR.tr (FR.tr FR.rf w82 rfl) w206 rfl) (mdf_i (r := (248, 272, 0, 100000)) (List.mem_of_getElem? (i := 1) rfl) (inR_i (by omega) (by omega) (by omega) (by omega)))) w228 rfl) (mdf_i (r := (248, 272, 0, 100000)) (List.mem_of_getElem? (i := 1) rfl) (inR_i (by omega) (by omega) (by omega) (by omega)))) (mdf_i (r := (248, 272, 0, 100000)) (List.mem_of_getElem? (i := 1) rfl) (inR_i (by omega) (by omega) (by omega) (by omega)))) : FR md_rr_actingOn S U17) rfl (kcl_o eU17 (by omega) (kcl_o eU16 (by omega) (kcl_f w228 rfl (kcl_o eU14 (by omega) (kcl_f w206 rfl (kcl_f w82 rfl KCL.rf)))))) (by omega) (by omega)) ht237 (by omega) (by omega) (by omega) o288 (by omega)) rfl) (And.intro rfl (And.intro rfl (True.intro)))
            · refine l_aload_n rfl rfl ?_
              refine l_gfr rfl rfl rfl rfl rfl (hHT13.r 899 0 876 rfl) ?_
              refine l_iload rfl rfl ?_
              refine l_if_ne rfl rfl (by unfold rg; omega) (fun w243 => absurd w243 (by omega)) (fun w244 => ?_)
              · refine l_iload rfl rfl ?_
                refine l_if_le rfl rfl (by unfold rg; omega) (fun w245 => ?_) (fun w246 => ?_)
                · refine l_iconst rfl ?_
                  refine l_iload rfl rfl ?_
                  refine l_callV rfl rfl rfl (t_to_wrong hHT13 4 (to + 1) ⟨by omega, by omega⟩ ⟨by omega, by omega⟩ _) ?_
                  rintro _ T18 ⟨hHT18, w258, z257, rfl, w257, w255, w256⟩
                  have hFT18 : FR md_rr_actingOn S T18 := FR.tr hFT13 w258 rfl
                  show Rl _ _ _ _ _ [iv z257] _ _
                  have rT18_1 : Xi T18 (248 + ru) 1 = Xi T13 (248 + ru) 1 := FR_ru w258 rfl (by omega)
                  have rT18_2 : Xi T18 (248 + ru) 2 = Xi T13 (248 + ru) 2 := FR_ru w258 rfl (by omega)
                  have rT18_3 : Xi T18 (248 + ru) 3 = Xi T13 (248 + ru) 3 := FR_ru w258 rfl (by omega)
                  have rT18_4 : Xi T18 (248 + ru) 4 = Xi T13 (248 + ru) 4 := FR_ru w258 rfl (by omega)
                  have rT18_5 : Xi T18 (248 + ru) 5 = Xi T13 (248 + ru) 5 := FR_ru w258 rfl (by omega)
                  have rT18_6 : Xi T18 (248 + ru) 6 = Xi T13 (248 + ru) 6 := FR_ru w258 rfl (by omega)
                  have rT18_7 : Xi T18 (248 + ru) 7 = Xi T13 (248 + ru) 7 := FR_ru w258 rfl (by omega)
                  refine l_ireturn rfl (retI_z (by omega)) ?_
                  have w259 : Xi T18 246 5 = Xi S 246 5 := (show Xi T18 246 5 = Xi T13 246 5 from w258.x _ _ rfl).trans ( (show Xi T13 246 5 = Xi T5 246 5 from w206.x _ _ rfl).trans ((show Xi T5 246 5 = Xi S 246 5 from w82.x _ _ rfl)))
                  have w261 : Xi T18 5 8 = Xi S 5 8 := (show Xi T18 5 8 = Xi T13 5 8 from w258.x _ _ rfl).trans ( (show Xi T13 5 8 = Xi T5 5 8 from w206.x _ _ rfl).trans ((show Xi T5 5 8 = Xi S 5 8 from w82.x _ _ rfl)))
                  have w263 : 0 ≤ Xi T18 876 8 ∧ Xi T18 876 8 ≤ 9 := hHT18.c _ _
                  have w264 : Xi T18 895 14 = Xi S 895 14 := (show Xi T18 895 14 = Xi T13 895 14 from w258.x _ _ rfl).trans ( (show Xi T13 895 14 = Xi T5 895 14 from w206.x _ _ rfl).trans ((show Xi T5 895 14 = Xi S 895 14 from w82.x _ _ rfl)))
                  have w266 : Xi T18 899 5 = Xi S 899 5 := (show Xi T18 899 5 = Xi T13 899 5 from w258.x _ _ rfl).trans ( (show Xi T13 899 5 = Xi T5 899 5 from w206.x _ _ rfl).trans ((show Xi T5 899 5 = Xi S 899 5 from w82.x _ _ rfl)))
                  exact ⟨hHT18, hFT18, _, rfl, ⟨by omega, by omega⟩, ((kru_f w258 rfl (kru_f w206 rfl (kru_f w82 rfl KRU.rf)))), (fun q => by first | (exfalso; omega) | exact hg237 | exact sG_n (n := 600) hH hFT18 rfl (kcl_f w258 rfl (kcl_f w206 rfl (kcl_f w82 rfl KCL.rf))) (by omega) (by omega)), (fun q => by have e58 : Xi T18 5 8 = Xi S 5 8 := hFT18.x 5 8 rfl; omega), (fun q => by first | (exfalso; omega) | (rw [(hFT18.cx 19 rfl _).1]; first | exact hn237 | exact n195)), (by omega), (by omega), (fun q => by first | (exfalso; omega) | (intro i hi; exact ht237 i (by omega)) | (intro i hi; exfalso; omega)), (fun q => by first | omega | (exfalso; omega))⟩
                · refine l_bipush rfl rfl ?_
                  refine l_goto rfl rfl ?_
                  refine l_iload rfl rfl ?_
                  refine l_callV rfl rfl rfl (t_to_wrong hHT13 7 (to + 1) ⟨by omega, by omega⟩ ⟨by omega, by omega⟩ _) ?_
                  rintro _ T19 ⟨hHT19, w279, z278, rfl, w278, w276, w277⟩
                  have hFT19 : FR md_rr_actingOn S T19 := FR.tr hFT13 w279 rfl
                  show Rl _ _ _ _ _ [iv z278] _ _
                  have rT19_1 : Xi T19 (248 + ru) 1 = Xi T13 (248 + ru) 1 := FR_ru w279 rfl (by omega)
                  have rT19_2 : Xi T19 (248 + ru) 2 = Xi T13 (248 + ru) 2 := FR_ru w279 rfl (by omega)
                  have rT19_3 : Xi T19 (248 + ru) 3 = Xi T13 (248 + ru) 3 := FR_ru w279 rfl (by omega)
                  have rT19_4 : Xi T19 (248 + ru) 4 = Xi T13 (248 + ru) 4 := FR_ru w279 rfl (by omega)
                  have rT19_5 : Xi T19 (248 + ru) 5 = Xi T13 (248 + ru) 5 := FR_ru w279 rfl (by omega)
                  have rT19_6 : Xi T19 (248 + ru) 6 = Xi T13 (248 + ru) 6 := FR_ru w279 rfl (by omega)
                  have rT19_7 : Xi T19 (248 + ru) 7 = Xi T13 (248 + ru) 7 := FR_ru w279 rfl (by omega)
                  refine l_ireturn rfl (retI_z (by omega)) ?_
                  have w280 : Xi T19 246 5 = Xi S 246 5 := (show Xi T19 246 5 = Xi T13 246 5 from w279.x _ _ rfl).trans ( (show Xi T13 246 5 = Xi T5 246 5 from w206.x _ _ rfl).trans ((show Xi T5 246 5 = Xi S 246 5 from w82.x _ _ rfl)))
                  have w282 : Xi T19 5 8 = Xi S 5 8 := (show Xi T19 5 8 = Xi T13 5 8 from w279.x _ _ rfl).trans ( (show Xi T13 5 8 = Xi T5 5 8 from w206.x _ _ rfl).trans ((show Xi T5 5 8 = Xi S 5 8 from w82.x _ _ rfl)))
                  have w284 : 0 ≤ Xi T19 876 8 ∧ Xi T19 876 8 ≤ 9 := hHT19.c _ _
                  have w285 : Xi T19 895 14 = Xi S 895 14 := (show Xi T19 895 14 = Xi T13 895 14 from w279.x _ _ rfl).trans ( (show Xi T13 895 14 = Xi T5 895 14 from w206.x _ _ rfl).trans ((show Xi T5 895 14 = Xi S 895 14 from w82.x _ _ rfl)))
                  have w287 : Xi T19 899 5 = Xi S 899 5 := (show Xi T19 899 5 = Xi T13 899 5 from w279.x _ _ rfl).trans ( (show Xi T13 899 5 = Xi T5 899 5 from w206.x _ _ rfl).trans ((show Xi T5 899 5 = Xi S 899 5 from w82.x _ _ rfl)))
                  exact ⟨hHT19, hFT19, _, rfl, ⟨by omega, by omega⟩, ((kru_f w279 rfl (kru_f w206 rfl (kru_f w82 rfl KRU.rf)))), (fun q => by first | (exfalso; omega) | exact hg237 | exact sG_n (n := 600) hH hFT19 rfl (kcl_f w279 rfl (kcl_f w206 rfl (kcl_f w82 rfl KCL.rf))) (by omega) (by omega)), (fun q => by have e58 : Xi T19 5 8 = Xi S 5 8 := hFT19.x 5 8 rfl; omega), (fun q => by first | (exfalso; omega) | (rw [(hFT19.cx 19 rfl _).1]; first | exact hn237 | exact n195)), (by omega), (by omega), (fun q => by first | (exfalso; omega) | (intro i hi; exact ht237 i (by omega)) | (intro i hi; exfalso; omega)), (fun q => by first | omega | (exfalso; omega))⟩
        · refine l_iconst rfl ?_
          refine l_goto rfl rfl ?_
          refine l_istore rfl rfl rfl ?_
          refine l_aload_n rfl rfl ?_
          refine l_gfr rfl rfl rfl rfl rfl (hHT5.r 899 2 895 rfl) ?_
          refine l_iload rfl rfl ?_
          refine l_aload_n rfl rfl ?_
          refine l_gfi rfl rfl rfl rfl rfl ?_
          have w289 : (Xi T5 899 5) = (Xi S 899 5) := (show Xi T5 899 5 = Xi S 899 5 from w82.x _ _ rfl)
          rw [w289]
          refine l_iconst rfl ?_
          refine l_iconst rfl ?_
          refine l_iload rfl rfl ?_
          have w296 : Xi T5 899 5 = Xi S 899 5 := (show Xi T5 899 5 = Xi S 899 5 from w82.x _ _ rfl)
          refine l_callV rfl rfl rfl (t_me_countReadings hHT5 (to + 1) (Xi S 899 5) 0 1 (Xi S 19 ((z65).toNat)) ⟨by omega, by omega⟩ ⟨by omega, by omega⟩ ⟨by omega, by omega⟩ ⟨by omega, by omega⟩ ⟨by omega, by omega⟩ (by first | assumption | exact (LEX_FR hFT5 rfl rfl (by assumption : LEX S))) _) ?_
          rintro _ T20 ⟨hHT20, w301, z300, rfl, w300, w298, w299⟩
          have hFT20 : FR md_rr_actingOn S T20 := FR.tr hFT5 w301 rfl
          show Rl _ _ _ _ _ [iv z300] _ _
          have rT20_1 : Xi T20 (248 + ru) 1 = Xi T5 (248 + ru) 1 := FR_ru w301 rfl (by omega)
          have rT20_2 : Xi T20 (248 + ru) 2 = Xi T5 (248 + ru) 2 := FR_ru w301 rfl (by omega)
          have rT20_3 : Xi T20 (248 + ru) 3 = Xi T5 (248 + ru) 3 := FR_ru w301 rfl (by omega)
          have rT20_4 : Xi T20 (248 + ru) 4 = Xi T5 (248 + ru) 4 := FR_ru w301 rfl (by omega)
          have rT20_5 : Xi T20 (248 + ru) 5 = Xi T5 (248 + ru) 5 := FR_ru w301 rfl (by omega)
          have rT20_6 : Xi T20 (248 + ru) 6 = Xi T5 (248 + ru) 6 := FR_ru w301 rfl (by omega)
          have rT20_7 : Xi T20 (248 + ru) 7 = Xi T5 (248 + ru) 7 := FR_ru w301 rfl (by omega)
          have e123 : z300 ≠ 0 → 0 < cpF S (Xi T20 895 12) (to + 1) (Xi T20 895 13) 1 := fun q => by rw [← cpF_FR hFT5 rfl]; exact (by assumption : z300 ≠ 0 → 0 < cpF T5 (Xi T20 895 12) (to + 1) (Xi T20 895 13) 1) q
          refine l_istore rfl rfl rfl ?_
          refine l_iload rfl rfl ?_
          refine l_iload rfl rfl ?_
          refine l_if_eq rfl rfl (by unfold rg; omega) (fun w302 => absurd w302 (by omega)) (fun w303 => ?_)
          · refine l_iconst rfl ?_
            refine l_goto rfl rfl ?_
            refine l_iadd rfl ?_
            refine l_iconst rfl ?_
            refine l_icmp_eq rfl rfl (by unfold rg; omega) (by unfold rg; omega) (fun w304 => ?_) (fun w305 => ?_)
            · refine l_aload_n rfl rfl ?_
              refine l_gfr rfl rfl rfl rfl rfl ((hFT20 899 4 rfl).2.2.trans hru) ?_
              refine l_iconst rfl ?_
              refine l_iload_n rfl rfl ?_
              refine l_iastore (n := 8) rfl (lay_248 (by omega)) (by omega) (by omega) (by unfold rg; omega) ?_
              obtain ⟨U21, eU21⟩ : ∃ T : sS, T = uI T20 (248 + ru) ((1 : Int).toNat) (Int32.ofInt z65) := ⟨_, rfl⟩
              rw [← eU21]
              have hHU21 : HI U21 := by rw [eU21]; exact HI_w hHT20 (by rw [lh_ru1 (by omega)]; omega) (by rw [lh_ru1 (by omega)]; omega)
              have hFU21 : FR md_rr_actingOn S U21 := by rw [eU21]; exact FR.wI hFT20 (mdf_i (r := (248, 272, 0, 100000)) (List.mem_of_getElem? (i := 1) rfl) (inR_i (by omega) (by omega) (by omega) (by omega)))
              have w307 : Xi U21 (248 + ru) ((1 : Int).toNat) = z65 := by rw [eU21]; exact Xi_same (by unfold rg; omega)
              have rU21_1 : Xi U21 (248 + ru) 1 = z65 := by rw [eU21]; exact Xi_same (by unfold rg; omega)
              have rU21_2 : Xi U21 (248 + ru) 2 = Xi T20 (248 + ru) 2 := by rw [eU21, Xi_ne (by omega)]
              have rU21_3 : Xi U21 (248 + ru) 3 = Xi T20 (248 + ru) 3 := by rw [eU21, Xi_ne (by omega)]
              have rU21_4 : Xi U21 (248 + ru) 4 = Xi T20 (248 + ru) 4 := by rw [eU21, Xi_ne (by omega)]
              have rU21_5 : Xi U21 (248 + ru) 5 = Xi T20 (248 + ru) 5 := by rw [eU21, Xi_ne (by omega)]
              have rU21_6 : Xi U21 (248 + ru) 6 = Xi T20 (248 + ru) 6 := by rw [eU21, Xi_ne (by omega)]
              have rU21_7 : Xi U21 (248 + ru) 7 = Xi T20 (248 + ru) 7 := by rw [eU21, Xi_ne (by omega)]
              have k177 : Xi U21 895 12 = Xi T20 895 12 ∧ Xi U21 895 13 = Xi T20 895 13 := ⟨by rw [eU21, Xi_ne (by omega)], by rw [eU21, Xi_ne (by omega)]⟩
              have f177 : Xi U21 5 8 = Xi S 5 8 := hFU21.x 5 8 rfl
              have n177 : 0 ≤ Xi S 19 (Xi U21 (248 + ru) 1).toNat := by rw [show Xi U21 (248 + ru) 1 = z65 by omega]; omega
              refine l_iload rfl rfl ?_
              refine l_if_eq rfl rfl (by unfold rg; omega) (fun w308 => absurd w308 (by omega)) (fun w309 => ?_)
              · refine l_aload_n rfl rfl ?_
                refine l_gfr rfl rfl rfl rfl rfl ((hFU21 899 4 rfl).2.2.trans hru) ?_
                refine l_iconst rfl ?_
                refine l_aload_n rfl rfl ?_
                refine l_gfr rfl rfl rfl rfl rfl (hHU21.r 899 2 895 rfl) ?_
                refine l_gfi rfl rfl rfl rfl rfl ?_
                have w311 : (Xi U21 895 5) = (Xi T5 895 5) := (show Xi U21 895 5 = Xi T20 895 5 from by rw [eU21]; exact Xi_ne (by omega)).trans ((show Xi T20 895 5 = Xi T5 895 5 from w301.x _ _ rfl))
                rw [w311]
                refine l_iastore (n := 8) rfl (lay_248 (by omega)) (by omega) (by omega) (by unfold rg; omega) ?_
                obtain ⟨U22, eU22⟩ : ∃ T : sS, T = uI U21 (248 + ru) ((2 : Int).toNat) (Int32.ofInt (Xi T5 895 5)) := ⟨_, rfl⟩
                rw [← eU22]
                have hHU22 : HI U22 := by rw [eU22]; exact HI_w hHU21 (by rw [lh_ru2 (by omega)]; omega) (by rw [lh_ru2 (by omega)]; omega)
                have hFU22 : FR md_rr_actingOn S U22 := by rw [eU22]; exact FR.wI hFU21 (mdf_i (r := (248, 272, 0, 100000)) (List.mem_of_getElem? (i := 1) rfl) (inR_i (by omega) (by omega) (by omega) (by omega)))
                have w312 : Xi U22 (248 + ru) ((2 : Int).toNat) = (Xi T5 895 5) := by rw [eU22]; exact Xi_same (by unfold rg; omega)
                have rU22_1 : Xi U22 (248 + ru) 1 = Xi U21 (248 + ru) 1 := by rw [eU22, Xi_ne (by omega)]
                have rU22_2 : Xi U22 (248 + ru) 2 = (Xi T5 895 5) := by rw [eU22]; exact Xi_same (by unfold rg; omega)
                have rU22_3 : Xi U22 (248 + ru) 3 = Xi U21 (248 + ru) 3 := by rw [eU22, Xi_ne (by omega)]
                have rU22_4 : Xi U22 (248 + ru) 4 = Xi U21 (248 + ru) 4 := by rw [eU22, Xi_ne (by omega)]
                have rU22_5 : Xi U22 (248 + ru) 5 = Xi U21 (248 + ru) 5 := by rw [eU22, Xi_ne (by omega)]
                have rU22_6 : Xi U22 (248 + ru) 6 = Xi U21 (248 + ru) 6 := by rw [eU22, Xi_ne (by omega)]
                have rU22_7 : Xi U22 (248 + ru) 7 = Xi U21 (248 + ru) 7 := by rw [eU22, Xi_ne (by omega)]
                have n195 : 0 ≤ Xi S 19 (Xi U22 (248 + ru) 1).toNat := by rw [show Xi U22 (248 + ru) 1 = Xi U21 (248 + ru) 1 by omega]; exact n177
                refine l_iconst rfl ?_
                refine l_ireturn rfl rfl ?_
                have w313 : Xi U22 246 5 = Xi S 246 5 := (show Xi U22 246 5 = Xi U21 246 5 from by rw [eU22]; exact Xi_ne (by omega)).trans ( (show Xi U21 246 5 = Xi T20 246 5 from by rw [eU21]; exact Xi_ne (by omega)).trans ( (show Xi T20 246 5 = Xi T5 246 5 from w301.x _ _ rfl).trans ((show Xi T5 246 5 = Xi S 246 5 from w82.x _ _ rfl))))
                have w315 : Xi U22 5 8 = Xi S 5 8 := (show Xi U22 5 8 = Xi U21 5 8 from by rw [eU22]; exact Xi_ne (by omega)).trans ( (show Xi U21 5 8 = Xi T20 5 8 from by rw [eU21]; exact Xi_ne (by omega)).trans ( (show Xi T20 5 8 = Xi T5 5 8 from w301.x _ _ rfl).trans ((show Xi T5 5 8 = Xi S 5 8 from w82.x _ _ rfl))))
                have w317 : Xi U22 876 8 = Xi S 876 8 := (show Xi U22 876 8 = Xi U21 876 8 from by rw [eU22]; exact Xi_ne (by omega)).trans ( (show Xi U21 876 8 = Xi T20 876 8 from by rw [eU21]; exact Xi_ne (by omega)).trans ( (show Xi T20 876 8 = Xi T5 876 8 from w301.x _ _ rfl).trans ((show Xi T5 876 8 = Xi S 876 8 from w82.x _ _ rfl))))
                have w318 : 0 ≤ Xi S 876 8 ∧ Xi S 876 8 ≤ 9 := hH.c _ _
                have w319 : Xi U22 895 14 = Xi S 895 14 := (show Xi U22 895 14 = Xi U21 895 14 from by rw [eU22]; exact Xi_ne (by omega)).trans ( (show Xi U21 895 14 = Xi T20 895 14 from by rw [eU21]; exact Xi_ne (by omega)).trans ( (show Xi T20 895 14 = Xi T5 895 14 from w301.x _ _ rfl).trans ((show Xi T5 895 14 = Xi S 895 14 from w82.x _ _ rfl))))
                have w321 : Xi U22 899 5 = Xi S 899 5 := (show Xi U22 899 5 = Xi U21 899 5 from by rw [eU22]; exact Xi_ne (by omega)).trans ( (show Xi U21 899 5 = Xi T20 899 5 from by rw [eU21]; exact Xi_ne (by omega)).trans ( (show Xi T20 899 5 = Xi T5 899 5 from w301.x _ _ rfl).trans ((show Xi T5 899 5 = Xi S 899 5 from w82.x _ _ rfl))))
                exact ⟨hHU22, hFU22, _, rfl, ⟨by omega, by omega⟩, ((kru_w eU22 (kru_w eU21 (kru_f w301 rfl (kru_f w82 rfl KRU.rf))))), (fun q => by first | (exfalso; omega) | exact hg237 | exact sG_n (n := 600) hH hFU22 rfl (kcl_o eU22 (by omega) (kcl_o eU21 (by omega) (kcl_f w301 rfl (kcl_f w82 rfl KCL.rf)))) (by omega) (by omega)), (fun q => by have e58 : Xi U22 5 8 = Xi S 5 8 := hFU22.x 5 8 rfl; omega), (fun q => by first | (exfalso; omega) | (rw [(hFU22.cx 19 rfl _).1]; first | exact hn237 | exact n195)), (by omega), (by omega), (fun q => by first | (exfalso; omega) | (intro i hi; exact ht237 i (by omega)) | (intro i hi; exfalso; omega)), (fun q => by first | omega | (exfalso; omega))⟩
            · refine l_aload_n rfl rfl ?_
              refine l_gfr rfl rfl rfl rfl rfl (hHT20.r 899 0 876 rfl) ?_
              refine l_iload rfl rfl ?_
              refine l_if_ne rfl rfl (by unfold rg; omega) (fun w323 => ?_) (fun w324 => absurd w324 (by omega))
              · refine l_bipush rfl rfl ?_
                refine l_goto rfl rfl ?_
                refine l_iload rfl rfl ?_
                refine l_callV rfl rfl rfl (t_to_wrong hHT20 7 (to + 1) ⟨by omega, by omega⟩ ⟨by omega, by omega⟩ _) ?_
                rintro _ T23 ⟨hHT23, w336, z335, rfl, w335, w333, w334⟩
                have hFT23 : FR md_rr_actingOn S T23 := FR.tr hFT20 w336 rfl
                show Rl _ _ _ _ _ [iv z335] _ _
                have rT23_1 : Xi T23 (248 + ru) 1 = Xi T20 (248 + ru) 1 := FR_ru w336 rfl (by omega)
                have rT23_2 : Xi T23 (248 + ru) 2 = Xi T20 (248 + ru) 2 := FR_ru w336 rfl (by omega)
                have rT23_3 : Xi T23 (248 + ru) 3 = Xi T20 (248 + ru) 3 := FR_ru w336 rfl (by omega)
                have rT23_4 : Xi T23 (248 + ru) 4 = Xi T20 (248 + ru) 4 := FR_ru w336 rfl (by omega)
                have rT23_5 : Xi T23 (248 + ru) 5 = Xi T20 (248 + ru) 5 := FR_ru w336 rfl (by omega)
                have rT23_6 : Xi T23 (248 + ru) 6 = Xi T20 (248 + ru) 6 := FR_ru w336 rfl (by omega)
                have rT23_7 : Xi T23 (248 + ru) 7 = Xi T20 (248 + ru) 7 := FR_ru w336 rfl (by omega)
                refine l_ireturn rfl (retI_z (by omega)) ?_
                have w337 : Xi T23 246 5 = Xi S 246 5 := (show Xi T23 246 5 = Xi T20 246 5 from w336.x _ _ rfl).trans ( (show Xi T20 246 5 = Xi T5 246 5 from w301.x _ _ rfl).trans ((show Xi T5 246 5 = Xi S 246 5 from w82.x _ _ rfl)))
                have w339 : Xi T23 5 8 = Xi S 5 8 := (show Xi T23 5 8 = Xi T20 5 8 from w336.x _ _ rfl).trans ( (show Xi T20 5 8 = Xi T5 5 8 from w301.x _ _ rfl).trans ((show Xi T5 5 8 = Xi S 5 8 from w82.x _ _ rfl)))
                have w341 : 0 ≤ Xi T23 876 8 ∧ Xi T23 876 8 ≤ 9 := hHT23.c _ _
                have w342 : Xi T23 895 14 = Xi S 895 14 := (show Xi T23 895 14 = Xi T20 895 14 from w336.x _ _ rfl).trans ( (show Xi T20 895 14 = Xi T5 895 14 from w301.x _ _ rfl).trans ((show Xi T5 895 14 = Xi S 895 14 from w82.x _ _ rfl)))
                have w344 : Xi T23 899 5 = Xi S 899 5 := (show Xi T23 899 5 = Xi T20 899 5 from w336.x _ _ rfl).trans ( (show Xi T20 899 5 = Xi T5 899 5 from w301.x _ _ rfl).trans ((show Xi T5 899 5 = Xi S 899 5 from w82.x _ _ rfl)))
                exact ⟨hHT23, hFT23, _, rfl, ⟨by omega, by omega⟩, ((kru_f w336 rfl (kru_f w301 rfl (kru_f w82 rfl KRU.rf)))), (fun q => by first | (exfalso; omega) | exact hg237 | exact sG_n (n := 600) hH hFT23 rfl (kcl_f w336 rfl (kcl_f w301 rfl (kcl_f w82 rfl KCL.rf))) (by omega) (by omega)), (fun q => by have e58 : Xi T23 5 8 = Xi S 5 8 := hFT23.x 5 8 rfl; omega), (fun q => by first | (exfalso; omega) | (rw [(hFT23.cx 19 rfl _).1]; first | exact hn237 | exact n195)), (by omega), (by omega), (fun q => by first | (exfalso; omega) | (intro i hi; exact ht237 i (by omega)) | (intro i hi; exfalso; omega)), (fun q => by first | omega | (exfalso; omega))⟩
    · refine l_aload_n rfl rfl ?_
      refine l_gfr rfl rfl rfl rfl rfl (hH.r 899 0 876 rfl) ?_
      refine l_iconst rfl ?_
      refine l_iload rfl rfl ?_
      refine l_callV rfl rfl rfl (t_to_wrong hH 4 (to + 1) ⟨by omega, by omega⟩ ⟨by omega, by omega⟩ _) ?_
      rintro _ T24 ⟨hHT24, w353, z352, rfl, w352, w350, w351⟩
      have hFT24 : FR md_rr_actingOn S T24 := FR.tr hF w353 rfl
      show Rl _ _ _ _ _ [iv z352] _ _
      have rT24_1 : Xi T24 (248 + ru) 1 = Xi S (248 + ru) 1 := FR_ru w353 rfl (by omega)
      have rT24_2 : Xi T24 (248 + ru) 2 = Xi S (248 + ru) 2 := FR_ru w353 rfl (by omega)
      have rT24_3 : Xi T24 (248 + ru) 3 = Xi S (248 + ru) 3 := FR_ru w353 rfl (by omega)
      have rT24_4 : Xi T24 (248 + ru) 4 = Xi S (248 + ru) 4 := FR_ru w353 rfl (by omega)
      have rT24_5 : Xi T24 (248 + ru) 5 = Xi S (248 + ru) 5 := FR_ru w353 rfl (by omega)
      have rT24_6 : Xi T24 (248 + ru) 6 = Xi S (248 + ru) 6 := FR_ru w353 rfl (by omega)
      have rT24_7 : Xi T24 (248 + ru) 7 = Xi S (248 + ru) 7 := FR_ru w353 rfl (by omega)
      refine l_ireturn rfl (retI_z (by omega)) ?_
      have w354 : Xi T24 246 5 = Xi S 246 5 := (show Xi T24 246 5 = Xi S 246 5 from w353.x _ _ rfl)
      have w356 : Xi T24 5 8 = Xi S 5 8 := (show Xi T24 5 8 = Xi S 5 8 from w353.x _ _ rfl)
      have w358 : 0 ≤ Xi T24 876 8 ∧ Xi T24 876 8 ≤ 9 := hHT24.c _ _
      have w359 : Xi T24 895 14 = Xi S 895 14 := (show Xi T24 895 14 = Xi S 895 14 from w353.x _ _ rfl)
      have w361 : Xi T24 899 5 = Xi S 899 5 := (show Xi T24 899 5 = Xi S 899 5 from w353.x _ _ rfl)
      exact ⟨hHT24, hFT24, _, rfl, ⟨by omega, by omega⟩, ((kru_f w353 rfl KRU.rf)), (fun q => by first | (exfalso; omega) | exact hg237 | exact sG_n (n := 600) hH hFT24 rfl (kcl_f w353 rfl KCL.rf) (by omega) (by omega)), (fun q => by have e58 : Xi T24 5 8 = Xi S 5 8 := hFT24.x 5 8 rfl; omega), (fun q => by first | (exfalso; omega) | (rw [(hFT24.cx 19 rfl _).1]; first | exact hn237 | exact n195)), (by omega), (by omega), (fun q => by first | (exfalso; omega) | (intro i hi; exact ht237 i (by omega)) | (intro i hi; exfalso; omega)), (fun q => by first | omega | (exfalso; omega))⟩
  · refine l_aload_n rfl rfl ?_
    refine l_gfr rfl rfl rfl rfl rfl (hH.r 899 0 876 rfl) ?_
    refine l_iconst rfl ?_
    refine l_iload_n rfl rfl ?_
    refine l_callV rfl rfl rfl (t_to_wrong hH 4 from_ ⟨by omega, by omega⟩ ⟨by omega, by omega⟩ _) ?_
    rintro _ T25 ⟨hHT25, w370, z369, rfl, w369, w367, w368⟩
    have hFT25 : FR md_rr_actingOn S T25 := FR.tr hF w370 rfl
    show Rl _ _ _ _ _ [iv z369] _ _
    have rT25_1 : Xi T25 (248 + ru) 1 = Xi S (248 + ru) 1 := FR_ru w370 rfl (by omega)
    have rT25_2 : Xi T25 (248 + ru) 2 = Xi S (248 + ru) 2 := FR_ru w370 rfl (by omega)
    have rT25_3 : Xi T25 (248 + ru) 3 = Xi S (248 + ru) 3 := FR_ru w370 rfl (by omega)
    have rT25_4 : Xi T25 (248 + ru) 4 = Xi S (248 + ru) 4 := FR_ru w370 rfl (by omega)
    have rT25_5 : Xi T25 (248 + ru) 5 = Xi S (248 + ru) 5 := FR_ru w370 rfl (by omega)
    have rT25_6 : Xi T25 (248 + ru) 6 = Xi S (248 + ru) 6 := FR_ru w370 rfl (by omega)
    have rT25_7 : Xi T25 (248 + ru) 7 = Xi S (248 + ru) 7 := FR_ru w370 rfl (by omega)
    refine l_ireturn rfl (retI_z (by omega)) ?_
    have w371 : Xi T25 246 5 = Xi S 246 5 := (show Xi T25 246 5 = Xi S 246 5 from w370.x _ _ rfl)
    have w373 : Xi T25 5 8 = Xi S 5 8 := (show Xi T25 5 8 = Xi S 5 8 from w370.x _ _ rfl)
    have w375 : 0 ≤ Xi T25 876 8 ∧ Xi T25 876 8 ≤ 9 := hHT25.c _ _
    have w376 : Xi T25 895 14 = Xi S 895 14 := (show Xi T25 895 14 = Xi S 895 14 from w370.x _ _ rfl)
    have w378 : Xi T25 899 5 = Xi S 899 5 := (show Xi T25 899 5 = Xi S 899 5 from w370.x _ _ rfl)
    exact ⟨hHT25, hFT25, _, rfl, ⟨by omega, by omega⟩, ((kru_f w370 rfl KRU.rf)), (fun q => by first | (exfalso; omega) | exact hg237 | exact sG_n (n := 600) hH hFT25 rfl (kcl_f w370 rfl KCL.rf) (by omega) (by omega)), (fun q => by have e58 : Xi T25 5 8 = Xi S 5 8 := hFT25.x 5 8 rfl; omega), (fun q => by first | (exfalso; omega) | (rw [(hFT25.cx 19 rfl _).1]; first | exact hn237 | exact n195)), (by omega), (by omega), (fun q => by first | (exfalso; omega) | (intro i hi; exact ht237 i (by omega)) | (intro i hi; exfalso; omega)), (fun q => by first | omega | (exfalso; omega))⟩
