/-! SAFETY of methods: printed by wip/safe (vc.py, decl.py) -/
/-! SAFETY: definitions and rules told -/
/-- what holds between sentences, but for the count of clauses -/
def WX (S : sS) : Prop := LEX S ∧ TX S ∧ DEF S ∧ RUL S ∧ CMD S ∧ AK S ∧ VAL S
theorem wx_of {S : sS} (h : WI S) : WX S := ⟨h.1, h.2.1, h.2.2.1, h.2.2.2.1, h.2.2.2.2.1, h.2.2.2.2.2.1, h.2.2.2.2.2.2.2⟩
theorem WX_g {l : List rec} {S T : sS} (hH : HI S) (h : FR l S T) (g : sG S T) (e1 : mdf l 1 3 = false) (e2 : dL l = true) (e3 : (kdis l kX && !(mdf l 20 1)) = true) (e5 : kdis l [(5, 6), (11, 14)] = true) (e6 : (kdis l [(248, 272)] && !(mdf l 246 2)) = true) (e7 : (kdis l [(5, 6), (19, 20), (883, 884), (885, 887)] && !(mdf l 882 3)) = true) (e8 : kdis l [(8, 9)] = true) (e9 : kdis l [(19, 20), (5, 6)] = true) (hW : WX S) : WX T := by
  obtain ⟨w1, w2, w3, w4, w5, w6, w8⟩ := hW
  have k5 := h.smk e5
  simp only [Bool.and_eq_true, Bool.not_eq_true'] at e6
  have k6 := h.smk e6.1
  have h24 : 0 ≤ Xi S 246 2 ∧ Xi S 246 2 ≤ 24 := hH.c _ _
  exact ⟨LEX_FR h e1 e2 w1, TX_FR h e3 w2, DEF_sG hH g (fun a _ => ⟨k5.x 11 rfl a, k5.x 12 rfl a, k5.x 13 rfl a⟩) (fun a h1 h2 => by rw [k5.x 5 rfl] at h2; omega) w3, RUL_sG hH g (fun i hi j => k6.x _ (inK_i (a := 248) (b := 272) (by decide) (by omega) (by omega)) j) (h.x 246 2 e6.2) w4, CMD_FR h e7 w5, AK_FR h e9 w6, VAL_fr h e8 (k5.x 5 rfl 4) w8⟩
theorem WI_df {l : List rec} {S T : sS} {n : Int} (hH : HI S) (h : FR l S T) (e3 : (kdis l kX && !(mdf l 20 1)) = true) (e4 : (kdis l kG && (!(mdf l 20 1) && (!(mdf l 246 8) && !(mdf l 246 5)))) = true) (e6 : (kdis l [(248, 272)] && !(mdf l 246 2)) = true) (e7 : (kdis l [(883, 884), (885, 887), (19, 20)] && !(mdf l 882 3)) = true) (e8 : kdis l [(8, 9)] = true) (hL : LEX T) (ho : ∀ j, j ≠ 3 → Xi T 5 j = Xi S 5 j) (h3 : Xi T 5 3 = Xi S 5 3 + 1) (hn : n = Xi S 5 3) (h11 : ∀ a : Nat, a ≠ n.toNat → Xi T 11 a = Xi S 11 a ∧ Xi T 12 a = Xi S 12 a ∧ Xi T 13 a = Xi S 13 a) (hf : Xi T 12 n.toNat = Xi S 246 5 - Xi S 899 6) (ht : Xi T 13 n.toNat = Xi S 899 6) (hb : 0 ≤ Xi S 899 6 ∧ Xi S 899 6 ≤ Xi S 246 5 ∧ Xi S 246 5 ≤ 600) (hk : ∀ i : Nat, (i : Int) < Xi S 899 6 → TSok S True ((Xi S 246 5 - Xi S 899 6).toNat + i)) (hcc : Xi S 246 5 ≤ 19 * Xi S 246 2 + 6 * (Xi S 5 3 + 1)) (hW : WX S) : WI T := by
  obtain ⟨w1, w2, w3, w4, w5, w6, w8⟩ := hW
  have h5 : ∀ j, Xi S 5 j ≤ Xi T 5 j := fun j => by
    by_cases e : j = 3
    · rw [e, h3]; omega
    · rw [ho j e]; exact Int.le_refl _
  have g := FR_sG hH h e4 (h5 3) (h5 8)
  simp only [Bool.and_eq_true, Bool.not_eq_true'] at e6 e7 e4
  have k6 := h.smk e6.1
  have k7 := h.smk e7.1
  have h24 : 0 ≤ Xi S 246 2 ∧ Xi S 246 2 ≤ 24 := hH.c _ _
  have h53 : 0 ≤ Xi S 5 3 ∧ Xi S 5 3 ≤ 24 := hH.c _ _
  have x5 := h.x 246 5 e4.2.2.2
  refine ⟨hL, TX_FR h e3 w2, fun a ha hc => ?_, RUL_sG hH g (fun i hi j => k6.x _ (inK_i (a := 248) (b := 272) (by decide) (by omega) (by omega)) j) (h.x 246 2 e6.2) w4, ?_, ?_, ?_, VAL_fr h e8 (ho 4 (by decide)) w8⟩
  · by_cases e : a = n.toNat
    · subst e
      rw [hf, ht, x5]
      exact ⟨⟨by omega, by omega, by omega⟩, fun i hi => TSok_sG hH g (by omega) (by omega) (hk i hi)⟩
    · obtain ⟨x, y, z⟩ := h11 a e
      rw [x] at hc
      rw [y, z, x5]
      obtain ⟨⟨b1, b2, b3⟩, b4⟩ := w3 a (by omega) hc
      exact ⟨⟨b1, b2, b3⟩, fun i hi => TSok_sG hH g (by omega) (by omega) (b4 i hi)⟩
  · intro i hi
    rw [h.x 882 3 e7.2] at hi
    rw [k7.x 883 rfl, k7.x 885 rfl, k7.x 886 rfl, k7.x 19 rfl, ho 8 (by decide)]
    exact w5 i hi
  · obtain ⟨a, b⟩ := w6
    refine ⟨by rw [ho 8 (by decide)]; exact a, ?_⟩
    simp only [k7.x 19 rfl]
    exact b
  · unfold CC
    rw [x5, h.x 246 2 e6.2, h3]
    exact hcc
theorem WI_ru {l : List rec} {S T : sS} {r : Nat} (hH : HI S) (h : FR l S T) (g : sG S T) (k : KRU S T r) (e1 : mdf l 1 3 = false) (e2 : dL l = true) (e3 : (kdis l kX && !(mdf l 20 1)) = true) (e5 : kdis l [(5, 6), (11, 14)] = true) (e7 : (kdis l [(5, 6), (19, 20), (883, 884), (885, 887)] && !(mdf l 882 3)) = true) (e8 : kdis l [(8, 9)] = true) (e9 : kdis l [(19, 20), (5, 6)] = true) (hr : (r : Int) = Xi S 246 2) (h2 : Xi T 246 2 = Xi S 246 2 + 1) (hc : Xi T 246 5 ≤ Xi S 246 5 + 19) (hu : RUL1 T r) (hW : WI S) : WI T := by
  obtain ⟨w1, w2, w3, w4, w5, w6, w7, w8⟩ := hW
  have k5 := h.smk e5
  have h24 : 0 ≤ Xi S 246 2 ∧ Xi S 246 2 ≤ 24 := hH.c _ _
  refine ⟨LEX_FR h e1 e2 w1, TX_FR h e3 w2, DEF_sG hH g (fun a _ => ⟨k5.x 11 rfl a, k5.x 12 rfl a, k5.x 13 rfl a⟩) (fun a h1 h2 => by rw [k5.x 5 rfl] at h2; omega) w3, fun i hi => ?_, CMD_FR h e7 w5, AK_FR h e9 w6, ?_, VAL_fr h e8 (k5.x 5 rfl 4) w8⟩
  · by_cases e : i = r
    · rw [e]; exact hu
    · exact RUL1_sG hH g (by omega) (fun j => k i j (by omega) e) (w4 i (by omega))
  · unfold CC at *
    rw [k5.x 5 rfl 3, h2]
    omega
def md_rr_keepTests : List rec := [(12, 13, 0, 100000), (13, 14, 0, 100000)]
abbrev Q_rr_keepTests (S : sS) (adj : Int) : pst := fun r S1 => HI S1 ∧ FR md_rr_keepTests S S1 ∧ (r = none ∧ (Xi S1 12 adj.toNat = Xi S 246 5 - Xi S 899 6 ∧ Xi S1 13 adj.toNat = Xi S 899 6) ∧ (∀ j : Nat, j ≠ adj.toNat → Xi S1 12 j = Xi S 12 j ∧ Xi S1 13 j = Xi S 13 j))
set_option maxRecDepth 100000 in
theorem t_rr_keepTests {S : sS} (hH : HI S) (adj : Int) (hadj : 0 ≤ adj ∧ adj ≤ 23) (d : Nat) : Mt lay0 (d + 1) m_rr_keepTests [.ref 899, iv adj] S (Q_rr_keepTests S adj) := by
  refine Mt_R rfl rfl ?_
  have hF : FR md_rr_keepTests S S := FR.rf
  have w1 : 0 ≤ Xi S 246 5 ∧ Xi S 246 5 ≤ 200000 := hH.c _ _
  have w2 : 0 ≤ Xi S 899 6 ∧ Xi S 899 6 ≤ 6 := hH.c _ _
  refine l_aload_n rfl rfl ?_
  refine l_gfr rfl rfl rfl rfl rfl (hH.r 899 1 1 rfl) ?_
  refine l_gfr rfl rfl rfl rfl rfl (hH.r 1 11 12 rfl) ?_
  refine l_iload_n rfl rfl ?_
  refine l_aload_n rfl rfl ?_
  refine l_gfr rfl rfl rfl rfl rfl (hH.r 899 3 246 rfl) ?_
  refine l_gfi rfl rfl rfl rfl rfl ?_
  refine l_aload_n rfl rfl ?_
  refine l_gfi rfl rfl rfl rfl rfl ?_
  refine l_isub rfl ?_
  refine l_iastore (n := 24) rfl rfl (by omega) (by omega) (by unfold rg; omega) ?_
  obtain ⟨U1, eU1⟩ : ∃ T : sS, T = uI S 12 ((adj).toNat) (Int32.ofInt ((Xi S 246 5) - (Xi S 899 6))) := ⟨_, rfl⟩
  rw [← eU1]
  have hHU1 : HI U1 := by rw [eU1]; exact HI_any hH (rfl)
  have hFU1 : FR md_rr_keepTests S U1 := by rw [eU1]; exact FR.wI hF (mdf_i (r := (12, 13, 0, 100000)) (List.mem_of_getElem? (i := 0) rfl) (inR_i (by omega) (by omega) (by omega) (by omega)))
  have w3 : Xi U1 12 ((adj).toNat) = ((Xi S 246 5) - (Xi S 899 6)) := by rw [eU1]; exact Xi_same (by unfold rg; omega)
  refine l_aload_n rfl rfl ?_
  refine l_gfr rfl rfl rfl rfl rfl (hHU1.r 899 1 1 rfl) ?_
  refine l_gfr rfl rfl rfl rfl rfl (hHU1.r 1 12 13 rfl) ?_
  refine l_iload_n rfl rfl ?_
  refine l_aload_n rfl rfl ?_
  refine l_gfi rfl rfl rfl rfl rfl ?_
  have w4 : (Xi U1 899 6) = (Xi S 899 6) := (show Xi U1 899 6 = Xi S 899 6 from by rw [eU1]; exact Xi_ne (by omega))
  rw [w4]
  refine l_iastore (n := 24) rfl rfl (by omega) (by omega) (by unfold rg; omega) ?_
  obtain ⟨U2, eU2⟩ : ∃ T : sS, T = uI U1 13 ((adj).toNat) (Int32.ofInt (Xi S 899 6)) := ⟨_, rfl⟩
  rw [← eU2]
  have hHU2 : HI U2 := by rw [eU2]; exact HI_w hHU1 (show 0 ≤ (Xi S 899 6) by omega) (show (Xi S 899 6) ≤ 6 by omega)
  have hFU2 : FR md_rr_keepTests S U2 := by rw [eU2]; exact FR.wI hFU1 (mdf_i (r := (13, 14, 0, 100000)) (List.mem_of_getElem? (i := 1) rfl) (inR_i (by omega) (by omega) (by omega) (by omega)))
  have w5 : Xi U2 13 ((adj).toNat) = (Xi S 899 6) := by rw [eU2]; exact Xi_same (by unfold rg; omega)
  refine l_return rfl rfl ?_
  exact ⟨hHU2, hFU2, rfl, (⟨by rw [eU2, Xi_ne (by omega), eU1]; exact Xi_same (by unfold rg; omega), by rw [eU2]; exact Xi_same (by unfold rg; omega)⟩), (fun j hj => ⟨by rw [eU2, Xi_ne (by omega), eU1, Xi_ne (by omega)], by rw [eU2, Xi_ne (by omega), eU1, Xi_ne (by omega)]⟩)⟩
def md_re_startDefinition__2 : List rec := [(876, 877, 8, 9), (876, 877, 9, 10), (891, 892, 9, 10), (892, 893, 0, 100000), (893, 894, 0, 100000), (895, 896, 3, 4), (895, 896, 4, 5)]
abbrev Q_re_startDefinition__2 (S : sS) : pst := fun r S1 => HI S1 ∧ FR md_re_startDefinition__2 S S1 ∧ (∃ z : Int, r = some (iv z) ∧ (0 ≤ z ∧ z ≤ 1) ∧ (z = 0 → Xi S1 876 8 ≠ 0) ∧ (z = 1 → Xi S1 5 3 < 24) ∧ (z = 1 → 0 ≤ Xi S1 895 4))
set_option maxRecDepth 100000 in
theorem t_re_startDefinition__2 {S : sS} (hH : HI S) (hL : LEX S) (hn0 : Xi S 891 9 = 0) (d : Nat) : Mt lay0 (d + 3) m_re_startDefinition [.ref 891] S (Q_re_startDefinition__2 S) := by
  refine Mt_R rfl rfl ?_
  have hF : FR md_re_startDefinition__2 S S := FR.rf
  have w1 : 0 ≤ Xi S 891 9 ∧ Xi S 891 9 ≤ 24 := hH.c _ _
  refine l_aload_n rfl rfl ?_
  refine l_gfr rfl rfl rfl rfl rfl (hH.r 891 0 876 rfl) ?_
  refine l_iconst rfl ?_
  have w2 : 0 ≤ Xi S 5 3 ∧ Xi S 5 3 ≤ 24 := hH.c _ _
  have w3 : 0 ≤ Xi S 876 7 ∧ Xi S 876 7 ≤ 5125 := hH.c _ _
  have w4 : 0 ≤ Xi S 891 9 ∧ Xi S 891 9 ≤ 24 := hH.c _ _
  have w5 : -1 ≤ Xi S 895 4 ∧ Xi S 895 4 ≤ 15 := hH.c _ _
  refine l_callV rfl rfl rfl (t_to_runEnd hH 3 ⟨by omega, by omega⟩ _) ?_
  rintro _ _ ⟨rfl, z13, rfl, w13, w6, w7, w8, w9, w10, w11, w12⟩
  clear w8 w9 w10 w11
  show Rl _ _ _ _ _ [iv z13] _ _
  refine l_istore_n rfl rfl rfl ?_
  refine l_aload_n rfl rfl ?_
  refine l_gfr rfl rfl rfl rfl rfl (hH.r 891 4 895 rfl) ?_
  refine l_iconst rfl ?_
  refine l_iconst rfl ?_
  refine l_iload_n rfl rfl ?_
  have w14 : 0 ≤ Xi S 5 3 ∧ Xi S 5 3 ≤ 24 := hH.c _ _
  have w15 : 0 ≤ Xi S 891 9 ∧ Xi S 891 9 ≤ 24 := hH.c _ _
  have w16 : -1 ≤ Xi S 895 4 ∧ Xi S 895 4 ≤ 15 := hH.c _ _
  refine l_callV rfl rfl rfl (t_me_find hH 0 3 z13 ⟨by omega, by omega⟩ ⟨by omega, by omega⟩ ⟨by omega, by omega⟩ (by first | assumption | exact (LEX_FR hF rfl rfl (by assumption : LEX S))) _) ?_
  rintro _ _ ⟨rfl, z20, rfl, w20, w17, w18, w19⟩
  have w21 : z20 ≠ -1 → _ := fun h => fb0 hH (w17 h)
  clear w18
  show Rl _ _ _ _ _ [iv z20] _ _
  refine l_istore_n rfl rfl rfl ?_
  refine l_aload_n rfl rfl ?_
  refine l_gfr rfl rfl rfl rfl rfl (hH.r 891 0 876 rfl) ?_
  refine l_iload_n rfl rfl ?_
  refine l_iconst rfl ?_
  refine l_iadd rfl ?_
  have w22 : 0 ≤ Xi S 5 3 ∧ Xi S 5 3 ≤ 24 := hH.c _ _
  have w23 : 0 ≤ Xi S 876 7 ∧ Xi S 876 7 ≤ 5125 := hH.c _ _
  have w24 : 0 ≤ Xi S 891 9 ∧ Xi S 891 9 ≤ 24 := hH.c _ _
  have w25 : -1 ≤ Xi S 895 4 ∧ Xi S 895 4 ≤ 15 := hH.c _ _
  refine l_callV rfl rfl rfl (t_to_runEnd hH (z13 + 1) ⟨by omega, by omega⟩ _) ?_
  rintro _ _ ⟨rfl, z33, rfl, w33, w26, w27, w28, w29, w30, w31, w32⟩
  clear w28 w29 w30 w31
  show Rl _ _ _ _ _ [iv z33] _ _
  refine l_istore_n rfl rfl rfl ?_
  refine l_aload_n rfl rfl ?_
  refine l_gfr rfl rfl rfl rfl rfl (hH.r 891 4 895 rfl) ?_
  refine l_bipush rfl rfl ?_
  refine l_iload_n rfl rfl ?_
  have w34 : 0 ≤ Xi S 5 3 ∧ Xi S 5 3 ≤ 24 := hH.c _ _
  have w35 : 0 ≤ Xi S 891 9 ∧ Xi S 891 9 ≤ 24 := hH.c _ _
  have w36 : -1 ≤ Xi S 895 4 ∧ Xi S 895 4 ≤ 15 := hH.c _ _
  refine l_callV rfl rfl rfl (t_me_startSelf hH 54 z20 ⟨by omega, by omega⟩ ⟨by omega, by omega⟩ _) ?_
  rintro _ T1 ⟨hHT1, w39, rfl, w37⟩
  have hFT1 : FR md_re_startDefinition__2 S T1 := FR.tr hF w39 rfl
  show Rl _ _ _ _ _ [] _ _
  refine l_iload_n rfl rfl ?_
  refine l_iconst rfl ?_
  refine l_icmp_ne rfl rfl (by unfold rg; omega) (by unfold rg; omega) (fun w40 => ?_) (fun w41 => ?_)
  · refine l_aload_n rfl rfl ?_
    refine l_iload_n rfl rfl ?_
    refine l_iconst rfl ?_
    refine l_iadd rfl ?_
    refine l_iload_n rfl rfl ?_
    refine l_aload_n rfl rfl ?_
    refine l_gfr rfl rfl rfl rfl rfl (hHT1.r 891 2 1 rfl) ?_
    refine l_iconst rfl ?_
    have w42 : Xi T1 5 3 = Xi S 5 3 := (show Xi T1 5 3 = Xi S 5 3 from w39.x _ _ rfl)
    have w43 : 0 ≤ Xi S 5 3 ∧ Xi S 5 3 ≤ 24 := hH.c _ _
    have w44 : Xi T1 891 9 = Xi S 891 9 := (show Xi T1 891 9 = Xi S 891 9 from w39.x _ _ rfl)
    have w45 : 0 ≤ Xi S 891 9 ∧ Xi S 891 9 ≤ 24 := hH.c _ _
    have w46 : -1 ≤ Xi T1 895 4 ∧ Xi T1 895 4 ≤ 15 := hHT1.c _ _
    refine l_callV rfl rfl rfl (t_vo_countOf hHT1 3 ⟨by omega, by omega⟩ _) ?_
    rintro _ _ ⟨rfl, z50, rfl, w50, w47, w48, w49⟩
    have w51 : z50 = Xi T1 5 3 ∧ 0 ≤ Xi T1 5 3 ∧ Xi T1 5 3 ≤ 24 := ⟨(w47 (by omega) (by omega)).1, hHT1.c 5 3⟩
    clear w47 w48 w49
    show Rl _ _ _ _ _ [iv z50, iv z33, iv (z13 + 1), .ref 891] _ _
    refine l_bipush rfl rfl ?_
    have w52 : Xi T1 5 3 = Xi S 5 3 := (show Xi T1 5 3 = Xi S 5 3 from w39.x _ _ rfl)
    have w53 : 0 ≤ Xi S 5 3 ∧ Xi S 5 3 ≤ 24 := hH.c _ _
    have w54 : Xi T1 891 9 = Xi S 891 9 := (show Xi T1 891 9 = Xi S 891 9 from w39.x _ _ rfl)
    have w55 : 0 ≤ Xi S 891 9 ∧ Xi S 891 9 ≤ 24 := hH.c _ _
    have w56 : -1 ≤ Xi T1 895 4 ∧ Xi T1 895 4 ≤ 15 := hHT1.c _ _
    refine l_callV rfl rfl rfl (t_re_takeNew hHT1 (z13 + 1) z33 z50 24 ⟨by omega, by omega⟩ ⟨by omega, by omega⟩ ⟨by omega, by omega⟩ ⟨by omega, by omega⟩ (by first | assumption | exact (LEX_FR hFT1 rfl rfl (by assumption : LEX S))) _) ?_
    rintro _ T2 ⟨hHT2, w63, z62, rfl, w62, w57, w58, w59, w60, w61⟩
    have hFT2 : FR md_re_startDefinition__2 S T2 := FR.tr hFT1 w63 rfl
    show Rl _ _ _ _ _ [iv z62] _ _
    refine l_ireturn rfl (retI_z (by omega)) ?_
    have w64 : Xi T2 5 3 = Xi S 5 3 := (show Xi T2 5 3 = Xi T1 5 3 from w63.x _ _ rfl).trans ((show Xi T1 5 3 = Xi S 5 3 from w39.x _ _ rfl))
    have w65 : 0 ≤ Xi S 5 3 ∧ Xi S 5 3 ≤ 24 := hH.c _ _
    have w66 : 0 ≤ Xi T2 876 8 ∧ Xi T2 876 8 ≤ 9 := hHT2.c _ _
    have w67 : 0 ≤ Xi T2 891 9 ∧ Xi T2 891 9 ≤ 24 := hHT2.c _ _
    have w68 : Xi T2 895 4 = Xi T1 895 4 := (show Xi T2 895 4 = Xi T1 895 4 from w63.x _ _ rfl)
    have w69 : -1 ≤ Xi T1 895 4 ∧ Xi T1 895 4 ≤ 15 := hHT1.c _ _
    exact ⟨hHT2, hFT2, _, rfl, ⟨by omega, by omega⟩, (by first | assumption | omega), (by omega), (by omega)⟩
  · refine l_aload_n rfl rfl ?_
    refine l_gfr rfl rfl rfl rfl rfl (hHT1.r 891 0 876 rfl) ?_
    refine l_iconst rfl ?_
    refine l_iconst rfl ?_
    have w70 : Xi T1 5 3 = Xi S 5 3 := (show Xi T1 5 3 = Xi S 5 3 from w39.x _ _ rfl)
    have w71 : 0 ≤ Xi S 5 3 ∧ Xi S 5 3 ≤ 24 := hH.c _ _
    have w72 : Xi T1 891 9 = Xi S 891 9 := (show Xi T1 891 9 = Xi S 891 9 from w39.x _ _ rfl)
    have w73 : 0 ≤ Xi S 891 9 ∧ Xi S 891 9 ≤ 24 := hH.c _ _
    have w74 : -1 ≤ Xi T1 895 4 ∧ Xi T1 895 4 ≤ 15 := hHT1.c _ _
    refine l_callV rfl rfl rfl (t_to_wrong hHT1 4 3 ⟨by omega, by omega⟩ ⟨by omega, by omega⟩ _) ?_
    rintro _ T3 ⟨hHT3, w78, z77, rfl, w77, w75, w76⟩
    have hFT3 : FR md_re_startDefinition__2 S T3 := FR.tr hFT1 w78 rfl
    show Rl _ _ _ _ _ [iv z77] _ _
    refine l_ireturn rfl (retI_z (by omega)) ?_
    have w79 : Xi T3 5 3 = Xi S 5 3 := (show Xi T3 5 3 = Xi T1 5 3 from w78.x _ _ rfl).trans ((show Xi T1 5 3 = Xi S 5 3 from w39.x _ _ rfl))
    have w80 : 0 ≤ Xi S 5 3 ∧ Xi S 5 3 ≤ 24 := hH.c _ _
    have w81 : 0 ≤ Xi T3 876 8 ∧ Xi T3 876 8 ≤ 9 := hHT3.c _ _
    have w82 : Xi T3 891 9 = Xi S 891 9 := (show Xi T3 891 9 = Xi T1 891 9 from w78.x _ _ rfl).trans ((show Xi T1 891 9 = Xi S 891 9 from w39.x _ _ rfl))
    have w83 : 0 ≤ Xi S 891 9 ∧ Xi S 891 9 ≤ 24 := hH.c _ _
    have w84 : Xi T3 895 4 = Xi T1 895 4 := (show Xi T3 895 4 = Xi T1 895 4 from w78.x _ _ rfl)
    have w85 : -1 ≤ Xi T1 895 4 ∧ Xi T1 895 4 ≤ 15 := hHT1.c _ _
    exact ⟨hHT3, hFT3, _, rfl, ⟨by omega, by omega⟩, (by first | assumption | omega), (by omega), (by omega)⟩
def md_re_endDefinition : List rec := [(1, 2, 3, 4), (2, 3, 0, 100000), (3, 4, 0, 100000), (4, 5, 0, 100000), (5, 6, 0, 100000), (10, 11, 0, 100000), (11, 12, 0, 100000), (12, 13, 0, 100000), (13, 14, 0, 100000)]
abbrev Q_re_endDefinition (S : sS) : pst := fun r S1 => HI S1 ∧ FR md_re_endDefinition S S1 ∧ (∃ z : Int, r = some (iv z) ∧ (0 ≤ z ∧ z ≤ 1) ∧ (WI S1) ∧ (z = 1))
set_option maxRecDepth 100000 in
theorem t_re_endDefinition {S : sS} (hH : HI S) (hX : WX S) (hc3 : Xi S 5 3 < 24) (hs : 0 ≤ Xi S 895 4) (hcc : Xi S 246 5 ≤ 19 * Xi S 246 2 + 6 * (Xi S 5 3 + 1)) (h6 : Xi S 899 6 ≤ Xi S 246 5 ∧ Xi S 246 5 ≤ 600) (ht : ∀ i : Nat, (i : Int) < Xi S 899 6 → TSok S True ((Xi S 246 5 - Xi S 899 6).toNat + i)) (d : Nat) : Mt lay0 (d + 4) m_re_endDefinition [.ref 891] S (Q_re_endDefinition S) := by
  refine Mt_R rfl rfl ?_
  have hF : FR md_re_endDefinition S S := FR.rf
  have w1 : 0 ≤ Xi S 246 2 ∧ Xi S 246 2 ≤ 24 := hH.c _ _
  have w2 : 0 ≤ Xi S 246 5 ∧ Xi S 246 5 ≤ 200000 := hH.c _ _
  have w3 : 0 ≤ Xi S 5 3 ∧ Xi S 5 3 ≤ 24 := hH.c _ _
  have w4 : -1 ≤ Xi S 895 4 ∧ Xi S 895 4 ≤ 15 := hH.c _ _
  have w5 : 0 ≤ Xi S 899 6 ∧ Xi S 899 6 ≤ 6 := hH.c _ _
  have hL := hX.1
  have h06 : 0 ≤ Xi S 899 6 ∧ Xi S 899 6 ≤ 6 := hH.c _ _
  refine l_aload_n rfl rfl ?_
  refine l_gfr rfl rfl rfl rfl rfl (hH.r 891 2 1 rfl) ?_
  refine l_iconst rfl ?_
  refine l_aload_n rfl rfl ?_
  refine l_gfr rfl rfl rfl rfl rfl (hH.r 891 0 876 rfl) ?_
  refine l_gfr rfl rfl rfl rfl rfl (hH.r 876 2 879 rfl) ?_
  refine l_aload_n rfl rfl ?_
  refine l_gfr rfl rfl rfl rfl rfl (hH.r 891 7 892 rfl) ?_
  refine l_iconst rfl ?_
  refine l_iaload (n := 24) rfl rfl (by omega) (by omega) (by unfold rg; omega) ?_
  have w6 : 0 ≤ (Xi S 892 ((0 : Int).toNat)) ∧ (Xi S 892 ((0 : Int).toNat)) ≤ 5130 := hH.c _ _
  have w7 : (Xi S 892 ((0 : Int).toNat)) = Xi S 892 0 := rfl
  refine l_aload_n rfl rfl ?_
  refine l_gfr rfl rfl rfl rfl rfl (hH.r 891 8 893 rfl) ?_
  refine l_iconst rfl ?_
  refine l_iaload (n := 24) rfl rfl (by omega) (by omega) (by unfold rg; omega) ?_
  have w8 : 0 ≤ (Xi S 893 ((0 : Int).toNat)) ∧ (Xi S 893 ((0 : Int).toNat)) ≤ 5130 := hH.c _ _
  have w9 : (Xi S 893 ((0 : Int).toNat)) = Xi S 893 0 := rfl
  have w10 : 0 ≤ Xi S 246 5 ∧ Xi S 246 5 ≤ 200000 := hH.c _ _
  have w11 : -1 ≤ Xi S 895 4 ∧ Xi S 895 4 ≤ 15 := hH.c _ _
  have w12 : 0 ≤ Xi S 899 6 ∧ Xi S 899 6 ≤ 6 := hH.c _ _
  refine l_callV rfl rfl rfl (t_vo_tellNew hH 3 879 5130 (Xi S 892 ((0 : Int).toNat)) (Xi S 893 ((0 : Int).toNat)) ⟨by omega, by omega⟩ rfl ⟨by omega, by omega⟩ ⟨by omega, by omega⟩ ⟨by omega, by omega⟩ (by first | assumption | exact (by first | assumption | exact (by assumption : WI S).1 : LEX S)) (show Xi S 5 3 + 1 ≤ 24 by first | omega | (have hz : Xi S 5 3 = Xi S 5 (3 : Int).toNat := rfl; omega)) (by first | assumption | omega) _) ?_
  rintro _ T1 ⟨hHT1, w19, z18, rfl, w18, w13, w14, w15, w16, w17⟩
  have hFT1 : FR md_re_endDefinition S T1 := FR.tr hF w19 rfl
  show Rl _ _ _ _ _ [iv z18] _ _
  have z24 : z18 = Xi S 5 3 := by have t := (by assumption : z18 = Xi S 5 (3 : Int).toNat); exact t
  have c24 : Xi T1 5 3 = Xi S 5 3 + 1 := by have t := (by assumption : Xi T1 5 (3 : Int).toNat = Xi S 5 (3 : Int).toNat + 1); exact t
  have o24 : ∀ j, j ≠ 3 → Xi T1 5 j = Xi S 5 j := by have t := (by assumption : ∀ j, j ≠ (3 : Int).toNat → Xi T1 5 j = Xi S 5 j); exact t
  have l24 : LEX T1 := by assumption
  have e24 : ∀ j, Xi T1 11 j = Xi S 11 j ∧ Xi T1 12 j = Xi S 12 j ∧ Xi T1 13 j = Xi S 13 j := fun j => ⟨((by assumption : FR md_vo_tellNew S T1).cx 11 rfl j).1, ((by assumption : FR md_vo_tellNew S T1).cx 12 rfl j).1, ((by assumption : FR md_vo_tellNew S T1).cx 13 rfl j).1⟩
  refine l_istore_n rfl rfl rfl ?_
  refine l_aload_n rfl rfl ?_
  refine l_gfr rfl rfl rfl rfl rfl (hHT1.r 891 2 1 rfl) ?_
  refine l_gfr rfl rfl rfl rfl rfl (hHT1.r 1 9 10 rfl) ?_
  refine l_iload_n rfl rfl ?_
  refine l_aload_n rfl rfl ?_
  refine l_gfr rfl rfl rfl rfl rfl (hHT1.r 891 4 895 rfl) ?_
  refine l_gfi rfl rfl rfl rfl rfl ?_
  have w20 : (Xi T1 895 4) = (Xi S 895 4) := (show Xi T1 895 4 = Xi S 895 4 from w19.x _ _ rfl)
  rw [w20]
  refine l_iastore (n := 24) rfl rfl (by omega) (by omega) (by unfold rg; omega) ?_
  obtain ⟨U2, eU2⟩ : ∃ T : sS, T = uI T1 10 ((z18).toNat) (Int32.ofInt (Xi S 895 4)) := ⟨_, rfl⟩
  rw [← eU2]
  have hHU2 : HI U2 := by rw [eU2]; exact HI_w hHT1 (show 0 ≤ (Xi S 895 4) by omega) (show (Xi S 895 4) ≤ 15 by omega)
  have hFU2 : FR md_re_endDefinition S U2 := by rw [eU2]; exact FR.wI hFT1 (mdf_i (r := (10, 11, 0, 100000)) (List.mem_of_getElem? (i := 5) rfl) (inR_i (by omega) (by omega) (by omega) (by omega)))
  have w21 : Xi U2 10 ((z18).toNat) = (Xi S 895 4) := by rw [eU2]; exact Xi_same (by unfold rg; omega)
  have q43 : ∀ k j, k ≠ 10 → Xi U2 k j = Xi T1 k j := fun k j hk => by rw [eU2, Xi_ne (by omega)]
  have l43 : LEX U2 := LEX_FR (FR_e eU2) rfl rfl l24
  refine l_aload_n rfl rfl ?_
  refine l_gfr rfl rfl rfl rfl rfl (hHU2.r 891 2 1 rfl) ?_
  refine l_gfr rfl rfl rfl rfl rfl (hHU2.r 1 10 11 rfl) ?_
  refine l_iload_n rfl rfl ?_
  refine l_iconst rfl ?_
  refine l_iastore (n := 24) rfl rfl (by omega) (by omega) (by unfold rg; omega) ?_
  obtain ⟨U3, eU3⟩ : ∃ T : sS, T = uI U2 11 ((z18).toNat) (Int32.ofInt (-1)) := ⟨_, rfl⟩
  rw [← eU3]
  have hHU3 : HI U3 := by rw [eU3]; exact HI_w hHU2 (show -1 ≤ (-1) by omega) (show (-1) ≤ 23 by omega)
  have hFU3 : FR md_re_endDefinition S U3 := by rw [eU3]; exact FR.wI hFU2 (mdf_i (r := (11, 12, 0, 100000)) (List.mem_of_getElem? (i := 6) rfl) (inR_i (by omega) (by omega) (by omega) (by omega)))
  have w22 : Xi U3 11 ((z18).toNat) = (-1) := by rw [eU3]; exact Xi_same (by unfold rg; omega)
  have q53 : ∀ k j, k ≠ 11 → Xi U3 k j = Xi U2 k j := fun k j hk => by rw [eU3, Xi_ne (by omega)]
  have r53 : ∀ j : Nat, j ≠ (z18).toNat → Xi U3 11 j = Xi U2 11 j := fun j hj => by rw [eU3, Xi_ne (by omega)]
  have l53 : LEX U3 := LEX_FR (FR_e eU3) rfl rfl l43
  refine l_aload_n rfl rfl ?_
  refine l_gfr rfl rfl rfl rfl rfl (hHU3.r 891 5 899 rfl) ?_
  refine l_iload_n rfl rfl ?_
  have w23 : Xi U3 246 5 = Xi S 246 5 := (show Xi U3 246 5 = Xi U2 246 5 from by rw [eU3]; exact Xi_ne (by omega)).trans ( (show Xi U2 246 5 = Xi T1 246 5 from by rw [eU2]; exact Xi_ne (by omega)).trans ((show Xi T1 246 5 = Xi S 246 5 from w19.x _ _ rfl)))
  have w24 : 0 ≤ Xi S 246 5 ∧ Xi S 246 5 ≤ 200000 := hH.c _ _
  have w25 : Xi U3 895 4 = Xi S 895 4 := (show Xi U3 895 4 = Xi U2 895 4 from by rw [eU3]; exact Xi_ne (by omega)).trans ( (show Xi U2 895 4 = Xi T1 895 4 from by rw [eU2]; exact Xi_ne (by omega)).trans ((show Xi T1 895 4 = Xi S 895 4 from w19.x _ _ rfl)))
  have w26 : -1 ≤ Xi S 895 4 ∧ Xi S 895 4 ≤ 15 := hH.c _ _
  have w27 : Xi U3 899 6 = Xi S 899 6 := (show Xi U3 899 6 = Xi U2 899 6 from by rw [eU3]; exact Xi_ne (by omega)).trans ( (show Xi U2 899 6 = Xi T1 899 6 from by rw [eU2]; exact Xi_ne (by omega)).trans ((show Xi T1 899 6 = Xi S 899 6 from w19.x _ _ rfl)))
  have w28 : 0 ≤ Xi S 899 6 ∧ Xi S 899 6 ≤ 6 := hH.c _ _
  refine l_callV rfl rfl rfl (t_rr_keepTests hHU3 z18 ⟨by omega, by omega⟩ _) ?_
  rintro _ T4 ⟨hHT4, w32, rfl, w29, w30⟩
  have hFT4 : FR md_re_endDefinition S T4 := FR.tr hFU3 w32 rfl
  show Rl _ _ _ _ _ [] _ _
  have l59 : LEX T4 := LEX_FR (by assumption : FR md_rr_keepTests U3 T4) rfl rfl l53
  have q59 : ∀ j, Xi T4 5 j = Xi U3 5 j ∧ Xi T4 11 j = Xi U3 11 j := fun j => ⟨((by assumption : FR md_rr_keepTests U3 T4).cx 5 rfl j).1, ((by assumption : FR md_rr_keepTests U3 T4).cx 11 rfl j).1⟩
  have p59 : ∀ j, Xi T4 5 j = Xi T1 5 j := fun j => ((q59 j).1.trans (q53 5 j (by decide))).trans (q43 5 j (by decide))
  have a59 : Xi T4 12 (z18).toNat = Xi U3 246 5 - Xi U3 899 6 ∧ Xi T4 13 (z18).toNat = Xi U3 899 6 := by assumption
  have b59 : ∀ j : Nat, j ≠ (z18).toNat → Xi T4 12 j = Xi U3 12 j ∧ Xi T4 13 j = Xi U3 13 j := by assumption
  have k59 : ∀ j : Nat, j ≠ (z18).toNat → Xi T4 11 j = Xi S 11 j ∧ Xi T4 12 j = Xi S 12 j ∧ Xi T4 13 j = Xi S 13 j := fun j hj => ⟨((q59 j).2.trans (r53 j hj)).trans ((q43 11 j (by decide)).trans (e24 j).1), ((b59 j hj).1.trans (q53 12 j (by decide))).trans ((q43 12 j (by decide)).trans (e24 j).2.1), ((b59 j hj).2.trans (q53 13 j (by decide))).trans ((q43 13 j (by decide)).trans (e24 j).2.2)⟩
  have w59 : WI T4 := WI_df hH hFT4 rfl rfl rfl rfl rfl l59 (fun j hj => (p59 j).trans (o24 j hj)) ((p59 3).trans c24) z24 k59 (by omega) (by omega) (by omega) ht hcc hX
  refine l_iconst rfl ?_
  refine l_ireturn rfl rfl ?_
  have w33 : Xi T4 246 5 = Xi S 246 5 := (show Xi T4 246 5 = Xi U3 246 5 from w32.x _ _ rfl).trans ( (show Xi U3 246 5 = Xi U2 246 5 from by rw [eU3]; exact Xi_ne (by omega)).trans ( (show Xi U2 246 5 = Xi T1 246 5 from by rw [eU2]; exact Xi_ne (by omega)).trans ((show Xi T1 246 5 = Xi S 246 5 from w19.x _ _ rfl))))
  have w34 : 0 ≤ Xi S 246 5 ∧ Xi S 246 5 ≤ 200000 := hH.c _ _
  have w35 : Xi T4 895 4 = Xi S 895 4 := (show Xi T4 895 4 = Xi U3 895 4 from w32.x _ _ rfl).trans ( (show Xi U3 895 4 = Xi U2 895 4 from by rw [eU3]; exact Xi_ne (by omega)).trans ( (show Xi U2 895 4 = Xi T1 895 4 from by rw [eU2]; exact Xi_ne (by omega)).trans ((show Xi T1 895 4 = Xi S 895 4 from w19.x _ _ rfl))))
  have w36 : -1 ≤ Xi S 895 4 ∧ Xi S 895 4 ≤ 15 := hH.c _ _
  have w37 : Xi T4 899 6 = Xi S 899 6 := (show Xi T4 899 6 = Xi U3 899 6 from w32.x _ _ rfl).trans ( (show Xi U3 899 6 = Xi U2 899 6 from by rw [eU3]; exact Xi_ne (by omega)).trans ( (show Xi U2 899 6 = Xi T1 899 6 from by rw [eU2]; exact Xi_ne (by omega)).trans ((show Xi T1 899 6 = Xi S 899 6 from w19.x _ _ rfl))))
  have w38 : 0 ≤ Xi S 899 6 ∧ Xi S 899 6 ≤ 6 := hH.c _ _
  exact ⟨hHT4, hFT4, _, rfl, ⟨by omega, by omega⟩, (w59), (by omega)⟩

