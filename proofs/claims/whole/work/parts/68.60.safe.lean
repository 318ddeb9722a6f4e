/-! SAFETY of methods: printed by wip/safe (vc.py, decl.py) -/
def md_to_open : List rec := [(876, 877, 4, 5), (876, 877, 5, 6), (876, 877, 8, 9), (876, 877, 9, 10)]
abbrev Q_to_open (S : sS) (b : Nat) (n : Int) : pst := fun r S1 => HI S1 ∧ FR md_to_open S S1 ∧ (r = none ∧ (S1.2.2 876 4 = some b) ∧ (Xi S1 876 5 = n ∧ Xi S1 876 8 = 0))
set_option maxRecDepth 100000 in
theorem t_to_open {S : sS} (hH : HI S) (b : Nat) (n : Int) (hb : tp b) (hn : 0 ≤ n ∧ n ≤ 5000) (d : Nat) : Mt lay0 (d + 1) m_to_open [.ref 876, .ref b, iv n] S (Q_to_open S b n) := by
  refine Mt_R rfl rfl ?_
  have hF : FR md_to_open S S := FR.rf
  refine l_aload_n rfl rfl ?_
  refine l_aload_n rfl rfl ?_
  refine l_pfr rfl rfl rfl rfl ?_
  obtain ⟨U1, eU1⟩ : ∃ T : sS, T = uR S 876 4 (some b) := ⟨_, rfl⟩
  rw [← eU1]
  have hHU1 : HI U1 := by rw [eU1]; exact HI_R hH rfl rfl (fun q => absurd q.1 (by decide)) (fun q => absurd q.1 (by decide)) (fun q => absurd q.1 (by decide)) (fun _ => ⟨_, rfl, by first | assumption | (right; assumption) | omega⟩) (fun q => absurd q.1 (by decide))
  have hFU1 : FR md_to_open S U1 := by rw [eU1]; exact FR.wR hF (mdf_i (r := (876, 877, 4, 5)) (List.mem_of_getElem? (i := 0) rfl) (inR_i (by omega) (by omega) (by omega) (by omega)))
  refine l_aload_n rfl rfl ?_
  refine l_iload_n rfl rfl ?_
  refine l_pfi rfl rfl rfl rfl ?_
  obtain ⟨U2, eU2⟩ : ∃ T : sS, T = uI U1 876 5 (Int32.ofInt n) := ⟨_, rfl⟩
  rw [← eU2]
  have hHU2 : HI U2 := by rw [eU2]; exact HI_w hHU1 (show 0 ≤ n by omega) (show n ≤ 5000 by omega)
  have hFU2 : FR md_to_open S U2 := by rw [eU2]; exact FR.wI hFU1 (mdf_i (r := (876, 877, 5, 6)) (List.mem_of_getElem? (i := 1) rfl) (inR_i (by omega) (by omega) (by omega) (by omega)))
  have w1 : Xi U2 876 5 = n := by rw [eU2]; exact Xi_same (by unfold rg; omega)
  refine l_aload_n rfl rfl ?_
  refine l_iconst rfl ?_
  refine l_pfi rfl rfl rfl rfl ?_
  obtain ⟨U3, eU3⟩ : ∃ T : sS, T = uI U2 876 8 (Int32.ofInt 0) := ⟨_, rfl⟩
  rw [← eU3]
  have hHU3 : HI U3 := by rw [eU3]; exact HI_w hHU2 (show 0 ≤ 0 by omega) (show 0 ≤ 9 by omega)
  have hFU3 : FR md_to_open S U3 := by rw [eU3]; exact FR.wI hFU2 (mdf_i (r := (876, 877, 8, 9)) (List.mem_of_getElem? (i := 2) rfl) (inR_i (by omega) (by omega) (by omega) (by omega)))
  have w2 : Xi U3 876 8 = 0 := by rw [eU3]; exact Xi_same (by unfold rg; omega)
  refine l_aload_n rfl rfl ?_
  refine l_iconst rfl ?_
  refine l_pfi rfl rfl rfl rfl ?_
  obtain ⟨U4, eU4⟩ : ∃ T : sS, T = uI U3 876 9 (Int32.ofInt 0) := ⟨_, rfl⟩
  rw [← eU4]
  have hHU4 : HI U4 := by rw [eU4]; exact HI_w hHU3 (show 0 ≤ 0 by omega) (show 0 ≤ 5000 by omega)
  have hFU4 : FR md_to_open S U4 := by rw [eU4]; exact FR.wI hFU3 (mdf_i (r := (876, 877, 9, 10)) (List.mem_of_getElem? (i := 3) rfl) (inR_i (by omega) (by omega) (by omega) (by omega)))
  have w3 : Xi U4 876 9 = 0 := by rw [eU4]; exact Xi_same (by unfold rg; omega)
  refine l_return rfl rfl ?_
  have w4 : Xi U4 876 5 = Xi U2 876 5 := (show Xi U4 876 5 = Xi U3 876 5 from by rw [eU4]; exact Xi_ne (by omega)).trans ((show Xi U3 876 5 = Xi U2 876 5 from by rw [eU3]; exact Xi_ne (by omega)))
  have w5 : 0 ≤ Xi U2 876 5 ∧ Xi U2 876 5 ≤ 5000 := hHU2.c _ _
  have w6 : Xi U4 876 8 = Xi U3 876 8 := (show Xi U4 876 8 = Xi U3 876 8 from by rw [eU4]; exact Xi_ne (by omega))
  have w7 : 0 ≤ Xi U3 876 8 ∧ Xi U3 876 8 ≤ 9 := hHU3.c _ _
  exact ⟨hHU4, hFU4, rfl, (by rw [eU4, eU3, eU2, eU1]; show (uR S 876 4 (some b)).2.2 876 4 = some b; exact uR_s), (by omega)⟩
/-! SAFETY: read -/
theorem srx_of {S : sS} {t : Nat} (h : S.2.2 20 1 = some t) (ht : tp t) : SRX S ∧ txr S = t := by
  have e : txr S = t := by unfold txr; rw [h]; rfl
  exact ⟨⟨by rw [e]; exact h, by rw [e]; exact ht⟩, e⟩
theorem dot_end {S : sS} {n G m : Int} (h1 : 1 ≤ n) (hn : ND S (n - 1)) (h : SAY S G ∧ 1 ≤ G ∧ G ≤ n ∧ Xi S 877 (G - 1).toNat = 103) (hm : m = n) : SAY S m ∧ Xi S 877 (m - 1).toNat = 103 := by
  obtain ⟨a, b, c, e⟩ := h
  have g : G = n := by
    by_cases q : G - 1 < n - 1
    · exact absurd e (hn (G - 1).toNat (by omega))
    · omega
  rw [hm, ← g]
  exact ⟨a, e⟩
/-- other texts: before a rule is told -/
theorem TXT_r {S U : sS} {t : Nat} {v n : Int} (e : U = uR S 20 1 (some t)) (ht : tp t) (h : TXT S v n) : TXT U v n := h.elim Or.inl (fun q => Or.inr ⟨q.1, q.2.1, (srx_of (S := U) (t := t) (by rw [e]; exact uR_s) ht).1⟩)
theorem WI_tx {S U : sS} {t : Nat} (e : U = uR S 20 1 (some t)) (ht : tp t) (hr : Xi S 246 2 = 0) (hW : WI S) : WI U := by
  obtain ⟨w1, w2, w3, w4, w5, w6, w7, w8⟩ := hW
  have x : ∀ k j, Xi U k j = Xi S k j := fun k j => by rw [e]; rfl
  have f := FR_R e
  refine ⟨LEX_FR f rfl rfl w1, fun r p h1 h2 h3 => ?_, fun a h1 h2 => ?_, fun i hi => ?_, CMD_FR f rfl w5, AK_FR f rfl w6, ?_, VAL_fr f rfl (x 5 4) w8⟩
  · rw [x] at h3
    rw [x, x]
    exact TXT_r e ht (w2 r p h1 h2 h3)
  · rw [x] at h1 h2
    simp only [x]
    obtain ⟨b, c⟩ := w3 a h1 h2
    refine ⟨b, fun i hi => ?_⟩
    obtain ⟨⟨k0, k1, k2, k3, k4, k5, k6, k7⟩, k8⟩ := c i hi
    unfold TSok CLok
    simp only [x]
    exact ⟨⟨k0, fun q => ⟨(k1 q).1, TXT_r e ht (k1 q).2⟩, k2, k3, k4, fun q => by omega, k6, k7⟩, k8⟩
  · rw [x] at hi
    omega
  · unfold CC
    simp only [x]
    exact w7
def md_rs_read : List rec := [(0, 1, 8, 9), (0, 1, 9, 10), (0, 1, 10, 11), (0, 1, 11, 12), (1, 2, 3, 4), (2, 3, 0, 100000), (3, 4, 0, 100000), (4, 5, 0, 100000), (5, 6, 0, 100000), (6, 7, 0, 100000), (7, 8, 0, 100000), (8, 9, 0, 100000), (9, 10, 0, 100000), (10, 11, 0, 100000), (11, 12, 0, 100000), (12, 13, 0, 100000), (13, 14, 0, 100000), (14, 15, 0, 100000), (15, 16, 0, 100000), (16, 17, 0, 100000), (17, 18, 0, 100000), (18, 19, 0, 100000), (19, 20, 0, 100000), (20, 21, 1, 2), (20, 21, 12, 13), (21, 22, 0, 100000), (22, 23, 0, 100000), (23, 24, 0, 100000), (25, 65, 0, 100000), (66, 106, 0, 100000), (107, 147, 0, 100000), (148, 188, 0, 100000), (189, 195, 0, 100000), (196, 220, 0, 100000), (221, 245, 0, 100000), (246, 247, 2, 3), (246, 247, 5, 6), (246, 247, 8, 9), (248, 272, 0, 100000), (272, 273, 0, 100000), (274, 275, 0, 100000), (275, 276, 0, 100000), (276, 876, 0, 1), (276, 876, 1, 2), (276, 876, 2, 3), (276, 876, 3, 4), (276, 876, 4, 5), (276, 876, 5, 6), (276, 876, 6, 7), (876, 877, 4, 5), (876, 877, 5, 6), (876, 877, 6, 7), (876, 877, 7, 8), (876, 877, 8, 9), (876, 877, 9, 10), (877, 878, 0, 100000), (878, 879, 0, 100000), (879, 880, 0, 100000), (882, 883, 3, 4), (882, 883, 10, 11), (883, 884, 0, 100000), (884, 885, 0, 100000), (885, 886, 0, 100000), (886, 887, 0, 100000), (887, 888, 0, 100000), (888, 889, 0, 100000), (890, 891, 1, 2), (890, 891, 2, 3), (890, 891, 3, 4), (891, 892, 9, 10), (891, 892, 10, 11), (891, 892, 11, 12), (891, 892, 12, 13), (892, 893, 0, 100000), (893, 894, 0, 100000), (894, 895, 0, 100000), (895, 896, 3, 4), (895, 896, 4, 5), (895, 896, 5, 6), (895, 896, 6, 7), (895, 896, 7, 8), (895, 896, 8, 9), (895, 896, 9, 10), (895, 896, 10, 11), (895, 896, 11, 12), (895, 896, 12, 13), (895, 896, 13, 14), (895, 896, 14, 15), (896, 897, 0, 100000), (897, 898, 0, 100000), (898, 899, 0, 100000), (899, 900, 4, 5), (899, 900, 5, 6), (899, 900, 6, 7), (900, 901, 4, 5)]
abbrev Q_rs_read (S : sS) (ts : Nat) (tq : Nat) : pst := fun r S1 => HI S1 ∧ FR md_rs_read S S1 ∧ (∃ z : Int, r = some (iv z) ∧ (-5010 ≤ z ∧ z ≤ 5000) ∧ (WI S1) ∧ (ORD S1) ∧ (S1.2.2 0 8 = some tq) ∧ (S1.2.2 0 9 = some ts) ∧ (S1.2.2 20 1 = some ts) ∧ (S1.2.2 876 4 = some ts))
set_option maxRecDepth 100000 in
set_option maxHeartbeats 4000000 in
theorem t_rs_read {S : sS} (hH : HI S) (ts : Nat) (tq : Nat) (h8 : S.2.2 0 8 = some ts) (h9 : S.2.2 0 9 = some tq) (htp : tp ts) (htq : tp tq) (d : Nat) : Mt lay0 (d + 10) m_rs_read [.ref 0] S (Q_rs_read S ts tq) := by
  refine Mt_R rfl rfl ?_
  have hF : FR md_rs_read S S := FR.rf
  have w1 : 0 ≤ Xi S 876 5 ∧ Xi S 876 5 ≤ 5000 := hH.c _ _
  have w2 : 0 ≤ Xi S 876 8 ∧ Xi S 876 8 ≤ 9 := hH.c _ _
  have C69 : ∀ (n69 : Nat) (T1 : sS) (_ : HI T1) (_ : FR md_rs_read S T1) (v1 : Int) (v3 : Int) (v4 : Int), (0 ≤ v1 ∧ v1 ≤ 5000) → (0 ≤ v3 ∧ v3 ≤ 5000) → (0 ≤ v4 ∧ v4 ≤ 5000) → (T1.2.2 876 4 = some ts) → (T1.2.2 20 1 = some ts) → (T1.2.2 0 8 = some tq) → (T1.2.2 0 9 = some ts) → (v4 ≤ v1) → (Xi T1 876 5 = v1) → (Xi T1 876 8 = 0 → WI T1) → n69 = (5001 - v3).toNat → Rl lay0 (d + 9) m_rs_read 69 [(0, .ref 0), (1, iv v1), (3, iv v3), (4, iv v4)] [] T1 (Q_rs_read S ts tq) := by
    intro n69
    induction n69 using Nat.strongRecOn with
    | ind n69 ih69 =>
      intro T1 hHT1 hFT1 v1 v3 v4 w3 w4 w5 h76_69 h20_69 h08_69 h09_69 w6 w7 hW69 hm69
      have w8 : 0 ≤ Xi T1 876 5 ∧ Xi T1 876 5 ≤ 5000 := hHT1.c _ _
      have w9 : 0 ≤ Xi T1 876 8 ∧ Xi T1 876 8 ≤ 9 := hHT1.c _ _
      have C203 : ∀  (T2 : sS) (_ : HI T2) (_ : FR md_rs_read S T2) (v3 : Int), (0 ≤ v3 ∧ v3 ≤ 5000) → (T2.2.2 876 4 = some ts) → (T2.2.2 20 1 = some ts) → (T2.2.2 0 8 = some tq) → (T2.2.2 0 9 = some ts) → (Xi T2 876 8 = 0 → WI T2) → Rl lay0 (d + 9) m_rs_read 203 [(0, .ref 0), (3, iv v3)] [] T2 (Q_rs_read S ts tq) := by
        intro T2 hHT2 hFT2 v3 w10 h76_203 h20_203 h08_203 h09_203 hW203
        have w11 : 0 ≤ Xi T2 876 8 ∧ Xi T2 876 8 ≤ 9 := hHT2.c _ _
        refine l_iload_n rfl rfl ?_
        refine l_if_ne rfl rfl (by unfold rg; omega) (fun w12 => ?_) (fun w13 => ?_)
        · refine l_aload_n rfl rfl ?_
          refine l_aload_n rfl rfl ?_
          refine l_gfr rfl rfl rfl rfl rfl (hHT2.r 0 4 876 rfl) ?_
          refine l_gfi rfl rfl rfl rfl rfl ?_
          refine l_pfi rfl rfl rfl rfl ?_
          obtain ⟨U3, eU3⟩ : ∃ T : sS, T = uI T2 0 11 (Int32.ofInt (Xi T2 876 8)) := ⟨_, rfl⟩
          rw [← eU3]
          have hHU3 : HI U3 := by rw [eU3]; exact HI_w hHT2 (show 0 ≤ (Xi T2 876 8) by omega) (show (Xi T2 876 8) ≤ 9 by omega)
          have hFU3 : FR md_rs_read S U3 := by rw [eU3]; exact FR.wI hFT2 (mdf_i (r := (0, 1, 11, 12)) (List.mem_of_getElem? (i := 3) rfl) (inR_i (by omega) (by omega) (by omega) (by omega)))
          have w14 : Xi U3 0 11 = (Xi T2 876 8) := by rw [eU3]; exact Xi_same (by unfold rg; omega)
          have e225 : Xi U3 0 11 = Xi T2 876 8 := by omega
          have W225 : Xi U3 876 8 = 0 → WI U3 := fun q => WI_FR hHT2 (FR_e eU3) rfl rfl rfl rfl rfl rfl rfl rfl rfl (by first | exact W213 (by rw [eU3, Xi_ne (by omega)] at q; exact q) | exact hW203 (by rw [eU3, Xi_ne (by omega)] at q; exact q))
          have f225 : Xi U3 876 8 = Xi T2 876 8 := by rw [eU3, Xi_ne (by omega)]
          refine l_aload_n rfl rfl ?_
          refine l_gfi rfl rfl rfl rfl rfl ?_
          refine l_if_eq rfl rfl (by unfold rg; omega) (fun w15 => ?_) (fun w16 => ?_)
          · refine l_aload_n rfl rfl ?_
            refine l_gfr rfl rfl rfl rfl rfl (hHU3.r 0 1 20 rfl) ?_
            have w17 : Xi U3 876 5 = Xi T2 876 5 := (show Xi U3 876 5 = Xi T2 876 5 from by rw [eU3]; exact Xi_ne (by omega))
            have w18 : 0 ≤ Xi T2 876 5 ∧ Xi T2 876 5 ≤ 5000 := hHT2.c _ _
            have w19 : Xi U3 876 6 = Xi T2 876 6 := (show Xi U3 876 6 = Xi T2 876 6 from by rw [eU3]; exact Xi_ne (by omega))
            have w20 : 0 ≤ Xi T2 876 6 ∧ Xi T2 876 6 ≤ 5002 := hHT2.c _ _
            have w21 : Xi U3 876 7 = Xi T2 876 7 := (show Xi U3 876 7 = Xi T2 876 7 from by rw [eU3]; exact Xi_ne (by omega))
            have w22 : 0 ≤ Xi T2 876 7 ∧ Xi T2 876 7 ≤ 5125 := hHT2.c _ _
            have w23 : Xi U3 876 8 = Xi T2 876 8 := (show Xi U3 876 8 = Xi T2 876 8 from by rw [eU3]; exact Xi_ne (by omega))
            have w24 : 0 ≤ Xi T2 876 8 ∧ Xi T2 876 8 ≤ 9 := hHT2.c _ _
            have w25 : Xi U3 890 2 = Xi T2 890 2 := (show Xi U3 890 2 = Xi T2 890 2 from by rw [eU3]; exact Xi_ne (by omega))
            have w26 : 0 ≤ Xi T2 890 2 ∧ Xi T2 890 2 ≤ 20 := hHT2.c _ _
            refine l_callV rfl rfl rfl (t_wo_placePlayer hHU3 _) ?_
            rintro _ T4 ⟨hHT4, w28, rfl⟩
            have hFT4 : FR md_rs_read S T4 := FR.tr hFU3 w28 rfl
            show Rl _ _ _ _ _ [] _ _
            have W254 : WI T4 := WI_FR hHU3 (by assumption : FR md_wo_placePlayer U3 T4) rfl rfl rfl rfl rfl rfl rfl rfl rfl (W225 (by omega))
            refine l_aload_n rfl rfl ?_
            refine l_gfr rfl rfl rfl rfl rfl (hHT4.r 0 2 246 rfl) ?_
            have w29 : Xi T4 876 5 = Xi T2 876 5 := (show Xi T4 876 5 = Xi U3 876 5 from w28.x _ _ rfl).trans ((show Xi U3 876 5 = Xi T2 876 5 from by rw [eU3]; exact Xi_ne (by omega)))
            have w30 : 0 ≤ Xi T2 876 5 ∧ Xi T2 876 5 ≤ 5000 := hHT2.c _ _
            have w31 : Xi T4 876 6 = Xi T2 876 6 := (show Xi T4 876 6 = Xi U3 876 6 from w28.x _ _ rfl).trans ((show Xi U3 876 6 = Xi T2 876 6 from by rw [eU3]; exact Xi_ne (by omega)))
            have w32 : 0 ≤ Xi T2 876 6 ∧ Xi T2 876 6 ≤ 5002 := hHT2.c _ _
            have w33 : Xi T4 876 7 = Xi T2 876 7 := (show Xi T4 876 7 = Xi U3 876 7 from w28.x _ _ rfl).trans ((show Xi U3 876 7 = Xi T2 876 7 from by rw [eU3]; exact Xi_ne (by omega)))
            have w34 : 0 ≤ Xi T2 876 7 ∧ Xi T2 876 7 ≤ 5125 := hHT2.c _ _
            have w35 : Xi T4 876 8 = Xi T2 876 8 := (show Xi T4 876 8 = Xi U3 876 8 from w28.x _ _ rfl).trans ((show Xi U3 876 8 = Xi T2 876 8 from by rw [eU3]; exact Xi_ne (by omega)))
            have w36 : 0 ≤ Xi T2 876 8 ∧ Xi T2 876 8 ≤ 9 := hHT2.c _ _
            have w37 : Xi T4 890 2 = Xi T2 890 2 := (show Xi T4 890 2 = Xi U3 890 2 from w28.x _ _ rfl).trans ((show Xi U3 890 2 = Xi T2 890 2 from by rw [eU3]; exact Xi_ne (by omega)))
            have w38 : 0 ≤ Xi T2 890 2 ∧ Xi T2 890 2 ≤ 20 := hHT2.c _ _
            refine l_callV rfl rfl rfl (t_bo_putInOrder hHT4 _) ?_
            rintro _ T5 ⟨hHT5, w41, rfl, w39⟩
            have hFT5 : FR md_rs_read S T5 := FR.tr hFT4 w41 rfl
            show Rl _ _ _ _ _ [] _ _
            have W261 : WI T5 := WI_FR hHT4 (by assumption : FR md_bo_putInOrder T4 T5) rfl rfl rfl rfl rfl rfl rfl rfl rfl W254
            have o261 : ORD T5 := by assumption
            refine l_iload_n rfl rfl ?_
            refine l_ireturn rfl rfl ?_
            have w42 : Xi T5 876 5 = Xi T2 876 5 := (show Xi T5 876 5 = Xi T4 876 5 from w41.x _ _ rfl).trans ( (show Xi T4 876 5 = Xi U3 876 5 from w28.x _ _ rfl).trans ((show Xi U3 876 5 = Xi T2 876 5 from by rw [eU3]; exact Xi_ne (by omega))))
            have w43 : 0 ≤ Xi T2 876 5 ∧ Xi T2 876 5 ≤ 5000 := hHT2.c _ _
            have w44 : Xi T5 876 6 = Xi T2 876 6 := (show Xi T5 876 6 = Xi T4 876 6 from w41.x _ _ rfl).trans ( (show Xi T4 876 6 = Xi U3 876 6 from w28.x _ _ rfl).trans ((show Xi U3 876 6 = Xi T2 876 6 from by rw [eU3]; exact Xi_ne (by omega))))
            have w45 : 0 ≤ Xi T2 876 6 ∧ Xi T2 876 6 ≤ 5002 := hHT2.c _ _
            have w46 : Xi T5 876 7 = Xi T2 876 7 := (show Xi T5 876 7 = Xi T4 876 7 from w41.x _ _ rfl).trans ( (show Xi T4 876 7 = Xi U3 876 7 from w28.x _ _ rfl).trans ((show Xi U3 876 7 = Xi T2 876 7 from by rw [eU3]; exact Xi_ne (by omega))))
            have w47 : 0 ≤ Xi T2 876 7 ∧ Xi T2 876 7 ≤ 5125 := hHT2.c _ _
            have w48 : Xi T5 876 8 = Xi T2 876 8 := (show Xi T5 876 8 = Xi T4 876 8 from w41.x _ _ rfl).trans ( (show Xi T4 876 8 = Xi U3 876 8 from w28.x _ _ rfl).trans ((show Xi U3 876 8 = Xi T2 876 8 from by rw [eU3]; exact Xi_ne (by omega))))
            have w49 : 0 ≤ Xi T2 876 8 ∧ Xi T2 876 8 ≤ 9 := hHT2.c _ _
            have w50 : Xi T5 890 2 = Xi T2 890 2 := (show Xi T5 890 2 = Xi T4 890 2 from w41.x _ _ rfl).trans ( (show Xi T4 890 2 = Xi U3 890 2 from w28.x _ _ rfl).trans ((show Xi U3 890 2 = Xi T2 890 2 from by rw [eU3]; exact Xi_ne (by omega))))
            have w51 : 0 ≤ Xi T2 890 2 ∧ Xi T2 890 2 ≤ 20 := hHT2.c _ _
            exact ⟨hHT5, hFT5, _, rfl, ⟨by omega, by omega⟩, (by first | exact W236 | exact W261), (by first | exact o236 | exact o261), (((w41 0 8 rfl).2.2.trans ((w28 0 8 rfl).2.2.trans ((show U3.2.2 0 8 = T2.2.2 0 8 from by rw [eU3]; rfl).trans h08_203)))), (((w41 0 9 rfl).2.2.trans ((w28 0 9 rfl).2.2.trans ((show U3.2.2 0 9 = T2.2.2 0 9 from by rw [eU3]; rfl).trans h09_203)))), (((w41 20 1 rfl).2.2.trans ((w28 20 1 rfl).2.2.trans ((show U3.2.2 20 1 = T2.2.2 20 1 from by rw [eU3]; rfl).trans h20_203)))), (((w41 876 4 rfl).2.2.trans ((w28 876 4 rfl).2.2.trans ((show U3.2.2 876 4 = T2.2.2 876 4 from by rw [eU3]; rfl).trans h76_203))))⟩
          · refine l_aload_n rfl rfl ?_
            have w52 : Xi U3 876 5 = Xi T2 876 5 := (show Xi U3 876 5 = Xi T2 876 5 from by rw [eU3]; exact Xi_ne (by omega))
            have w53 : 0 ≤ Xi T2 876 5 ∧ Xi T2 876 5 ≤ 5000 := hHT2.c _ _
            have w54 : Xi U3 876 6 = Xi T2 876 6 := (show Xi U3 876 6 = Xi T2 876 6 from by rw [eU3]; exact Xi_ne (by omega))
            have w55 : 0 ≤ Xi T2 876 6 ∧ Xi T2 876 6 ≤ 5002 := hHT2.c _ _
            have w56 : Xi U3 876 7 = Xi T2 876 7 := (show Xi U3 876 7 = Xi T2 876 7 from by rw [eU3]; exact Xi_ne (by omega))
            have w57 : 0 ≤ Xi T2 876 7 ∧ Xi T2 876 7 ≤ 5125 := hHT2.c _ _
            have w58 : Xi U3 876 8 = Xi T2 876 8 := (show Xi U3 876 8 = Xi T2 876 8 from by rw [eU3]; exact Xi_ne (by omega))
            have w59 : 0 ≤ Xi T2 876 8 ∧ Xi T2 876 8 ≤ 9 := hHT2.c _ _
            have w60 : Xi U3 890 2 = Xi T2 890 2 := (show Xi U3 890 2 = Xi T2 890 2 from by rw [eU3]; exact Xi_ne (by omega))
            have w61 : 0 ≤ Xi T2 890 2 ∧ Xi T2 890 2 ≤ 20 := hHT2.c _ _
            refine l_callV rfl rfl rfl (t_rs_startAgain hHU3 _) ?_
            rintro _ T6 ⟨hHT6, w65, rfl, w62, w63⟩
            have hFT6 : FR md_rs_read S T6 := FR.tr hFU3 w65 rfl
            show Rl _ _ _ _ _ [] _ _
            have W236 : WI T6 := by assumption
            have o236 : ORD T6 := fun i hi => by omega
            refine l_bipush rfl rfl ?_
            refine l_aload_n rfl rfl ?_
            refine l_gfr rfl rfl rfl rfl rfl (hHT6.r 0 4 876 rfl) ?_
            refine l_gfi rfl rfl rfl rfl rfl ?_
            have w66 : 0 ≤ (Xi T6 876 9) ∧ (Xi T6 876 9) ≤ 5000 := hHT6.c _ _
            refine l_isub rfl ?_
            refine l_ireturn rfl rfl ?_
            have w67 : Xi T6 876 5 = Xi T2 876 5 := (show Xi T6 876 5 = Xi U3 876 5 from w65.x _ _ rfl).trans ((show Xi U3 876 5 = Xi T2 876 5 from by rw [eU3]; exact Xi_ne (by omega)))
            have w68 : 0 ≤ Xi T2 876 5 ∧ Xi T2 876 5 ≤ 5000 := hHT2.c _ _
            have w69 : Xi T6 876 6 = Xi T2 876 6 := (show Xi T6 876 6 = Xi U3 876 6 from w65.x _ _ rfl).trans ((show Xi U3 876 6 = Xi T2 876 6 from by rw [eU3]; exact Xi_ne (by omega)))
            have w70 : 0 ≤ Xi T2 876 6 ∧ Xi T2 876 6 ≤ 5002 := hHT2.c _ _
            have w71 : Xi T6 876 7 = Xi T2 876 7 := (show Xi T6 876 7 = Xi U3 876 7 from w65.x _ _ rfl).trans ((show Xi U3 876 7 = Xi T2 876 7 from by rw [eU3]; exact Xi_ne (by omega)))
            have w72 : 0 ≤ Xi T2 876 7 ∧ Xi T2 876 7 ≤ 5125 := hHT2.c _ _
            have w73 : Xi T6 876 8 = Xi T2 876 8 := (show Xi T6 876 8 = Xi U3 876 8 from w65.x _ _ rfl).trans ((show Xi U3 876 8 = Xi T2 876 8 from by rw [eU3]; exact Xi_ne (by omega)))
            have w74 : 0 ≤ Xi T2 876 8 ∧ Xi T2 876 8 ≤ 9 := hHT2.c _ _
            have w75 : Xi T6 890 2 = Xi T2 890 2 := (show Xi T6 890 2 = Xi U3 890 2 from w65.x _ _ rfl).trans ((show Xi U3 890 2 = Xi T2 890 2 from by rw [eU3]; exact Xi_ne (by omega)))
            have w76 : 0 ≤ Xi T2 890 2 ∧ Xi T2 890 2 ≤ 20 := hHT2.c _ _
            exact ⟨hHT6, hFT6, _, rfl, ⟨by omega, by omega⟩, (by first | exact W236 | exact W261), (by first | exact o236 | exact o261), (((w65 0 8 rfl).2.2.trans ((show U3.2.2 0 8 = T2.2.2 0 8 from by rw [eU3]; rfl).trans h08_203))), (((w65 0 9 rfl).2.2.trans ((show U3.2.2 0 9 = T2.2.2 0 9 from by rw [eU3]; rfl).trans h09_203))), (((w65 20 1 rfl).2.2.trans ((show U3.2.2 20 1 = T2.2.2 20 1 from by rw [eU3]; rfl).trans h20_203))), (((w65 876 4 rfl).2.2.trans ((show U3.2.2 876 4 = T2.2.2 876 4 from by rw [eU3]; rfl).trans h76_203)))⟩
        · refine l_aload_n rfl rfl ?_
          refine l_gfr rfl rfl rfl rfl rfl (hHT2.r 0 4 876 rfl) ?_
          refine l_iconst rfl ?_
          refine l_iconst rfl ?_
          have w77 : 0 ≤ Xi T2 876 5 ∧ Xi T2 876 5 ≤ 5000 := hHT2.c _ _
          have w78 : 0 ≤ Xi T2 876 6 ∧ Xi T2 876 6 ≤ 5002 := hHT2.c _ _
          have w79 : 0 ≤ Xi T2 876 7 ∧ Xi T2 876 7 ≤ 5125 := hHT2.c _ _
          have w80 : 0 ≤ Xi T2 876 8 ∧ Xi T2 876 8 ≤ 9 := hHT2.c _ _
          have w81 : 0 ≤ Xi T2 890 2 ∧ Xi T2 890 2 ≤ 20 := hHT2.c _ _
          refine l_callV rfl rfl rfl (t_to_wrong hHT2 2 (-1) ⟨by omega, by omega⟩ ⟨by omega, by omega⟩ _) ?_
          rintro _ T7 ⟨hHT7, w85, z84, rfl, w84, w82, w83⟩
          have hFT7 : FR md_rs_read S T7 := FR.tr hFT2 w85 rfl
          show Rl _ _ _ _ _ [iv z84] _ _
          have W213 : Xi T7 876 8 = 0 → WI T7 := fun q => by omega
          refine l_pop rfl rfl ?_
          refine l_aload_n rfl rfl ?_
          refine l_aload_n rfl rfl ?_
          refine l_gfr rfl rfl rfl rfl rfl (hHT7.r 0 4 876 rfl) ?_
          refine l_gfi rfl rfl rfl rfl rfl ?_
          have w86 : 0 ≤ (Xi T7 876 8) ∧ (Xi T7 876 8) ≤ 9 := hHT7.c _ _
          refine l_pfi rfl rfl rfl rfl ?_
          obtain ⟨U8, eU8⟩ : ∃ T : sS, T = uI T7 0 11 (Int32.ofInt (Xi T7 876 8)) := ⟨_, rfl⟩
          rw [← eU8]
          have hHU8 : HI U8 := by rw [eU8]; exact HI_w hHT7 (show 0 ≤ (Xi T7 876 8) by omega) (show (Xi T7 876 8) ≤ 9 by omega)
          have hFU8 : FR md_rs_read S U8 := by rw [eU8]; exact FR.wI hFT7 (mdf_i (r := (0, 1, 11, 12)) (List.mem_of_getElem? (i := 3) rfl) (inR_i (by omega) (by omega) (by omega) (by omega)))
          have w87 : Xi U8 0 11 = (Xi T7 876 8) := by rw [eU8]; exact Xi_same (by unfold rg; omega)
          have e225 : Xi U8 0 11 = Xi T7 876 8 := by omega
          have W225 : Xi U8 876 8 = 0 → WI U8 := fun q => WI_FR hHT7 (FR_e eU8) rfl rfl rfl rfl rfl rfl rfl rfl rfl (by first | exact W213 (by rw [eU8, Xi_ne (by omega)] at q; exact q) | exact hW203 (by rw [eU8, Xi_ne (by omega)] at q; exact q))
          have f225 : Xi U8 876 8 = Xi T7 876 8 := by rw [eU8, Xi_ne (by omega)]
          refine l_aload_n rfl rfl ?_
          refine l_gfi rfl rfl rfl rfl rfl ?_
          refine l_if_eq rfl rfl (by unfold rg; omega) (fun w88 => ?_) (fun w89 => ?_)
          · refine l_aload_n rfl rfl ?_
            refine l_gfr rfl rfl rfl rfl rfl (hHU8.r 0 1 20 rfl) ?_
            have w90 : Xi U8 876 5 = Xi T2 876 5 := (show Xi U8 876 5 = Xi T7 876 5 from by rw [eU8]; exact Xi_ne (by omega)).trans ((show Xi T7 876 5 = Xi T2 876 5 from w85.x _ _ rfl))
            have w91 : 0 ≤ Xi T2 876 5 ∧ Xi T2 876 5 ≤ 5000 := hHT2.c _ _
            have w92 : Xi U8 876 6 = Xi T2 876 6 := (show Xi U8 876 6 = Xi T7 876 6 from by rw [eU8]; exact Xi_ne (by omega)).trans ((show Xi T7 876 6 = Xi T2 876 6 from w85.x _ _ rfl))
            have w93 : 0 ≤ Xi T2 876 6 ∧ Xi T2 876 6 ≤ 5002 := hHT2.c _ _
            have w94 : Xi U8 876 7 = Xi T2 876 7 := (show Xi U8 876 7 = Xi T7 876 7 from by rw [eU8]; exact Xi_ne (by omega)).trans ((show Xi T7 876 7 = Xi T2 876 7 from w85.x _ _ rfl))
            have w95 : 0 ≤ Xi T2 876 7 ∧ Xi T2 876 7 ≤ 5125 := hHT2.c _ _
            have w96 : Xi U8 876 8 = Xi T7 876 8 := (show Xi U8 876 8 = Xi T7 876 8 from by rw [eU8]; exact Xi_ne (by omega))
            have w97 : 0 ≤ Xi T7 876 8 ∧ Xi T7 876 8 ≤ 9 := hHT7.c _ _
            have w98 : Xi U8 890 2 = Xi T2 890 2 := (show Xi U8 890 2 = Xi T7 890 2 from by rw [eU8]; exact Xi_ne (by omega)).trans ((show Xi T7 890 2 = Xi T2 890 2 from w85.x _ _ rfl))
            have w99 : 0 ≤ Xi T2 890 2 ∧ Xi T2 890 2 ≤ 20 := hHT2.c _ _
            refine l_callV rfl rfl rfl (t_wo_placePlayer hHU8 _) ?_
            rintro _ T9 ⟨hHT9, w101, rfl⟩
            have hFT9 : FR md_rs_read S T9 := FR.tr hFU8 w101 rfl
            show Rl _ _ _ _ _ [] _ _
            have W254 : WI T9 := WI_FR hHU8 (by assumption : FR md_wo_placePlayer U8 T9) rfl rfl rfl rfl rfl rfl rfl rfl rfl (W225 (by omega))
            refine l_aload_n rfl rfl ?_
            refine l_gfr rfl rfl rfl rfl rfl (hHT9.r 0 2 246 rfl) ?_
            have w102 : Xi T9 876 5 = Xi T2 876 5 := (show Xi T9 876 5 = Xi U8 876 5 from w101.x _ _ rfl).trans ( (show Xi U8 876 5 = Xi T7 876 5 from by rw [eU8]; exact Xi_ne (by omega)).trans ((show Xi T7 876 5 = Xi T2 876 5 from w85.x _ _ rfl)))
            have w103 : 0 ≤ Xi T2 876 5 ∧ Xi T2 876 5 ≤ 5000 := hHT2.c _ _
            have w104 : Xi T9 876 6 = Xi T2 876 6 := (show Xi T9 876 6 = Xi U8 876 6 from w101.x _ _ rfl).trans ( (show Xi U8 876 6 = Xi T7 876 6 from by rw [eU8]; exact Xi_ne (by omega)).trans ((show Xi T7 876 6 = Xi T2 876 6 from w85.x _ _ rfl)))
            have w105 : 0 ≤ Xi T2 876 6 ∧ Xi T2 876 6 ≤ 5002 := hHT2.c _ _
            have w106 : Xi T9 876 7 = Xi T2 876 7 := (show Xi T9 876 7 = Xi U8 876 7 from w101.x _ _ rfl).trans ( (show Xi U8 876 7 = Xi T7 876 7 from by rw [eU8]; exact Xi_ne (by omega)).trans ((show Xi T7 876 7 = Xi T2 876 7 from w85.x _ _ rfl)))
            have w107 : 0 ≤ Xi T2 876 7 ∧ Xi T2 876 7 ≤ 5125 := hHT2.c _ _
            have w108 : Xi T9 876 8 = Xi T7 876 8 := (show Xi T9 876 8 = Xi U8 876 8 from w101.x _ _ rfl).trans ((show Xi U8 876 8 = Xi T7 876 8 from by rw [eU8]; exact Xi_ne (by omega)))
            have w109 : 0 ≤ Xi T7 876 8 ∧ Xi T7 876 8 ≤ 9 := hHT7.c _ _
            have w110 : Xi T9 890 2 = Xi T2 890 2 := (show Xi T9 890 2 = Xi U8 890 2 from w101.x _ _ rfl).trans ( (show Xi U8 890 2 = Xi T7 890 2 from by rw [eU8]; exact Xi_ne (by omega)).trans ((show Xi T7 890 2 = Xi T2 890 2 from w85.x _ _ rfl)))
            have w111 : 0 ≤ Xi T2 890 2 ∧ Xi T2 890 2 ≤ 20 := hHT2.c _ _
            refine l_callV rfl rfl rfl (t_bo_putInOrder hHT9 _) ?_
            rintro _ T10 ⟨hHT10, w114, rfl, w112⟩
            have hFT10 : FR md_rs_read S T10 := FR.tr hFT9 w114 rfl
            show Rl _ _ _ _ _ [] _ _
            have W261 : WI T10 := WI_FR hHT9 (by assumption : FR md_bo_putInOrder T9 T10) rfl rfl rfl rfl rfl rfl rfl rfl rfl W254
            have o261 : ORD T10 := by assumption
            refine l_iload_n rfl rfl ?_
            refine l_ireturn rfl rfl ?_
            have w115 : Xi T10 876 5 = Xi T2 876 5 := (show Xi T10 876 5 = Xi T9 876 5 from w114.x _ _ rfl).trans ( (show Xi T9 876 5 = Xi U8 876 5 from w101.x _ _ rfl).trans ( (show Xi U8 876 5 = Xi T7 876 5 from by rw [eU8]; exact Xi_ne (by omega)).trans ((show Xi T7 876 5 = Xi T2 876 5 from w85.x _ _ rfl))))
            have w116 : 0 ≤ Xi T2 876 5 ∧ Xi T2 876 5 ≤ 5000 := hHT2.c _ _
            have w117 : Xi T10 876 6 = Xi T2 876 6 := (show Xi T10 876 6 = Xi T9 876 6 from w114.x _ _ rfl).trans ( (show Xi T9 876 6 = Xi U8 876 6 from w101.x _ _ rfl).trans ( (show Xi U8 876 6 = Xi T7 876 6 from by rw [eU8]; exact Xi_ne (by omega)).trans ((show Xi T7 876 6 = Xi T2 876 6 from w85.x _ _ rfl))))
            have w118 : 0 ≤ Xi T2 876 6 ∧ Xi T2 876 6 ≤ 5002 := hHT2.c _ _
            have w119 : Xi T10 876 7 = Xi T2 876 7 := (show Xi T10 876 7 = Xi T9 876 7 from w114.x _ _ rfl).trans ( (show Xi T9 876 7 = Xi U8 876 7 from w101.x _ _ rfl).trans ( (show Xi U8 876 7 = Xi T7 876 7 from by rw [eU8]; exact Xi_ne (by omega)).trans ((show Xi T7 876 7 = Xi T2 876 7 from w85.x _ _ rfl))))
            have w120 : 0 ≤ Xi T2 876 7 ∧ Xi T2 876 7 ≤ 5125 := hHT2.c _ _
            have w121 : Xi T10 876 8 = Xi T7 876 8 := (show Xi T10 876 8 = Xi T9 876 8 from w114.x _ _ rfl).trans ( (show Xi T9 876 8 = Xi U8 876 8 from w101.x _ _ rfl).trans ((show Xi U8 876 8 = Xi T7 876 8 from by rw [eU8]; exact Xi_ne (by omega))))
            have w122 : 0 ≤ Xi T7 876 8 ∧ Xi T7 876 8 ≤ 9 := hHT7.c _ _
            have w123 : Xi T10 890 2 = Xi T2 890 2 := (show Xi T10 890 2 = Xi T9 890 2 from w114.x _ _ rfl).trans ( (show Xi T9 890 2 = Xi U8 890 2 from w101.x _ _ rfl).trans ( (show Xi U8 890 2 = Xi T7 890 2 from by rw [eU8]; exact Xi_ne (by omega)).trans ((show Xi T7 890 2 = Xi T2 890 2 from w85.x _ _ rfl))))
            have w124 : 0 ≤ Xi T2 890 2 ∧ Xi T2 890 2 ≤ 20 := hHT2.c _ _
            exact ⟨hHT10, hFT10, _, rfl, ⟨by omega, by omega⟩, (by first | exact W236 | exact W261), (by first | exact o236 | exact o261), (((w114 0 8 rfl).2.2.trans ((w101 0 8 rfl).2.2.trans ((show U8.2.2 0 8 = T7.2.2 0 8 from by rw [eU8]; rfl).trans ((w85 0 8 rfl).2.2.trans h08_203))))), (((w114 0 9 rfl).2.2.trans ((w101 0 9 rfl).2.2.trans ((show U8.2.2 0 9 = T7.2.2 0 9 from by rw [eU8]; rfl).trans ((w85 0 9 rfl).2.2.trans h09_203))))), (((w114 20 1 rfl).2.2.trans ((w101 20 1 rfl).2.2.trans ((show U8.2.2 20 1 = T7.2.2 20 1 from by rw [eU8]; rfl).trans ((w85 20 1 rfl).2.2.trans h20_203))))), (((w114 876 4 rfl).2.2.trans ((w101 876 4 rfl).2.2.trans ((show U8.2.2 876 4 = T7.2.2 876 4 from by rw [eU8]; rfl).trans ((w85 876 4 rfl).2.2.trans h76_203)))))⟩
          · refine l_aload_n rfl rfl ?_
            have w125 : Xi U8 876 5 = Xi T2 876 5 := (show Xi U8 876 5 = Xi T7 876 5 from by rw [eU8]; exact Xi_ne (by omega)).trans ((show Xi T7 876 5 = Xi T2 876 5 from w85.x _ _ rfl))
            have w126 : 0 ≤ Xi T2 876 5 ∧ Xi T2 876 5 ≤ 5000 := hHT2.c _ _
            have w127 : Xi U8 876 6 = Xi T2 876 6 := (show Xi U8 876 6 = Xi T7 876 6 from by rw [eU8]; exact Xi_ne (by omega)).trans ((show Xi T7 876 6 = Xi T2 876 6 from w85.x _ _ rfl))
            have w128 : 0 ≤ Xi T2 876 6 ∧ Xi T2 876 6 ≤ 5002 := hHT2.c _ _
            have w129 : Xi U8 876 7 = Xi T2 876 7 := (show Xi U8 876 7 = Xi T7 876 7 from by rw [eU8]; exact Xi_ne (by omega)).trans ((show Xi T7 876 7 = Xi T2 876 7 from w85.x _ _ rfl))
            have w130 : 0 ≤ Xi T2 876 7 ∧ Xi T2 876 7 ≤ 5125 := hHT2.c _ _
            have w131 : Xi U8 876 8 = Xi T7 876 8 := (show Xi U8 876 8 = Xi T7 876 8 from by rw [eU8]; exact Xi_ne (by omega))
            have w132 : 0 ≤ Xi T7 876 8 ∧ Xi T7 876 8 ≤ 9 := hHT7.c _ _
            have w133 : Xi U8 890 2 = Xi T2 890 2 := (show Xi U8 890 2 = Xi T7 890 2 from by rw [eU8]; exact Xi_ne (by omega)).trans ((show Xi T7 890 2 = Xi T2 890 2 from w85.x _ _ rfl))
            have w134 : 0 ≤ Xi T2 890 2 ∧ Xi T2 890 2 ≤ 20 := hHT2.c _ _
            refine l_callV rfl rfl rfl (t_rs_startAgain hHU8 _) ?_
            rintro _ T11 ⟨hHT11, w138, rfl, w135, w136⟩
            have hFT11 : FR md_rs_read S T11 := FR.tr hFU8 w138 rfl
            show Rl _ _ _ _ _ [] _ _
            have W236 : WI T11 := by assumption
            have o236 : ORD T11 := fun i hi => by omega
            refine l_bipush rfl rfl ?_
            refine l_aload_n rfl rfl ?_
            refine l_gfr rfl rfl rfl rfl rfl (hHT11.r 0 4 876 rfl) ?_
            refine l_gfi rfl rfl rfl rfl rfl ?_
            have w139 : 0 ≤ (Xi T11 876 9) ∧ (Xi T11 876 9) ≤ 5000 := hHT11.c _ _
            refine l_isub rfl ?_
            refine l_ireturn rfl rfl ?_
            have w140 : Xi T11 876 5 = Xi T2 876 5 := (show Xi T11 876 5 = Xi U8 876 5 from w138.x _ _ rfl).trans ( (show Xi U8 876 5 = Xi T7 876 5 from by rw [eU8]; exact Xi_ne (by omega)).trans ((show Xi T7 876 5 = Xi T2 876 5 from w85.x _ _ rfl)))
            have w141 : 0 ≤ Xi T2 876 5 ∧ Xi T2 876 5 ≤ 5000 := hHT2.c _ _
            have w142 : Xi T11 876 6 = Xi T2 876 6 := (show Xi T11 876 6 = Xi U8 876 6 from w138.x _ _ rfl).trans ( (show Xi U8 876 6 = Xi T7 876 6 from by rw [eU8]; exact Xi_ne (by omega)).trans ((show Xi T7 876 6 = Xi T2 876 6 from w85.x _ _ rfl)))
            have w143 : 0 ≤ Xi T2 876 6 ∧ Xi T2 876 6 ≤ 5002 := hHT2.c _ _
            have w144 : Xi T11 876 7 = Xi T2 876 7 := (show Xi T11 876 7 = Xi U8 876 7 from w138.x _ _ rfl).trans ( (show Xi U8 876 7 = Xi T7 876 7 from by rw [eU8]; exact Xi_ne (by omega)).trans ((show Xi T7 876 7 = Xi T2 876 7 from w85.x _ _ rfl)))
            have w145 : 0 ≤ Xi T2 876 7 ∧ Xi T2 876 7 ≤ 5125 := hHT2.c _ _
            have w146 : Xi T11 876 8 = Xi T7 876 8 := (show Xi T11 876 8 = Xi U8 876 8 from w138.x _ _ rfl).trans ((show Xi U8 876 8 = Xi T7 876 8 from by rw [eU8]; exact Xi_ne (by omega)))
            have w147 : 0 ≤ Xi T7 876 8 ∧ Xi T7 876 8 ≤ 9 := hHT7.c _ _
            have w148 : Xi T11 890 2 = Xi T2 890 2 := (show Xi T11 890 2 = Xi U8 890 2 from w138.x _ _ rfl).trans ( (show Xi U8 890 2 = Xi T7 890 2 from by rw [eU8]; exact Xi_ne (by omega)).trans ((show Xi T7 890 2 = Xi T2 890 2 from w85.x _ _ rfl)))
            have w149 : 0 ≤ Xi T2 890 2 ∧ Xi T2 890 2 ≤ 20 := hHT2.c _ _
            exact ⟨hHT11, hFT11, _, rfl, ⟨by omega, by omega⟩, (by first | exact W236 | exact W261), (by first | exact o236 | exact o261), (((w138 0 8 rfl).2.2.trans ((show U8.2.2 0 8 = T7.2.2 0 8 from by rw [eU8]; rfl).trans ((w85 0 8 rfl).2.2.trans h08_203)))), (((w138 0 9 rfl).2.2.trans ((show U8.2.2 0 9 = T7.2.2 0 9 from by rw [eU8]; rfl).trans ((w85 0 9 rfl).2.2.trans h09_203)))), (((w138 20 1 rfl).2.2.trans ((show U8.2.2 20 1 = T7.2.2 20 1 from by rw [eU8]; rfl).trans ((w85 20 1 rfl).2.2.trans h20_203)))), (((w138 876 4 rfl).2.2.trans ((show U8.2.2 876 4 = T7.2.2 876 4 from by rw [eU8]; rfl).trans ((w85 876 4 rfl).2.2.trans h76_203))))⟩
      refine l_iload rfl rfl ?_
      refine l_iload_n rfl rfl ?_
      refine l_icmp_ge rfl rfl (by unfold rg; omega) (by unfold rg; omega) (fun w150 => ?_) (fun w151 => ?_)
      · have w152 : 0 ≤ Xi T1 876 5 ∧ Xi T1 876 5 ≤ 5000 := hHT1.c _ _
        have w153 : 0 ≤ Xi T1 876 6 ∧ Xi T1 876 6 ≤ 5002 := hHT1.c _ _
        have w154 : 0 ≤ Xi T1 876 7 ∧ Xi T1 876 7 ≤ 5125 := hHT1.c _ _
        have w155 : 0 ≤ Xi T1 876 8 ∧ Xi T1 876 8 ≤ 9 := hHT1.c _ _
        have w156 : 0 ≤ Xi T1 890 2 ∧ Xi T1 890 2 ≤ 20 := hHT1.c _ _
        exact Rl_weak (C203 T1 hHT1 hFT1 (v3) (⟨by omega, by omega⟩) (h76_69) (h20_69) (h08_69) (h09_69) (hW69)) (And.intro rfl (And.intro rfl (True.intro)))
      · refine l_iload_n rfl rfl ?_
        refine l_iload_n rfl rfl ?_
        refine l_icmp_ge rfl rfl (by unfold rg; omega) (by unfold rg; omega) (fun w157 => ?_) (fun w158 => ?_)
        · have w159 : 0 ≤ Xi T1 876 5 ∧ Xi T1 876 5 ≤ 5000 := hHT1.c _ _
          have w160 : 0 ≤ Xi T1 876 6 ∧ Xi T1 876 6 ≤ 5002 := hHT1.c _ _
          have w161 : 0 ≤ Xi T1 876 7 ∧ Xi T1 876 7 ≤ 5125 := hHT1.c _ _
          have w162 : 0 ≤ Xi T1 876 8 ∧ Xi T1 876 8 ≤ 9 := hHT1.c _ _
          have w163 : 0 ≤ Xi T1 890 2 ∧ Xi T1 890 2 ≤ 20 := hHT1.c _ _
          exact Rl_weak (C203 T1 hHT1 hFT1 (v3) (⟨by omega, by omega⟩) (h76_69) (h20_69) (h08_69) (h09_69) (hW69)) (And.intro rfl (And.intro rfl (True.intro)))
        · refine l_aload_n rfl rfl ?_
          refine l_gfr rfl rfl rfl rfl rfl (hHT1.r 0 4 876 rfl) ?_
          refine l_gfi rfl rfl rfl rfl rfl ?_
          refine l_if_ne rfl rfl (by unfold rg; omega) (fun w164 => ?_) (fun w165 => ?_)
          · have w166 : 0 ≤ Xi T1 876 5 ∧ Xi T1 876 5 ≤ 5000 := hHT1.c _ _
            have w167 : 0 ≤ Xi T1 876 6 ∧ Xi T1 876 6 ≤ 5002 := hHT1.c _ _
            have w168 : 0 ≤ Xi T1 876 7 ∧ Xi T1 876 7 ≤ 5125 := hHT1.c _ _
            have w169 : 0 ≤ Xi T1 876 8 ∧ Xi T1 876 8 ≤ 9 := hHT1.c _ _
            have w170 : 0 ≤ Xi T1 890 2 ∧ Xi T1 890 2 ≤ 20 := hHT1.c _ _
            exact Rl_weak (C203 T1 hHT1 hFT1 (v3) (⟨by omega, by omega⟩) (h76_69) (h20_69) (h08_69) (h09_69) (hW69)) (And.intro rfl (And.intro rfl (True.intro)))
          · refine l_iinc rfl rfl rfl rfl ?_
            refine l_aload_n rfl rfl ?_
            refine l_gfr rfl rfl rfl rfl rfl (hHT1.r 0 4 876 rfl) ?_
            refine l_aload_n rfl rfl ?_
            refine l_gfr rfl rfl rfl rfl rfl (hHT1.r 0 4 876 rfl) ?_
            refine l_iload rfl rfl ?_
            have w171 : 0 ≤ Xi T1 876 5 ∧ Xi T1 876 5 ≤ 5000 := hHT1.c _ _
            have w172 : 0 ≤ Xi T1 876 6 ∧ Xi T1 876 6 ≤ 5002 := hHT1.c _ _
            have w173 : 0 ≤ Xi T1 876 7 ∧ Xi T1 876 7 ≤ 5125 := hHT1.c _ _
            have w174 : 0 ≤ Xi T1 876 8 ∧ Xi T1 876 8 ≤ 9 := hHT1.c _ _
            have w175 : 0 ≤ Xi T1 890 2 ∧ Xi T1 890 2 ≤ 20 := hHT1.c _ _
            refine l_callV rfl rfl rfl (t_to_takeSentence__2 hHT1 ts v4 ⟨by omega, by omega⟩ h76_69 htp (by first | assumption | omega) _) ?_
            rintro _ T12 ⟨hHT12, w180, z179, rfl, w179, w176, w177, hc103, hn103, hm103, w178⟩
            have hFT12 : FR md_rs_read S T12 := FR.tr hFT1 w180 rfl
            show Rl _ _ _ _ _ [iv z179, .ref 876] _ _
            have W103 : WI T12 := WI_FR hHT1 (by assumption : FR md_to_takeSentence__2 T1 T12) rfl rfl rfl rfl rfl rfl rfl rfl rfl (hW69 (by omega))
            have n103 : ND T12 (Xi T12 876 7 - 1) := by assumption
            have t103 : TOK T12 := by assumption
            have w181 : Xi T12 876 5 = Xi T1 876 5 := (show Xi T12 876 5 = Xi T1 876 5 from w180.x _ _ rfl)
            have w182 : 0 ≤ Xi T1 876 5 ∧ Xi T1 876 5 ≤ 5000 := hHT1.c _ _
            have w183 : 0 ≤ Xi T12 876 6 ∧ Xi T12 876 6 ≤ 5002 := hHT12.c _ _
            have w184 : 0 ≤ Xi T12 876 7 ∧ Xi T12 876 7 ≤ 5125 := hHT12.c _ _
            have w185 : Xi T12 876 8 = Xi T1 876 8 := (show Xi T12 876 8 = Xi T1 876 8 from w180.x _ _ rfl)
            have w186 : 0 ≤ Xi T1 876 8 ∧ Xi T1 876 8 ≤ 9 := hHT1.c _ _
            have w187 : Xi T12 890 2 = Xi T1 890 2 := (show Xi T12 890 2 = Xi T1 890 2 from w180.x _ _ rfl)
            have w188 : 0 ≤ Xi T1 890 2 ∧ Xi T1 890 2 ≤ 20 := hHT1.c _ _
            refine l_callV rfl rfl rfl (t_to_skip hHT12 ts z179 ⟨by omega, by omega⟩ ((w180 876 4 rfl).2.2.trans h76_69) htp (by first | assumption | omega) _) ?_
            rintro _ _ ⟨rfl, z190, rfl, w190, w189⟩
            show Rl _ _ _ _ _ [iv z190] _ _
            refine l_istore rfl rfl rfl ?_
            refine l_aload_n rfl rfl ?_
            refine l_gfr rfl rfl rfl rfl rfl (hHT12.r 0 4 876 rfl) ?_
            have w191 : Xi T12 876 5 = Xi T1 876 5 := (show Xi T12 876 5 = Xi T1 876 5 from w180.x _ _ rfl)
            have w192 : 0 ≤ Xi T1 876 5 ∧ Xi T1 876 5 ≤ 5000 := hHT1.c _ _
            have w193 : 0 ≤ Xi T12 876 6 ∧ Xi T12 876 6 ≤ 5002 := hHT12.c _ _
            have w194 : 0 ≤ Xi T12 876 7 ∧ Xi T12 876 7 ≤ 5125 := hHT12.c _ _
            have w195 : Xi T12 876 8 = Xi T1 876 8 := (show Xi T12 876 8 = Xi T1 876 8 from w180.x _ _ rfl)
            have w196 : 0 ≤ Xi T1 876 8 ∧ Xi T1 876 8 ≤ 9 := hHT1.c _ _
            have w197 : Xi T12 890 2 = Xi T1 890 2 := (show Xi T12 890 2 = Xi T1 890 2 from w180.x _ _ rfl)
            have w198 : 0 ≤ Xi T1 890 2 ∧ Xi T1 890 2 ≤ 20 := hHT1.c _ _
            refine l_callV rfl rfl rfl (t_to_endsBadly hHT12 _) ?_
            rintro _ _ ⟨rfl, z199, rfl, w199⟩
            show Rl _ _ _ _ _ [iv z199] _ _
            refine l_if_eq rfl rfl (by unfold rg; omega) (fun w200 => ?_) (fun w201 => ?_)
            · refine l_aload_n rfl rfl ?_
              refine l_gfr rfl rfl rfl rfl rfl (hHT12.r 0 5 890 rfl) ?_
              have w202 : Xi T12 876 5 = Xi T1 876 5 := (show Xi T12 876 5 = Xi T1 876 5 from w180.x _ _ rfl)
              have w203 : 0 ≤ Xi T1 876 5 ∧ Xi T1 876 5 ≤ 5000 := hHT1.c _ _
              have w204 : 0 ≤ Xi T12 876 6 ∧ Xi T12 876 6 ≤ 5002 := hHT12.c _ _
              have w205 : 0 ≤ Xi T12 876 7 ∧ Xi T12 876 7 ≤ 5125 := hHT12.c _ _
              have w206 : Xi T12 876 8 = Xi T1 876 8 := (show Xi T12 876 8 = Xi T1 876 8 from w180.x _ _ rfl)
              have w207 : 0 ≤ Xi T1 876 8 ∧ Xi T1 876 8 ≤ 9 := hHT1.c _ _
              have w208 : Xi T12 890 2 = Xi T1 890 2 := (show Xi T12 890 2 = Xi T1 890 2 from w180.x _ _ rfl)
              have w209 : 0 ≤ Xi T1 890 2 ∧ Xi T1 890 2 ≤ 20 := hHT1.c _ _
              refine l_callV rfl rfl rfl (t_gr_check__2 hHT12 _) ?_
              rintro _ T13 ⟨hHT13, w211, z210, rfl, w210, hp0_144, hp1_144, hp3_144, hq0_144, hq1_144⟩
              have hFT13 : FR md_rs_read S T13 := FR.tr hFT12 w211 rfl
              show Rl _ _ _ _ _ [iv z210] _ _
              have f144 : FR md_gr_check__2 T12 T13 := by assumption
              have W144 : WI T13 := WI_FR hHT12 f144 rfl rfl rfl rfl rfl rfl rfl rfl rfl W103
              have t144 : TOK T13 := TOK_FR f144 rfl rfl rfl t103
              have y144 : ∀ j, Xi T13 877 j = Xi T12 877 j := fun j => (f144.cx 877 rfl j).1
              have r144 : Xi T13 876 7 = Xi T12 876 7 ∧ Xi T13 876 6 = Xi T12 876 6 := ⟨f144.x 876 7 rfl, f144.x 876 6 rfl⟩
              have c6_144 : Xi T13 876 6 = Xi T13 876 7 := by rw [r144.1, r144.2]; exact hc103
              have m144 : 1 ≤ Xi T13 876 7 := by rw [r144.1]; exact hm103
              have s144 : SRX T13 ∧ txr T13 = ts := srx_of ((w211 20 1 rfl).2.2.trans ((w180 20 1 rfl).2.2.trans h20_69)) htp
              have a144 : z210 = 1 → Xi T13 890 2 = 0 → Xi T13 877 (0 : Int).toNat = 102 ∧ 0 < Xi T13 876 7 := fun q e => ⟨by rw [y144]; exact (by assumption : z210 = 1 → Xi T13 890 2 = 0 → Xi T12 877 (0 : Int).toNat = 102) q e, by have t := (by assumption : z210 = 1 → Xi T13 890 2 = 0 → 0 < Xi T12 876 7) q e; omega⟩
              have b144 : z210 = 1 → Xi T13 890 2 = 1 → Xi T13 877 (1 : Int).toNat = 102 ∧ 1 < Xi T13 876 7 := fun q e => ⟨by rw [y144]; exact (by assumption : z210 = 1 → Xi T13 890 2 = 1 → Xi T12 877 (1 : Int).toNat = 102) q e, by have t := (by assumption : z210 = 1 → Xi T13 890 2 = 1 → 1 < Xi T12 876 7) q e; omega⟩
              have c144 : z210 = 1 → 3 ≤ Xi T13 890 2 → Xi T13 890 2 ≤ 6 → SAY T13 (Xi T13 876 6) ∧ Xi T13 877 (Xi T13 876 6 - 1).toNat = 103 := fun q e1 e2 => dot_end (n := Xi T13 876 7) m144 (nd_f f144 rfl n103 (by rw [r144.1]; exact Int.le_refl _)) (by have t := (by assumption : z210 = 1 → 3 ≤ Xi T13 890 2 → Xi T13 890 2 ≤ 6 → SAY T13 (Xi T13 890 1) ∧ 1 ≤ Xi T13 890 1 ∧ Xi T13 890 1 ≤ Xi T12 876 7 ∧ Xi T13 877 (Xi T13 890 1 - 1).toNat = 103) q e1 e2; exact ⟨t.1, t.2.1, by rw [r144.1]; exact t.2.2.1, t.2.2.2⟩) c6_144
              clear hp0_144 hp1_144 hp3_144 hq0_144 hq1_144
              refine l_if_ne rfl rfl (by unfold rg; omega) (fun w212 => ?_) (fun w213 => ?_)
              · refine l_aload_n rfl rfl ?_
                refine l_gfr rfl rfl rfl rfl rfl (hHT13.r 0 5 890 rfl) ?_
                refine l_gfi rfl rfl rfl rfl rfl ?_
                have w214 : 0 ≤ (Xi T13 890 2) ∧ (Xi T13 890 2) ≤ 20 := hHT13.c _ _
                refine l_bipush rfl rfl ?_
                refine l_icmp_ge rfl rfl (by unfold rg; omega) (by unfold rg; omega) (fun w215 => ?_) (fun w216 => ?_)
                · refine l_aload_n rfl rfl ?_
                  refine l_gfr rfl rfl rfl rfl rfl (hHT13.r 0 6 891 rfl) ?_
                  have w217 : Xi T13 876 5 = Xi T1 876 5 := (show Xi T13 876 5 = Xi T12 876 5 from w211.x _ _ rfl).trans ((show Xi T12 876 5 = Xi T1 876 5 from w180.x _ _ rfl))
                  have w218 : 0 ≤ Xi T1 876 5 ∧ Xi T1 876 5 ≤ 5000 := hHT1.c _ _
                  have w219 : Xi T13 876 6 = Xi T12 876 6 := (show Xi T13 876 6 = Xi T12 876 6 from w211.x _ _ rfl)
                  have w220 : 0 ≤ Xi T12 876 6 ∧ Xi T12 876 6 ≤ 5002 := hHT12.c _ _
                  have w221 : Xi T13 876 7 = Xi T12 876 7 := (show Xi T13 876 7 = Xi T12 876 7 from w211.x _ _ rfl)
                  have w222 : 0 ≤ Xi T12 876 7 ∧ Xi T12 876 7 ≤ 5125 := hHT12.c _ _
                  have w223 : Xi T13 876 8 = Xi T1 876 8 := (show Xi T13 876 8 = Xi T12 876 8 from w211.x _ _ rfl).trans ((show Xi T12 876 8 = Xi T1 876 8 from w180.x _ _ rfl))
                  have w224 : 0 ≤ Xi T1 876 8 ∧ Xi T1 876 8 ≤ 9 := hHT1.c _ _
                  have w225 : 0 ≤ Xi T13 890 2 ∧ Xi T13 890 2 ≤ 20 := hHT13.c _ _
                  refine l_callV rfl rfl rfl (t_re_tellSentence hHT13 (W144) (t144) (s144.1) _) ?_
                  rintro _ T14 ⟨hHT14, w229, z228, rfl, w228, w226, w227⟩
                  have hFT14 : FR md_rs_read S T14 := FR.tr hFT13 w229 rfl
                  show Rl _ _ _ _ _ [iv z228] _ _
                  have W196 : Xi T14 876 8 = 0 → WI T14 := fun q => (by assumption : z228 = 1 → WI T14) (by omega)
                  refine l_pop rfl rfl ?_
                  refine l_goto rfl rfl ?_
                  have w230 : Xi T14 876 5 = Xi T1 876 5 := (show Xi T14 876 5 = Xi T13 876 5 from w229.x _ _ rfl).trans ( (show Xi T13 876 5 = Xi T12 876 5 from w211.x _ _ rfl).trans ((show Xi T12 876 5 = Xi T1 876 5 from w180.x _ _ rfl)))
                  have w231 : 0 ≤ Xi T1 876 5 ∧ Xi T1 876 5 ≤ 5000 := hHT1.c _ _
                  have w232 : Xi T14 876 6 = Xi T12 876 6 := (show Xi T14 876 6 = Xi T13 876 6 from w229.x _ _ rfl).trans ((show Xi T13 876 6 = Xi T12 876 6 from w211.x _ _ rfl))
                  have w233 : 0 ≤ Xi T12 876 6 ∧ Xi T12 876 6 ≤ 5002 := hHT12.c _ _
                  have w234 : Xi T14 876 7 = Xi T12 876 7 := (show Xi T14 876 7 = Xi T13 876 7 from w229.x _ _ rfl).trans ((show Xi T13 876 7 = Xi T12 876 7 from w211.x _ _ rfl))
                  have w235 : 0 ≤ Xi T12 876 7 ∧ Xi T12 876 7 ≤ 5125 := hHT12.c _ _
                  have w236 : 0 ≤ Xi T14 876 8 ∧ Xi T14 876 8 ≤ 9 := hHT14.c _ _
                  have w237 : Xi T14 890 2 = Xi T13 890 2 := (show Xi T14 890 2 = Xi T13 890 2 from w229.x _ _ rfl)
                  have w238 : 0 ≤ Xi T13 890 2 ∧ Xi T13 890 2 ≤ 20 := hHT13.c _ _
                  exact Rl_weak (ih69 _ (by omega) T14 hHT14 hFT14 (v1) ((v3 + 1)) (z190) (⟨by omega, by omega⟩) (⟨by omega, by omega⟩) (⟨by omega, by omega⟩) (((w229 876 4 rfl).2.2.trans ((w211 876 4 rfl).2.2.trans ((w180 876 4 rfl).2.2.trans h76_69)))) (((w229 20 1 rfl).2.2.trans ((w211 20 1 rfl).2.2.trans ((w180 20 1 rfl).2.2.trans h20_69)))) (((w229 0 8 rfl).2.2.trans ((w211 0 8 rfl).2.2.trans ((w180 0 8 rfl).2.2.trans h08_69)))) (((w229 0 9 rfl).2.2.trans ((w211 0 9 rfl).2.2.trans ((w180 0 9 rfl).2.2.trans h09_69)))) (by omega) (by omega) (by first | exact W133 | exact W162 | exact W185 | exact W196 | exact fun _ => W54) rfl) (And.intro rfl (And.intro rfl (And.intro rfl (And.intro rfl (True.intro)))))
                · refine l_aload_n rfl rfl ?_
                  refine l_gfr rfl rfl rfl rfl rfl (hHT13.r 0 6 891 rfl) ?_
                  have w239 : Xi T13 876 5 = Xi T1 876 5 := (show Xi T13 876 5 = Xi T12 876 5 from w211.x _ _ rfl).trans ((show Xi T12 876 5 = Xi T1 876 5 from w180.x _ _ rfl))
                  have w240 : 0 ≤ Xi T1 876 5 ∧ Xi T1 876 5 ≤ 5000 := hHT1.c _ _
                  have w241 : Xi T13 876 6 = Xi T12 876 6 := (show Xi T13 876 6 = Xi T12 876 6 from w211.x _ _ rfl)
                  have w242 : 0 ≤ Xi T12 876 6 ∧ Xi T12 876 6 ≤ 5002 := hHT12.c _ _
                  have w243 : Xi T13 876 7 = Xi T12 876 7 := (show Xi T13 876 7 = Xi T12 876 7 from w211.x _ _ rfl)
                  have w244 : 0 ≤ Xi T12 876 7 ∧ Xi T12 876 7 ≤ 5125 := hHT12.c _ _
                  have w245 : Xi T13 876 8 = Xi T1 876 8 := (show Xi T13 876 8 = Xi T12 876 8 from w211.x _ _ rfl).trans ((show Xi T12 876 8 = Xi T1 876 8 from w180.x _ _ rfl))
                  have w246 : 0 ≤ Xi T1 876 8 ∧ Xi T1 876 8 ≤ 9 := hHT1.c _ _
                  have w247 : 0 ≤ Xi T13 890 2 ∧ Xi T13 890 2 ≤ 20 := hHT13.c _ _
                  refine l_callV rfl rfl rfl (t_re_beginSentence hHT13 ts ((w211 876 4 rfl).2.2.trans ((w180 876 4 rfl).2.2.trans h76_69)) htp (W144) (t144) (s144.1) (s144.2.symm) (by first | assumption | omega) (a144 (by omega)) (b144 (by omega)) (fun e1 e2 => (c144 (by omega) e1 e2).1) (fun e1 e2 => (c144 (by omega) e1 e2).2) (by first | assumption | omega) (by first | assumption | omega) _) ?_
                  rintro _ T15 ⟨hHT15, w251, z250, rfl, w250, w248, w249⟩
                  have hFT15 : FR md_rs_read S T15 := FR.tr hFT13 w251 rfl
                  show Rl _ _ _ _ _ [iv z250] _ _
                  have W185 : Xi T15 876 8 = 0 → WI T15 := fun q => (by assumption : z250 = 1 → WI T15) (by omega)
                  refine l_pop rfl rfl ?_
                  refine l_goto rfl rfl ?_
                  have w252 : Xi T15 876 5 = Xi T1 876 5 := (show Xi T15 876 5 = Xi T13 876 5 from w251.x _ _ rfl).trans ( (show Xi T13 876 5 = Xi T12 876 5 from w211.x _ _ rfl).trans ((show Xi T12 876 5 = Xi T1 876 5 from w180.x _ _ rfl)))
                  have w253 : 0 ≤ Xi T1 876 5 ∧ Xi T1 876 5 ≤ 5000 := hHT1.c _ _
                  have w254 : Xi T15 876 6 = Xi T12 876 6 := (show Xi T15 876 6 = Xi T13 876 6 from w251.x _ _ rfl).trans ((show Xi T13 876 6 = Xi T12 876 6 from w211.x _ _ rfl))
                  have w255 : 0 ≤ Xi T12 876 6 ∧ Xi T12 876 6 ≤ 5002 := hHT12.c _ _
                  have w256 : 0 ≤ Xi T15 876 7 ∧ Xi T15 876 7 ≤ 5125 := hHT15.c _ _
                  have w257 : 0 ≤ Xi T15 876 8 ∧ Xi T15 876 8 ≤ 9 := hHT15.c _ _
                  have w258 : Xi T15 890 2 = Xi T13 890 2 := (show Xi T15 890 2 = Xi T13 890 2 from w251.x _ _ rfl)
                  have w259 : 0 ≤ Xi T13 890 2 ∧ Xi T13 890 2 ≤ 20 := hHT13.c _ _
                  exact Rl_weak (ih69 _ (by omega) T15 hHT15 hFT15 (v1) ((v3 + 1)) (z190) (⟨by omega, by omega⟩) (⟨by omega, by omega⟩) (⟨by omega, by omega⟩) (((w251 876 4 rfl).2.2.trans ((w211 876 4 rfl).2.2.trans ((w180 876 4 rfl).2.2.trans h76_69)))) (((w251 20 1 rfl).2.2.trans ((w211 20 1 rfl).2.2.trans ((w180 20 1 rfl).2.2.trans h20_69)))) (((w251 0 8 rfl).2.2.trans ((w211 0 8 rfl).2.2.trans ((w180 0 8 rfl).2.2.trans h08_69)))) (((w251 0 9 rfl).2.2.trans ((w211 0 9 rfl).2.2.trans ((w180 0 9 rfl).2.2.trans h09_69)))) (by omega) (by omega) (by first | exact W133 | exact W162 | exact W185 | exact W196 | exact fun _ => W54) rfl) (And.intro rfl (And.intro rfl (And.intro rfl (And.intro rfl (True.intro)))))
              · refine l_aload_n rfl rfl ?_
                refine l_gfr rfl rfl rfl rfl rfl (hHT13.r 0 4 876 rfl) ?_
                refine l_iconst rfl ?_
                refine l_aload_n rfl rfl ?_
                refine l_gfr rfl rfl rfl rfl rfl (hHT13.r 0 5 890 rfl) ?_
                refine l_gfi rfl rfl rfl rfl rfl ?_
                have w260 : 0 ≤ (Xi T13 890 1) ∧ (Xi T13 890 1) ≤ 5126 := hHT13.c _ _
                have w261 : Xi T13 876 5 = Xi T1 876 5 := (show Xi T13 876 5 = Xi T12 876 5 from w211.x _ _ rfl).trans ((show Xi T12 876 5 = Xi T1 876 5 from w180.x _ _ rfl))
                have w262 : 0 ≤ Xi T1 876 5 ∧ Xi T1 876 5 ≤ 5000 := hHT1.c _ _
                have w263 : Xi T13 876 6 = Xi T12 876 6 := (show Xi T13 876 6 = Xi T12 876 6 from w211.x _ _ rfl)
                have w264 : 0 ≤ Xi T12 876 6 ∧ Xi T12 876 6 ≤ 5002 := hHT12.c _ _
                have w265 : Xi T13 876 7 = Xi T12 876 7 := (show Xi T13 876 7 = Xi T12 876 7 from w211.x _ _ rfl)
                have w266 : 0 ≤ Xi T12 876 7 ∧ Xi T12 876 7 ≤ 5125 := hHT12.c _ _
                have w267 : Xi T13 876 8 = Xi T1 876 8 := (show Xi T13 876 8 = Xi T12 876 8 from w211.x _ _ rfl).trans ((show Xi T12 876 8 = Xi T1 876 8 from w180.x _ _ rfl))
                have w268 : 0 ≤ Xi T1 876 8 ∧ Xi T1 876 8 ≤ 9 := hHT1.c _ _
                have w269 : 0 ≤ Xi T13 890 2 ∧ Xi T13 890 2 ≤ 20 := hHT13.c _ _
                refine l_callV rfl rfl rfl (t_to_wrong hHT13 2 (Xi T13 890 1) ⟨by omega, by omega⟩ ⟨by omega, by omega⟩ _) ?_
                rintro _ T16 ⟨hHT16, w273, z272, rfl, w272, w270, w271⟩
                have hFT16 : FR md_rs_read S T16 := FR.tr hFT13 w273 rfl
                show Rl _ _ _ _ _ [iv z272] _ _
                have W162 : Xi T16 876 8 = 0 → WI T16 := fun q => by omega
                refine l_pop rfl rfl ?_
                refine l_goto rfl rfl ?_
                have w274 : Xi T16 876 5 = Xi T1 876 5 := (show Xi T16 876 5 = Xi T13 876 5 from w273.x _ _ rfl).trans ( (show Xi T13 876 5 = Xi T12 876 5 from w211.x _ _ rfl).trans ((show Xi T12 876 5 = Xi T1 876 5 from w180.x _ _ rfl)))
                have w275 : 0 ≤ Xi T1 876 5 ∧ Xi T1 876 5 ≤ 5000 := hHT1.c _ _
                have w276 : Xi T16 876 6 = Xi T12 876 6 := (show Xi T16 876 6 = Xi T13 876 6 from w273.x _ _ rfl).trans ((show Xi T13 876 6 = Xi T12 876 6 from w211.x _ _ rfl))
                have w277 : 0 ≤ Xi T12 876 6 ∧ Xi T12 876 6 ≤ 5002 := hHT12.c _ _
                have w278 : Xi T16 876 7 = Xi T12 876 7 := (show Xi T16 876 7 = Xi T13 876 7 from w273.x _ _ rfl).trans ((show Xi T13 876 7 = Xi T12 876 7 from w211.x _ _ rfl))
                have w279 : 0 ≤ Xi T12 876 7 ∧ Xi T12 876 7 ≤ 5125 := hHT12.c _ _
                have w280 : 0 ≤ Xi T16 876 8 ∧ Xi T16 876 8 ≤ 9 := hHT16.c _ _
                have w281 : Xi T16 890 2 = Xi T13 890 2 := (show Xi T16 890 2 = Xi T13 890 2 from w273.x _ _ rfl)
                have w282 : 0 ≤ Xi T13 890 2 ∧ Xi T13 890 2 ≤ 20 := hHT13.c _ _
                exact Rl_weak (ih69 _ (by omega) T16 hHT16 hFT16 (v1) ((v3 + 1)) (z190) (⟨by omega, by omega⟩) (⟨by omega, by omega⟩) (⟨by omega, by omega⟩) (((w273 876 4 rfl).2.2.trans ((w211 876 4 rfl).2.2.trans ((w180 876 4 rfl).2.2.trans h76_69)))) (((w273 20 1 rfl).2.2.trans ((w211 20 1 rfl).2.2.trans ((w180 20 1 rfl).2.2.trans h20_69)))) (((w273 0 8 rfl).2.2.trans ((w211 0 8 rfl).2.2.trans ((w180 0 8 rfl).2.2.trans h08_69)))) (((w273 0 9 rfl).2.2.trans ((w211 0 9 rfl).2.2.trans ((w180 0 9 rfl).2.2.trans h09_69)))) (by omega) (by omega) (by first | exact W133 | exact W162 | exact W185 | exact W196 | exact fun _ => W54) rfl) (And.intro rfl (And.intro rfl (And.intro rfl (And.intro rfl (True.intro)))))
            · refine l_aload_n rfl rfl ?_
              refine l_gfr rfl rfl rfl rfl rfl (hHT12.r 0 4 876 rfl) ?_
              refine l_iconst rfl ?_
              refine l_aload_n rfl rfl ?_
              refine l_gfr rfl rfl rfl rfl rfl (hHT12.r 0 4 876 rfl) ?_
              have w283 : Xi T12 876 5 = Xi T1 876 5 := (show Xi T12 876 5 = Xi T1 876 5 from w180.x _ _ rfl)
              have w284 : 0 ≤ Xi T1 876 5 ∧ Xi T1 876 5 ≤ 5000 := hHT1.c _ _
              have w285 : 0 ≤ Xi T12 876 6 ∧ Xi T12 876 6 ≤ 5002 := hHT12.c _ _
              have w286 : 0 ≤ Xi T12 876 7 ∧ Xi T12 876 7 ≤ 5125 := hHT12.c _ _
              have w287 : Xi T12 876 8 = Xi T1 876 8 := (show Xi T12 876 8 = Xi T1 876 8 from w180.x _ _ rfl)
              have w288 : 0 ≤ Xi T1 876 8 ∧ Xi T1 876 8 ≤ 9 := hHT1.c _ _
              have w289 : Xi T12 890 2 = Xi T1 890 2 := (show Xi T12 890 2 = Xi T1 890 2 from w180.x _ _ rfl)
              have w290 : 0 ≤ Xi T1 890 2 ∧ Xi T1 890 2 ≤ 20 := hHT1.c _ _
              refine l_callV rfl rfl rfl (t_to_lastRow hHT12 _) ?_
              rintro _ _ ⟨rfl, z292, rfl, w292, w291⟩
              show Rl _ _ _ _ _ [iv z292, iv 1, .ref 876] _ _
              have w293 : Xi T12 876 5 = Xi T1 876 5 := (show Xi T12 876 5 = Xi T1 876 5 from w180.x _ _ rfl)
              have w294 : 0 ≤ Xi T1 876 5 ∧ Xi T1 876 5 ≤ 5000 := hHT1.c _ _
              have w295 : 0 ≤ Xi T12 876 6 ∧ Xi T12 876 6 ≤ 5002 := hHT12.c _ _
              have w296 : 0 ≤ Xi T12 876 7 ∧ Xi T12 876 7 ≤ 5125 := hHT12.c _ _
              have w297 : Xi T12 876 8 = Xi T1 876 8 := (show Xi T12 876 8 = Xi T1 876 8 from w180.x _ _ rfl)
              have w298 : 0 ≤ Xi T1 876 8 ∧ Xi T1 876 8 ≤ 9 := hHT1.c _ _
              have w299 : Xi T12 890 2 = Xi T1 890 2 := (show Xi T12 890 2 = Xi T1 890 2 from w180.x _ _ rfl)
              have w300 : 0 ≤ Xi T1 890 2 ∧ Xi T1 890 2 ≤ 20 := hHT1.c _ _
              refine l_callV rfl rfl rfl (t_to_wrong hHT12 1 z292 ⟨by omega, by omega⟩ ⟨by omega, by omega⟩ _) ?_
              rintro _ T17 ⟨hHT17, w304, z303, rfl, w303, w301, w302⟩
              have hFT17 : FR md_rs_read S T17 := FR.tr hFT12 w304 rfl
              show Rl _ _ _ _ _ [iv z303] _ _
              have W133 : Xi T17 876 8 = 0 → WI T17 := fun q => by omega
              refine l_pop rfl rfl ?_
              refine l_goto rfl rfl ?_
              have w305 : Xi T17 876 5 = Xi T1 876 5 := (show Xi T17 876 5 = Xi T12 876 5 from w304.x _ _ rfl).trans ((show Xi T12 876 5 = Xi T1 876 5 from w180.x _ _ rfl))
              have w306 : 0 ≤ Xi T1 876 5 ∧ Xi T1 876 5 ≤ 5000 := hHT1.c _ _
              have w307 : Xi T17 876 6 = Xi T12 876 6 := (show Xi T17 876 6 = Xi T12 876 6 from w304.x _ _ rfl)
              have w308 : 0 ≤ Xi T12 876 6 ∧ Xi T12 876 6 ≤ 5002 := hHT12.c _ _
              have w309 : Xi T17 876 7 = Xi T12 876 7 := (show Xi T17 876 7 = Xi T12 876 7 from w304.x _ _ rfl)
              have w310 : 0 ≤ Xi T12 876 7 ∧ Xi T12 876 7 ≤ 5125 := hHT12.c _ _
              have w311 : 0 ≤ Xi T17 876 8 ∧ Xi T17 876 8 ≤ 9 := hHT17.c _ _
              have w312 : Xi T17 890 2 = Xi T1 890 2 := (show Xi T17 890 2 = Xi T12 890 2 from w304.x _ _ rfl).trans ((show Xi T12 890 2 = Xi T1 890 2 from w180.x _ _ rfl))
              have w313 : 0 ≤ Xi T1 890 2 ∧ Xi T1 890 2 ≤ 20 := hHT1.c _ _
              exact Rl_weak (ih69 _ (by omega) T17 hHT17 hFT17 (v1) ((v3 + 1)) (z190) (⟨by omega, by omega⟩) (⟨by omega, by omega⟩) (⟨by omega, by omega⟩) (((w304 876 4 rfl).2.2.trans ((w180 876 4 rfl).2.2.trans h76_69))) (((w304 20 1 rfl).2.2.trans ((w180 20 1 rfl).2.2.trans h20_69))) (((w304 0 8 rfl).2.2.trans ((w180 0 8 rfl).2.2.trans h08_69))) (((w304 0 9 rfl).2.2.trans ((w180 0 9 rfl).2.2.trans h09_69))) (by omega) (by omega) (by first | exact W133 | exact W162 | exact W185 | exact W196 | exact fun _ => W54) rfl) (And.intro rfl (And.intro rfl (And.intro rfl (And.intro rfl (True.intro)))))
  refine l_aload_n rfl rfl ?_
  have w314 : 0 ≤ Xi S 0 10 ∧ Xi S 0 10 ≤ 5000 := hH.c _ _
  have w315 : 0 ≤ Xi S 876 5 ∧ Xi S 876 5 ≤ 5000 := hH.c _ _
  have w316 : 0 ≤ Xi S 876 6 ∧ Xi S 876 6 ≤ 5002 := hH.c _ _
  have w317 : 0 ≤ Xi S 876 7 ∧ Xi S 876 7 ≤ 5125 := hH.c _ _
  have w318 : 0 ≤ Xi S 876 8 ∧ Xi S 876 8 ≤ 9 := hH.c _ _
  have w319 : 0 ≤ Xi S 890 2 ∧ Xi S 890 2 ≤ 20 := hH.c _ _
  refine l_callV rfl rfl rfl (t_rs_wipe hH _) ?_
  rintro _ T18 ⟨hHT18, w322, z321, rfl, w321, w320⟩
  have hFT18 : FR md_rs_read S T18 := FR.tr hF w322 rfl
  show Rl _ _ _ _ _ [iv z321] _ _
  refine l_istore_n rfl rfl rfl ?_
  refine l_aload_n rfl rfl ?_
  refine l_gfr rfl rfl rfl rfl rfl ((w322 0 9 rfl).2.2.trans h9) ?_
  refine l_astore_n rfl rfl rfl ?_
  refine l_aload_n rfl rfl ?_
  refine l_aload_n rfl rfl ?_
  refine l_gfr rfl rfl rfl rfl rfl ((w322 0 8 rfl).2.2.trans h8) ?_
  refine l_pfr rfl rfl rfl rfl ?_
  obtain ⟨U19, eU19⟩ : ∃ T : sS, T = uR T18 0 9 (some ts) := ⟨_, rfl⟩
  rw [← eU19]
  have hHU19 : HI U19 := by rw [eU19]; exact HI_R hHT18 rfl rfl (fun q => absurd q.2 (by decide)) (fun _ => ⟨_, rfl, by first | assumption | (right; assumption) | omega⟩) (fun q => absurd q.1 (by decide)) (fun q => absurd q.1 (by decide)) (fun q => absurd q.1 (by decide))
  have hFU19 : FR md_rs_read S U19 := by rw [eU19]; exact FR.wR hFT18 (mdf_i (r := (0, 1, 9, 10)) (List.mem_of_getElem? (i := 1) rfl) (inR_i (by omega) (by omega) (by omega) (by omega)))
  refine l_aload_n rfl rfl ?_
  refine l_aload_n rfl rfl ?_
  refine l_pfr rfl rfl rfl rfl ?_
  obtain ⟨U20, eU20⟩ : ∃ T : sS, T = uR U19 0 8 (some tq) := ⟨_, rfl⟩
  rw [← eU20]
  have hHU20 : HI U20 := by rw [eU20]; exact HI_R hHU19 rfl rfl (fun _ => ⟨_, rfl, by first | assumption | (right; assumption) | omega⟩) (fun q => absurd q.2 (by decide)) (fun q => absurd q.1 (by decide)) (fun q => absurd q.1 (by decide)) (fun q => absurd q.1 (by decide))
  have hFU20 : FR md_rs_read S U20 := by rw [eU20]; exact FR.wR hFU19 (mdf_i (r := (0, 1, 8, 9)) (List.mem_of_getElem? (i := 0) rfl) (inR_i (by omega) (by omega) (by omega) (by omega)))
  refine l_aload_n rfl rfl ?_
  refine l_gfr rfl rfl rfl rfl rfl (hHU20.r 0 7 900 rfl) ?_
  have w325 : Xi U20 876 5 = Xi S 876 5 := (show Xi U20 876 5 = Xi U19 876 5 from by rw [eU20]; rfl).trans ( (show Xi U19 876 5 = Xi T18 876 5 from by rw [eU19]; rfl).trans ((show Xi T18 876 5 = Xi S 876 5 from w322.x _ _ rfl)))
  have w326 : 0 ≤ Xi S 876 5 ∧ Xi S 876 5 ≤ 5000 := hH.c _ _
  have w327 : Xi U20 876 6 = Xi S 876 6 := (show Xi U20 876 6 = Xi U19 876 6 from by rw [eU20]; rfl).trans ( (show Xi U19 876 6 = Xi T18 876 6 from by rw [eU19]; rfl).trans ((show Xi T18 876 6 = Xi S 876 6 from w322.x _ _ rfl)))
  have w328 : 0 ≤ Xi S 876 6 ∧ Xi S 876 6 ≤ 5002 := hH.c _ _
  have w329 : Xi U20 876 7 = Xi S 876 7 := (show Xi U20 876 7 = Xi U19 876 7 from by rw [eU20]; rfl).trans ( (show Xi U19 876 7 = Xi T18 876 7 from by rw [eU19]; rfl).trans ((show Xi T18 876 7 = Xi S 876 7 from w322.x _ _ rfl)))
  have w330 : 0 ≤ Xi S 876 7 ∧ Xi S 876 7 ≤ 5125 := hH.c _ _
  have w331 : Xi U20 876 8 = Xi S 876 8 := (show Xi U20 876 8 = Xi U19 876 8 from by rw [eU20]; rfl).trans ( (show Xi U19 876 8 = Xi T18 876 8 from by rw [eU19]; rfl).trans ((show Xi T18 876 8 = Xi S 876 8 from w322.x _ _ rfl)))
  have w332 : 0 ≤ Xi S 876 8 ∧ Xi S 876 8 ≤ 9 := hH.c _ _
  have w333 : Xi U20 890 2 = Xi S 890 2 := (show Xi U20 890 2 = Xi U19 890 2 from by rw [eU20]; rfl).trans ( (show Xi U19 890 2 = Xi T18 890 2 from by rw [eU19]; rfl).trans ((show Xi T18 890 2 = Xi S 890 2 from w322.x _ _ rfl)))
  have w334 : 0 ≤ Xi S 890 2 ∧ Xi S 890 2 ≤ 20 := hH.c _ _
  refine l_callV rfl rfl rfl (t_tu_empty hHU20 _) ?_
  rintro _ T21 ⟨hHT21, w336, rfl⟩
  have hFT21 : FR md_rs_read S T21 := FR.tr hFU20 w336 rfl
  show Rl _ _ _ _ _ [] _ _
  refine l_aload_n rfl rfl ?_
  have w337 : Xi T21 876 5 = Xi S 876 5 := (show Xi T21 876 5 = Xi U20 876 5 from w336.x _ _ rfl).trans ( (show Xi U20 876 5 = Xi U19 876 5 from by rw [eU20]; rfl).trans ( (show Xi U19 876 5 = Xi T18 876 5 from by rw [eU19]; rfl).trans ((show Xi T18 876 5 = Xi S 876 5 from w322.x _ _ rfl))))
  have w338 : 0 ≤ Xi S 876 5 ∧ Xi S 876 5 ≤ 5000 := hH.c _ _
  have w339 : Xi T21 876 6 = Xi S 876 6 := (show Xi T21 876 6 = Xi U20 876 6 from w336.x _ _ rfl).trans ( (show Xi U20 876 6 = Xi U19 876 6 from by rw [eU20]; rfl).trans ( (show Xi U19 876 6 = Xi T18 876 6 from by rw [eU19]; rfl).trans ((show Xi T18 876 6 = Xi S 876 6 from w322.x _ _ rfl))))
  have w340 : 0 ≤ Xi S 876 6 ∧ Xi S 876 6 ≤ 5002 := hH.c _ _
  have w341 : Xi T21 876 7 = Xi S 876 7 := (show Xi T21 876 7 = Xi U20 876 7 from w336.x _ _ rfl).trans ( (show Xi U20 876 7 = Xi U19 876 7 from by rw [eU20]; rfl).trans ( (show Xi U19 876 7 = Xi T18 876 7 from by rw [eU19]; rfl).trans ((show Xi T18 876 7 = Xi S 876 7 from w322.x _ _ rfl))))
  have w342 : 0 ≤ Xi S 876 7 ∧ Xi S 876 7 ≤ 5125 := hH.c _ _
  have w343 : Xi T21 876 8 = Xi S 876 8 := (show Xi T21 876 8 = Xi U20 876 8 from w336.x _ _ rfl).trans ( (show Xi U20 876 8 = Xi U19 876 8 from by rw [eU20]; rfl).trans ( (show Xi U19 876 8 = Xi T18 876 8 from by rw [eU19]; rfl).trans ((show Xi T18 876 8 = Xi S 876 8 from w322.x _ _ rfl))))
  have w344 : 0 ≤ Xi S 876 8 ∧ Xi S 876 8 ≤ 9 := hH.c _ _
  have w345 : Xi T21 890 2 = Xi S 890 2 := (show Xi T21 890 2 = Xi U20 890 2 from w336.x _ _ rfl).trans ( (show Xi U20 890 2 = Xi U19 890 2 from by rw [eU20]; rfl).trans ( (show Xi U19 890 2 = Xi T18 890 2 from by rw [eU19]; rfl).trans ((show Xi T18 890 2 = Xi S 890 2 from w322.x _ _ rfl))))
  have w346 : 0 ≤ Xi S 890 2 ∧ Xi S 890 2 ≤ 20 := hH.c _ _
  refine l_callV rfl rfl rfl (t_rs_startAgain hHT21 _) ?_
  rintro _ T22 ⟨hHT22, w350, rfl, w347, w348⟩
  have hFT22 : FR md_rs_read S T22 := FR.tr hFT21 w350 rfl
  show Rl _ _ _ _ _ [] _ _
  have W31 : WI T22 := by assumption
  have r31 : Xi T22 246 2 = 0 := by assumption
  refine l_aload_n rfl rfl ?_
  refine l_gfr rfl rfl rfl rfl rfl (hHT22.r 0 1 20 rfl) ?_
  refine l_aload_n rfl rfl ?_
  refine l_gfr rfl rfl rfl rfl rfl ((w350 0 9 rfl).2.2.trans ((w336 0 9 rfl).2.2.trans ((show U20.2.2 0 9 = U19.2.2 0 9 from by rw [eU20]; exact uR_o (by decide)).trans (show U19.2.2 0 9 = some ts from by rw [eU19]; exact uR_s)))) ?_
  refine l_pfr rfl rfl rfl rfl ?_
  obtain ⟨U23, eU23⟩ : ∃ T : sS, T = uR T22 20 1 (some ts) := ⟨_, rfl⟩
  rw [← eU23]
  have hHU23 : HI U23 := by rw [eU23]; exact HI_R hHT22 rfl rfl (fun q => absurd q.1 (by decide)) (fun q => absurd q.1 (by decide)) (fun _ => ⟨_, rfl, by first | assumption | (right; assumption) | omega⟩) (fun q => absurd q.1 (by decide)) (fun q => absurd q.1 (by decide))
  have hFU23 : FR md_rs_read S U23 := by rw [eU23]; exact FR.wR hFT22 (mdf_i (r := (20, 21, 1, 2)) (List.mem_of_getElem? (i := 23) rfl) (inR_i (by omega) (by omega) (by omega) (by omega)))
  have W42 : WI U23 := WI_tx eU23 htp r31 W31
  refine l_aload_n rfl rfl ?_
  refine l_gfr rfl rfl rfl rfl rfl (hHU23.r 0 4 876 rfl) ?_
  refine l_aload_n rfl rfl ?_
  refine l_gfr rfl rfl rfl rfl rfl ((show U23.2.2 0 9 = T22.2.2 0 9 from by rw [eU23]; exact uR_o (by decide)).trans ((w350 0 9 rfl).2.2.trans ((w336 0 9 rfl).2.2.trans ((show U20.2.2 0 9 = U19.2.2 0 9 from by rw [eU20]; exact uR_o (by decide)).trans (show U19.2.2 0 9 = some ts from by rw [eU19]; exact uR_s))))) ?_
  refine l_iload_n rfl rfl ?_
  have w353 : Xi U23 876 5 = Xi S 876 5 := (show Xi U23 876 5 = Xi T22 876 5 from by rw [eU23]; rfl).trans ( (show Xi T22 876 5 = Xi T21 876 5 from w350.x _ _ rfl).trans ( (show Xi T21 876 5 = Xi U20 876 5 from w336.x _ _ rfl).trans ( (show Xi U20 876 5 = Xi U19 876 5 from by rw [eU20]; rfl).trans ( (show Xi U19 876 5 = Xi T18 876 5 from by rw [eU19]; rfl).trans ((show Xi T18 876 5 = Xi S 876 5 from w322.x _ _ rfl))))))
  have w354 : 0 ≤ Xi S 876 5 ∧ Xi S 876 5 ≤ 5000 := hH.c _ _
  have w355 : Xi U23 876 6 = Xi S 876 6 := (show Xi U23 876 6 = Xi T22 876 6 from by rw [eU23]; rfl).trans ( (show Xi T22 876 6 = Xi T21 876 6 from w350.x _ _ rfl).trans ( (show Xi T21 876 6 = Xi U20 876 6 from w336.x _ _ rfl).trans ( (show Xi U20 876 6 = Xi U19 876 6 from by rw [eU20]; rfl).trans ( (show Xi U19 876 6 = Xi T18 876 6 from by rw [eU19]; rfl).trans ((show Xi T18 876 6 = Xi S 876 6 from w322.x _ _ rfl))))))
  have w356 : 0 ≤ Xi S 876 6 ∧ Xi S 876 6 ≤ 5002 := hH.c _ _
  have w357 : Xi U23 876 7 = Xi S 876 7 := (show Xi U23 876 7 = Xi T22 876 7 from by rw [eU23]; rfl).trans ( (show Xi T22 876 7 = Xi T21 876 7 from w350.x _ _ rfl).trans ( (show Xi T21 876 7 = Xi U20 876 7 from w336.x _ _ rfl).trans ( (show Xi U20 876 7 = Xi U19 876 7 from by rw [eU20]; rfl).trans ( (show Xi U19 876 7 = Xi T18 876 7 from by rw [eU19]; rfl).trans ((show Xi T18 876 7 = Xi S 876 7 from w322.x _ _ rfl))))))
  have w358 : 0 ≤ Xi S 876 7 ∧ Xi S 876 7 ≤ 5125 := hH.c _ _
  have w359 : Xi U23 876 8 = Xi S 876 8 := (show Xi U23 876 8 = Xi T22 876 8 from by rw [eU23]; rfl).trans ( (show Xi T22 876 8 = Xi T21 876 8 from w350.x _ _ rfl).trans ( (show Xi T21 876 8 = Xi U20 876 8 from w336.x _ _ rfl).trans ( (show Xi U20 876 8 = Xi U19 876 8 from by rw [eU20]; rfl).trans ( (show Xi U19 876 8 = Xi T18 876 8 from by rw [eU19]; rfl).trans ((show Xi T18 876 8 = Xi S 876 8 from w322.x _ _ rfl))))))
  have w360 : 0 ≤ Xi S 876 8 ∧ Xi S 876 8 ≤ 9 := hH.c _ _
  have w361 : Xi U23 890 2 = Xi S 890 2 := (show Xi U23 890 2 = Xi T22 890 2 from by rw [eU23]; rfl).trans ( (show Xi T22 890 2 = Xi T21 890 2 from w350.x _ _ rfl).trans ( (show Xi T21 890 2 = Xi U20 890 2 from w336.x _ _ rfl).trans ( (show Xi U20 890 2 = Xi U19 890 2 from by rw [eU20]; rfl).trans ( (show Xi U19 890 2 = Xi T18 890 2 from by rw [eU19]; rfl).trans ((show Xi T18 890 2 = Xi S 890 2 from w322.x _ _ rfl))))))
  have w362 : 0 ≤ Xi S 890 2 ∧ Xi S 890 2 ≤ 20 := hH.c _ _
  refine l_callV rfl rfl rfl (t_to_open hHU23 ts z321 htp ⟨by omega, by omega⟩ _) ?_
  rintro _ T24 ⟨hHT24, w366, rfl, w363, w364⟩
  have hFT24 : FR md_rs_read S T24 := FR.tr hFU23 w366 rfl
  show Rl _ _ _ _ _ [] _ _
  have h54 : T24.2.2 876 4 = some ts := by assumption
  have W54 : WI T24 := WI_FR hHU23 (by assumption : FR md_to_open U23 T24) rfl rfl rfl rfl rfl rfl rfl rfl rfl W42
  refine l_iconst rfl ?_
  refine l_istore_n rfl rfl rfl ?_
  refine l_aload_n rfl rfl ?_
  refine l_gfr rfl rfl rfl rfl rfl (hHT24.r 0 4 876 rfl) ?_
  refine l_iconst rfl ?_
  have w367 : 0 ≤ Xi T24 876 5 ∧ Xi T24 876 5 ≤ 5000 := hHT24.c _ _
  have w368 : Xi T24 876 6 = Xi S 876 6 := (show Xi T24 876 6 = Xi U23 876 6 from w366.x _ _ rfl).trans ( (show Xi U23 876 6 = Xi T22 876 6 from by rw [eU23]; rfl).trans ( (show Xi T22 876 6 = Xi T21 876 6 from w350.x _ _ rfl).trans ( (show Xi T21 876 6 = Xi U20 876 6 from w336.x _ _ rfl).trans ( (show Xi U20 876 6 = Xi U19 876 6 from by rw [eU20]; rfl).trans ( (show Xi U19 876 6 = Xi T18 876 6 from by rw [eU19]; rfl).trans ((show Xi T18 876 6 = Xi S 876 6 from w322.x _ _ rfl)))))))
  have w369 : 0 ≤ Xi S 876 6 ∧ Xi S 876 6 ≤ 5002 := hH.c _ _
  have w370 : Xi T24 876 7 = Xi S 876 7 := (show Xi T24 876 7 = Xi U23 876 7 from w366.x _ _ rfl).trans ( (show Xi U23 876 7 = Xi T22 876 7 from by rw [eU23]; rfl).trans ( (show Xi T22 876 7 = Xi T21 876 7 from w350.x _ _ rfl).trans ( (show Xi T21 876 7 = Xi U20 876 7 from w336.x _ _ rfl).trans ( (show Xi U20 876 7 = Xi U19 876 7 from by rw [eU20]; rfl).trans ( (show Xi U19 876 7 = Xi T18 876 7 from by rw [eU19]; rfl).trans ((show Xi T18 876 7 = Xi S 876 7 from w322.x _ _ rfl)))))))
  have w371 : 0 ≤ Xi S 876 7 ∧ Xi S 876 7 ≤ 5125 := hH.c _ _
  have w372 : 0 ≤ Xi T24 876 8 ∧ Xi T24 876 8 ≤ 9 := hHT24.c _ _
  have w373 : Xi T24 890 2 = Xi S 890 2 := (show Xi T24 890 2 = Xi U23 890 2 from w366.x _ _ rfl).trans ( (show Xi U23 890 2 = Xi T22 890 2 from by rw [eU23]; rfl).trans ( (show Xi T22 890 2 = Xi T21 890 2 from w350.x _ _ rfl).trans ( (show Xi T21 890 2 = Xi U20 890 2 from w336.x _ _ rfl).trans ( (show Xi U20 890 2 = Xi U19 890 2 from by rw [eU20]; rfl).trans ( (show Xi U19 890 2 = Xi T18 890 2 from by rw [eU19]; rfl).trans ((show Xi T18 890 2 = Xi S 890 2 from w322.x _ _ rfl)))))))
  have w374 : 0 ≤ Xi S 890 2 ∧ Xi S 890 2 ≤ 20 := hH.c _ _
  refine l_callV rfl rfl rfl (t_to_skip hHT24 ts 0 ⟨by omega, by omega⟩ h54 htp (by first | assumption | omega) _) ?_
  rintro _ _ ⟨rfl, z376, rfl, w376, w375⟩
  show Rl _ _ _ _ _ [iv z376] _ _
  refine l_istore rfl rfl rfl ?_
  have w377 : 0 ≤ Xi T24 876 5 ∧ Xi T24 876 5 ≤ 5000 := hHT24.c _ _
  have w378 : Xi T24 876 6 = Xi S 876 6 := (show Xi T24 876 6 = Xi U23 876 6 from w366.x _ _ rfl).trans ( (show Xi U23 876 6 = Xi T22 876 6 from by rw [eU23]; rfl).trans ( (show Xi T22 876 6 = Xi T21 876 6 from w350.x _ _ rfl).trans ( (show Xi T21 876 6 = Xi U20 876 6 from w336.x _ _ rfl).trans ( (show Xi U20 876 6 = Xi U19 876 6 from by rw [eU20]; rfl).trans ( (show Xi U19 876 6 = Xi T18 876 6 from by rw [eU19]; rfl).trans ((show Xi T18 876 6 = Xi S 876 6 from w322.x _ _ rfl)))))))
  have w379 : 0 ≤ Xi S 876 6 ∧ Xi S 876 6 ≤ 5002 := hH.c _ _
  have w380 : Xi T24 876 7 = Xi S 876 7 := (show Xi T24 876 7 = Xi U23 876 7 from w366.x _ _ rfl).trans ( (show Xi U23 876 7 = Xi T22 876 7 from by rw [eU23]; rfl).trans ( (show Xi T22 876 7 = Xi T21 876 7 from w350.x _ _ rfl).trans ( (show Xi T21 876 7 = Xi U20 876 7 from w336.x _ _ rfl).trans ( (show Xi U20 876 7 = Xi U19 876 7 from by rw [eU20]; rfl).trans ( (show Xi U19 876 7 = Xi T18 876 7 from by rw [eU19]; rfl).trans ((show Xi T18 876 7 = Xi S 876 7 from w322.x _ _ rfl)))))))
  have w381 : 0 ≤ Xi S 876 7 ∧ Xi S 876 7 ≤ 5125 := hH.c _ _
  have w382 : 0 ≤ Xi T24 876 8 ∧ Xi T24 876 8 ≤ 9 := hHT24.c _ _
  have w383 : Xi T24 890 2 = Xi S 890 2 := (show Xi T24 890 2 = Xi U23 890 2 from w366.x _ _ rfl).trans ( (show Xi U23 890 2 = Xi T22 890 2 from by rw [eU23]; rfl).trans ( (show Xi T22 890 2 = Xi T21 890 2 from w350.x _ _ rfl).trans ( (show Xi T21 890 2 = Xi U20 890 2 from w336.x _ _ rfl).trans ( (show Xi U20 890 2 = Xi U19 890 2 from by rw [eU20]; rfl).trans ( (show Xi U19 890 2 = Xi T18 890 2 from by rw [eU19]; rfl).trans ((show Xi T18 890 2 = Xi S 890 2 from w322.x _ _ rfl)))))))
  have w384 : 0 ≤ Xi S 890 2 ∧ Xi S 890 2 ≤ 20 := hH.c _ _
  exact Rl_weak (C69 _ T24 hHT24 hFT24 (z321) (0) (z376) (⟨by omega, by omega⟩) (⟨by omega, by omega⟩) (⟨by omega, by omega⟩) (h54) (((w366 20 1 rfl).2.2.trans (show U23.2.2 20 1 = some ts from by rw [eU23]; exact uR_s))) (((w366 0 8 rfl).2.2.trans ((show U23.2.2 0 8 = T22.2.2 0 8 from by rw [eU23]; exact uR_o (by decide)).trans ((w350 0 8 rfl).2.2.trans ((w336 0 8 rfl).2.2.trans (show U20.2.2 0 8 = some tq from by rw [eU20]; exact uR_s)))))) (((w366 0 9 rfl).2.2.trans ((show U23.2.2 0 9 = T22.2.2 0 9 from by rw [eU23]; exact uR_o (by decide)).trans ((w350 0 9 rfl).2.2.trans ((w336 0 9 rfl).2.2.trans ((show U20.2.2 0 9 = U19.2.2 0 9 from by rw [eU20]; exact uR_o (by decide)).trans (show U19.2.2 0 9 = some ts from by rw [eU19]; exact uR_s))))))) (by omega) (by omega) (by first | exact W133 | exact W162 | exact W185 | exact W196 | exact fun _ => W54) rfl) (And.intro rfl (And.intro rfl (And.intro rfl (And.intro rfl (True.intro)))))
