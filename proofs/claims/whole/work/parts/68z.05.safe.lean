/-! SAFETY of methods: printed by wip/safe (vc.py, decl.py) -/
def md_mo_phraseMeant : List rec := [(904, 905, 64, 65), (904, 905, 104, 105), (904, 905, 105, 106), (904, 905, 106, 107), (904, 905, 113, 114), (904, 905, 128, 129), (904, 905, 129, 130), (904, 905, 154, 155), (904, 905, 156, 157), (904, 905, 157, 158), (904, 905, 158, 159), (904, 905, 160, 161), (969, 970, 0, 100000), (970, 971, 0, 100000), (971, 972, 0, 100000), (972, 973, 0, 100000), (973, 974, 0, 100000), (974, 975, 0, 100000), (975, 976, 0, 100000), (976, 977, 0, 100000), (977, 978, 0, 100000), (993, 994, 0, 100000), (994, 995, 0, 100000)]
abbrev Q_mo_phraseMeant (S : sS) (n : Nat) (i : Int) (q : Int) (p : Int) : pst := fun r S1 => HI S1 ∧ FR md_mo_phraseMeant S S1 ∧ (r = none ∧ (Xi S 904 106 ≠ 0 → Xi S1 904 106 ≠ 0) ∧ (Xi S1 904 106 = 0 → PQ S1 (0 ≤ Xi S 904 116) p.toNat) ∧ (KQ S1 S q) ∧ (KH S1 S p) ∧ (Xi S1 977 (p).toNat = q))
set_option maxRecDepth 100000 in
set_option maxHeartbeats 16000000 in
theorem c36_mo_phraseMeant {S : sS} (hH : HI S) (n : Nat) (i : Int) (q : Int) (p : Int) (hi : 0 ≤ i ∧ i ≤ 1699) (hq : 0 ≤ q ∧ q ≤ 2399) (hp : 0 ≤ p ∧ p ≤ 1999) (hT : TK S n) (hv : RNV S n) (hM : LXM S) (hB : ABV S) (hC : DCM S) (hK : TXK S n) (hX : TXM S) (hit : Xi S 904 115 = -1) (hpv : PV S n i.toNat) (h64 : Xi S 964 i.toNat ≤ 1699) (d : Nat) : ∀  (T1 : sS) (_ : HI T1) (_ : FR md_mo_phraseMeant S T1) (v4 : Int), (0 ≤ v4 ∧ v4 ≤ 1700) → (KQ T1 S q) → (KH T1 S p) → (Xi T1 976 (p).toNat = 0) → (Xi T1 977 (p).toNat = q) → (Xi S 904 106 ≠ 0 → Xi T1 904 106 ≠ 0) → (Xi T1 904 69 = Xi S 904 69) → (Xi T1 904 115 = -1) → (v4 = Xi S 964 (i).toNat) → (Xi S 963 (i).toNat = 0) → Rl lay0 (d + 7) m_mo_phraseMeant 36 [(0, .ref 904), (2, iv q), (4, iv v4)] [] T1 (Q_mo_phraseMeant S n i q p) := by
  have hF : FR md_mo_phraseMeant S S := FR.rf
  have w1 : 0 ≤ Xi S 904 106 ∧ Xi S 904 106 ≤ 9 := hH.c _ _
  have w2 : -1 ≤ Xi S 904 115 ∧ Xi S 904 115 ≤ 15 := hH.c _ _
  have w3 : -1 ≤ Xi S 904 116 ∧ Xi S 904 116 ≤ 15 := hH.c _ _
  have w4 : 0 ≤ Xi S 904 128 ∧ Xi S 904 128 ≤ 11 := hH.c _ _
  have w5 : -1 ≤ Xi S 904 129 ∧ Xi S 904 129 ≤ 23 := hH.c _ _
  have w6 : 0 ≤ Xi S 904 19 ∧ Xi S 904 19 ≤ 24 := hH.c _ _
  have w7 : 0 ≤ Xi S 904 49 ∧ Xi S 904 49 ≤ 12 := hH.c _ _
  have w8 : 0 ≤ Xi S 904 69 ∧ Xi S 904 69 ≤ 2600 := hH.c _ _
  have hn5 := hT.1
  have hc69 : 0 ≤ Xi S 904 69 ∧ Xi S 904 69 ≤ 2600 := hH.c _ _
  have hc19 : 0 ≤ Xi S 904 19 ∧ Xi S 904 19 ≤ 24 := hH.c _ _
  have hc32 : 0 ≤ Xi S 904 32 ∧ Xi S 904 32 ≤ 12 := hH.c _ _
  have hc49 : 0 ≤ Xi S 904 49 ∧ Xi S 904 49 ≤ 12 := hH.c _ _
  have h963 : 0 ≤ Xi S 963 (i).toNat ∧ Xi S 963 (i).toNat ≤ 6 := hH.c 963 _
  have h964 : 0 ≤ Xi S 964 (i).toNat := (hH.c 964 (i).toNat).1
  have hp : PVt S n (Xi S 963 (i).toNat) (Xi S 964 (i).toNat).toNat := hpv
  have hrf : ∀ r : Int, 0 ≤ r → r < Xi S 904 69 → Xi S 950 r.toNat + Xi S 951 r.toNat ≤ n ∧ 1 ≤ Xi S 951 r.toNat := fun r a b => hv r.toNat (by omega)
  have h956 : 0 ≤ Xi S 956 (Xi S 964 (i).toNat).toNat := (hH.c 956 _).1
  intro T1 hHT1 hFT1 v4 w9 K36 P36 w10 w11 w12 w13 w14 w15 w16
  have w17 : Xi T1 904 115 = Xi S 904 115 := hFT1.x _ _ rfl
  have w18 : Xi T1 904 116 = Xi S 904 116 := hFT1.x _ _ rfl
  have w19 : Xi T1 904 19 = Xi S 904 19 := hFT1.x _ _ rfl
  have w20 : Xi T1 904 32 = Xi S 904 32 := hFT1.x _ _ rfl
  have w21 : Xi T1 904 49 = Xi S 904 49 := hFT1.x _ _ rfl
  have w22 : Xi T1 904 69 = Xi S 904 69 := hFT1.x _ _ rfl
  have w23 : 0 ≤ Xi T1 904 106 ∧ Xi T1 904 106 ≤ 9 := hHT1.c _ _
  have w24 : -1 ≤ Xi T1 904 115 ∧ Xi T1 904 115 ≤ 15 := hHT1.c _ _
  have w25 : 0 ≤ Xi T1 904 69 ∧ Xi T1 904 69 ≤ 2600 := hHT1.c _ _
  refine l_aload_n rfl rfl ?_
  refine l_gfr rfl rfl rfl rfl rfl (hHT1.r 904 87 957 rfl) ?_
  refine l_iload rfl rfl ?_
  refine l_iaload (n := 1700) rfl rfl (by omega) (by omega) (by unfold rg; omega) ?_
  have w26 : 0 ≤ (Xi T1 957 ((v4).toNat)) ∧ (Xi T1 957 ((v4).toNat)) ≤ 5010 := hHT1.c _ _
  have e42 : (Xi T1 957 ((v4).toNat)) = Xi S 957 (Xi S 964 (i).toNat).toNat := by first | rfl | exact (hFT1.cx 957 rfl _).1 | exact (hFT1.cx 957 rfl _).1 | (rw [(hFT1.cx 957 rfl _).1]; exact congrArg (fun t : Int => Xi S 957 t.toNat) (by omega)) | (rw [(hFT1.cx 957 rfl _).1]; exact congrArg (fun t : Int => Xi S 957 t.toNat) (by omega)) | (rw [(hFT1.cx 957 rfl _).1]; exact congrArg (fun t : Int => Xi S 957 t.toNat) (by omega)) | (rw [(hFT1.cx 957 rfl _).1]; exact congrArg (fun t : Int => Xi S 957 t.toNat) (by omega))
  have b42 := hp.1 (by omega)
  have l42 : Xi S 957 (Xi S 964 (i).toNat).toNat < n := tk_lt hT (by have := (hH.c 957 (Xi S 964 (i).toNat).toNat).1; omega) b42.1 (by have := b42.2; omega)
  have o42 : Xi S 908 (Xi S 957 (Xi S 964 (i).toNat).toNat).toNat + 1 + Xi S 909 (Xi S 957 (Xi S 964 (i).toNat).toNat).toNat ≤ 5000 := hK (Xi S 957 (Xi S 964 (i).toNat).toNat).toNat (by have := (hH.c 957 (Xi S 964 (i).toNat).toNat).1; omega) b42.2
  have g42 : 0 ≤ Xi S 908 (Xi S 957 (Xi S 964 (i).toNat).toNat).toNat ∧ 0 ≤ Xi S 909 (Xi S 957 (Xi S 964 (i).toNat).toNat).toNat := ⟨(hH.c 908 _).1, (hH.c 909 _).1⟩
  have x908 : ∀ T : sS, (∀ j, Xi T 908 j = Xi S 908 j) → Xi T 908 ((Xi T1 957 ((v4).toNat))).toNat = Xi S 908 (Xi S 957 (Xi S 964 (i).toNat).toNat).toNat := fun T h => by rw [h, e42]
  have x909 : ∀ T : sS, (∀ j, Xi T 909 j = Xi S 909 j) → Xi T 909 ((Xi T1 957 ((v4).toNat))).toNat = Xi S 909 (Xi S 957 (Xi S 964 (i).toNat).toNat).toNat := fun T h => by rw [h, e42]
  refine l_istore rfl rfl rfl ?_
  refine l_aload_n rfl rfl ?_
  refine l_gfr rfl rfl rfl rfl rfl (hHT1.r 904 122 973 rfl) ?_
  refine l_iload_n rfl rfl ?_
  refine l_aload_n rfl rfl ?_
  refine l_gfr rfl rfl rfl rfl rfl (hHT1.r 904 5 908 rfl) ?_
  refine l_iload rfl rfl ?_
  refine l_iaload (n := 5002) rfl rfl (by omega) (by omega) (by unfold rg; omega) ?_
  have w27 : 0 ≤ (Xi T1 908 (((Xi T1 957 ((v4).toNat))).toNat)) ∧ (Xi T1 908 (((Xi T1 957 ((v4).toNat))).toNat)) ≤ 5000 := hHT1.c _ _
  have e56 := x908 T1 (fun j => (hFT1.cx 908 rfl j).1)
  refine l_iconst rfl ?_
  refine l_iadd rfl ?_
  refine l_iastore (n := 2400) rfl rfl (by omega) (by omega) (by unfold rg; omega) ?_
  obtain ⟨U2, eU2⟩ : ∃ T : sS, T = uI T1 973 ((q).toNat) (Int32.ofInt ((Xi T1 908 (((Xi T1 957 ((v4).toNat))).toNat)) + 1)) := ⟨_, rfl⟩
  rw [← eU2]
  have hHU2 : HI U2 := by rw [eU2]; exact HI_any hHT1 (rfl)
  have hFU2 : FR md_mo_phraseMeant S U2 := by rw [eU2]; exact FR.wI hFT1 (mdf_i (r := (973, 974, 0, 100000)) (List.mem_of_getElem? (i := 16) rfl) (inR_i (by omega) (by omega) (by omega) (by omega)))
  have w28 : Xi U2 973 ((q).toNat) = ((Xi T1 908 (((Xi T1 957 ((v4).toNat))).toNat)) + 1) := by rw [eU2]; exact Xi_same (by unfold rg; omega)
  refine l_aload_n rfl rfl ?_
  refine l_gfr rfl rfl rfl rfl rfl (hHU2.r 904 123 974 rfl) ?_
  refine l_iload_n rfl rfl ?_
  refine l_aload_n rfl rfl ?_
  refine l_gfr rfl rfl rfl rfl rfl (hHU2.r 904 6 909 rfl) ?_
  refine l_iload rfl rfl ?_
  refine l_iaload (n := 5002) rfl rfl (by omega) (by omega) (by unfold rg; omega) ?_
  have w29 : 0 ≤ (Xi U2 909 (((Xi T1 957 ((v4).toNat))).toNat)) ∧ (Xi U2 909 (((Xi T1 957 ((v4).toNat))).toNat)) ≤ 5000 := hHU2.c _ _
  have e71 := x909 U2 (fun j => (hFU2.cx 909 rfl j).1)
  refine l_iastore (n := 2400) rfl rfl (by omega) (by omega) (by unfold rg; omega) ?_
  obtain ⟨U3, eU3⟩ : ∃ T : sS, T = uI U2 974 ((q).toNat) (Int32.ofInt (Xi U2 909 (((Xi T1 957 ((v4).toNat))).toNat))) := ⟨_, rfl⟩
  rw [← eU3]
  have hHU3 : HI U3 := by rw [eU3]; exact HI_any hHU2 (rfl)
  have hFU3 : FR md_mo_phraseMeant S U3 := by rw [eU3]; exact FR.wI hFU2 (mdf_i (r := (974, 975, 0, 100000)) (List.mem_of_getElem? (i := 17) rfl) (inR_i (by omega) (by omega) (by omega) (by omega)))
  have w30 : Xi U3 974 ((q).toNat) = (Xi U2 909 (((Xi T1 957 ((v4).toNat))).toNat)) := by rw [eU3]; exact Xi_same (by unfold rg; omega)
  refine l_aload_n rfl rfl ?_
  refine l_aload_n rfl rfl ?_
  refine l_aload_n rfl rfl ?_
  refine l_gfr rfl rfl rfl rfl rfl (hHU3.r 904 5 908 rfl) ?_
  refine l_iload rfl rfl ?_
  refine l_iaload (n := 5002) rfl rfl (by omega) (by omega) (by unfold rg; omega) ?_
  have w31 : (Xi U3 908 (((Xi T1 957 ((v4).toNat))).toNat)) = (Xi T1 908 (((Xi T1 957 ((v4).toNat))).toNat)) := (show Xi U3 908 (((Xi T1 957 ((v4).toNat))).toNat) = Xi U2 908 (((Xi T1 957 ((v4).toNat))).toNat) from by rw [eU3]; exact Xi_ne (by omega)).trans ((show Xi U2 908 (((Xi T1 957 ((v4).toNat))).toNat) = Xi T1 908 (((Xi T1 957 ((v4).toNat))).toNat) from by rw [eU2]; exact Xi_ne (by omega)))
  rw [w31]
  have e81 := x908 U3 (fun j => (hFU3.cx 908 rfl j).1)
  refine l_iconst rfl ?_
  refine l_iadd rfl ?_
  refine l_aload_n rfl rfl ?_
  refine l_gfr rfl rfl rfl rfl rfl (hHU3.r 904 6 909 rfl) ?_
  refine l_iload rfl rfl ?_
  refine l_iaload (n := 5002) rfl rfl (by omega) (by omega) (by unfold rg; omega) ?_
  have w32 : (Xi U3 909 (((Xi T1 957 ((v4).toNat))).toNat)) = (Xi U2 909 (((Xi T1 957 ((v4).toNat))).toNat)) := (show Xi U3 909 (((Xi T1 957 ((v4).toNat))).toNat) = Xi U2 909 (((Xi T1 957 ((v4).toNat))).toNat) from by rw [eU3]; exact Xi_ne (by omega))
  rw [w32]
  have e90 := x909 U3 (fun j => (hFU3.cx 909 rfl j).1)
  refine l_iconst rfl ?_
  have w41 : Xi U3 904 19 = Xi T1 904 19 := (show Xi U3 904 19 = Xi U2 904 19 from by rw [eU3]; exact Xi_ne (by omega)).trans ((show Xi U2 904 19 = Xi T1 904 19 from by rw [eU2]; exact Xi_ne (by omega)))
  have w42 : 0 ≤ Xi T1 904 19 ∧ Xi T1 904 19 ≤ 24 := hHT1.c _ _
  refine l_callV rfl rfl rfl (t_mo_says hHU3 ((Xi T1 908 (((Xi T1 957 ((v4).toNat))).toNat)) + 1) (Xi U2 909 (((Xi T1 957 ((v4).toNat))).toNat)) (-1) ⟨by omega, by omega⟩ ⟨by omega, by omega⟩ ⟨by omega, by omega⟩ (by first | assumption | omega) (by first | assumption | exact (LXM_FR hFU3 rfl (by assumption : LXM S))) (by first | assumption | exact (ABV_FR hFU3 rfl (by assumption : ABV S))) (by first | assumption | exact (TXM_FR hFU3 rfl (by assumption : TXM S))) (by first | assumption | omega) _) ?_
  rintro _ T4 ⟨hHT4, w46, z45, rfl, w45⟩
  have hFT4 : FR md_mo_phraseMeant S T4 := FR.tr hFU3 w46 rfl
  show Rl _ _ _ _ _ [iv z45, .ref 904] _ _
  refine l_bipush rfl rfl ?_
  refine l_iload rfl rfl ?_
  have w47 : Xi T4 904 106 = Xi T1 904 106 := (show Xi T4 904 106 = Xi U3 904 106 from w46.x _ _ rfl).trans ( (show Xi U3 904 106 = Xi U2 904 106 from by rw [eU3]; exact Xi_ne (by omega)).trans ((show Xi U2 904 106 = Xi T1 904 106 from by rw [eU2]; exact Xi_ne (by omega))))
  refine l_callV rfl rfl rfl (t_mo_need hHT4 z45 8 (Xi T1 957 ((v4).toNat)) ⟨by omega, by omega⟩ ⟨by omega, by omega⟩ ⟨by omega, by omega⟩ _) ?_
  rintro _ T5 ⟨hHT5, w60, rfl, w57, w58⟩
  have hFT5 : FR md_mo_phraseMeant S T5 := FR.tr hFT4 w60 rfl
  show Rl _ _ _ _ _ [] _ _
  refine l_goto rfl rfl ?_
  refine l_return rfl rfl ?_
  have w61 : Xi T5 970 (q).toNat = Xi T1 970 (q).toNat := (show Xi T5 970 (q).toNat = Xi T4 970 (q).toNat from (w60.cx 970 rfl _).1).trans ( (show Xi T4 970 (q).toNat = Xi U3 970 (q).toNat from (w46.cx 970 rfl _).1).trans ( (show Xi U3 970 (q).toNat = Xi U2 970 (q).toNat from by rw [eU3]; exact Xi_ne (by omega)).trans ((show Xi U2 970 (q).toNat = Xi T1 970 (q).toNat from by rw [eU2]; exact Xi_ne (by omega)))))
  have w62 : Xi T5 971 (q).toNat = Xi T1 971 (q).toNat := (show Xi T5 971 (q).toNat = Xi T4 971 (q).toNat from (w60.cx 971 rfl _).1).trans ( (show Xi T4 971 (q).toNat = Xi U3 971 (q).toNat from (w46.cx 971 rfl _).1).trans ( (show Xi U3 971 (q).toNat = Xi U2 971 (q).toNat from by rw [eU3]; exact Xi_ne (by omega)).trans ((show Xi U2 971 (q).toNat = Xi T1 971 (q).toNat from by rw [eU2]; exact Xi_ne (by omega)))))
  have w63 : Xi T5 972 (q).toNat = Xi T1 972 (q).toNat := (show Xi T5 972 (q).toNat = Xi T4 972 (q).toNat from (w60.cx 972 rfl _).1).trans ( (show Xi T4 972 (q).toNat = Xi U3 972 (q).toNat from (w46.cx 972 rfl _).1).trans ( (show Xi U3 972 (q).toNat = Xi U2 972 (q).toNat from by rw [eU3]; exact Xi_ne (by omega)).trans ((show Xi U2 972 (q).toNat = Xi T1 972 (q).toNat from by rw [eU2]; exact Xi_ne (by omega)))))
  have w64 : Xi T5 973 (q).toNat = Xi U2 973 (q).toNat := (show Xi T5 973 (q).toNat = Xi T4 973 (q).toNat from (w60.cx 973 rfl _).1).trans ( (show Xi T4 973 (q).toNat = Xi U3 973 (q).toNat from (w46.cx 973 rfl _).1).trans ((show Xi U3 973 (q).toNat = Xi U2 973 (q).toNat from by rw [eU3]; exact Xi_ne (by omega))))
  have w65 : Xi T5 974 (q).toNat = Xi U3 974 (q).toNat := (show Xi T5 974 (q).toNat = Xi T4 974 (q).toNat from (w60.cx 974 rfl _).1).trans ((show Xi T4 974 (q).toNat = Xi U3 974 (q).toNat from (w46.cx 974 rfl _).1))
  have w66 : Xi T5 975 (q).toNat = Xi T1 975 (q).toNat := (show Xi T5 975 (q).toNat = Xi T4 975 (q).toNat from (w60.cx 975 rfl _).1).trans ( (show Xi T4 975 (q).toNat = Xi U3 975 (q).toNat from (w46.cx 975 rfl _).1).trans ( (show Xi U3 975 (q).toNat = Xi U2 975 (q).toNat from by rw [eU3]; exact Xi_ne (by omega)).trans ((show Xi U2 975 (q).toNat = Xi T1 975 (q).toNat from by rw [eU2]; exact Xi_ne (by omega)))))
  have w67 : Xi T5 976 (p).toNat = Xi T1 976 (p).toNat := (show Xi T5 976 (p).toNat = Xi T4 976 (p).toNat from (w60.cx 976 rfl _).1).trans ( (show Xi T4 976 (p).toNat = Xi U3 976 (p).toNat from (w46.cx 976 rfl _).1).trans ( (show Xi U3 976 (p).toNat = Xi U2 976 (p).toNat from by rw [eU3]; exact Xi_ne (by omega)).trans ((show Xi U2 976 (p).toNat = Xi T1 976 (p).toNat from by rw [eU2]; exact Xi_ne (by omega)))))
  have w68 : Xi T5 977 (p).toNat = Xi T1 977 (p).toNat := (show Xi T5 977 (p).toNat = Xi T4 977 (p).toNat from (w60.cx 977 rfl _).1).trans ( (show Xi T4 977 (p).toNat = Xi U3 977 (p).toNat from (w46.cx 977 rfl _).1).trans ( (show Xi U3 977 (p).toNat = Xi U2 977 (p).toNat from by rw [eU3]; exact Xi_ne (by omega)).trans ((show Xi U2 977 (p).toNat = Xi T1 977 (p).toNat from by rw [eU2]; exact Xi_ne (by omega)))))
  have w69 : 0 ≤ Xi T5 904 106 ∧ Xi T5 904 106 ≤ 9 := hHT5.c _ _
  have w70 : Xi T5 904 115 = Xi T1 904 115 := (show Xi T5 904 115 = Xi T4 904 115 from w60.x _ _ rfl).trans ( (show Xi T4 904 115 = Xi U3 904 115 from w46.x _ _ rfl).trans ( (show Xi U3 904 115 = Xi U2 904 115 from by rw [eU3]; exact Xi_ne (by omega)).trans ((show Xi U2 904 115 = Xi T1 904 115 from by rw [eU2]; exact Xi_ne (by omega)))))
  have w72 : Xi T5 904 128 = Xi T1 904 128 := (show Xi T5 904 128 = Xi T4 904 128 from w60.x _ _ rfl).trans ( (show Xi T4 904 128 = Xi U3 904 128 from w46.x _ _ rfl).trans ( (show Xi U3 904 128 = Xi U2 904 128 from by rw [eU3]; exact Xi_ne (by omega)).trans ((show Xi U2 904 128 = Xi T1 904 128 from by rw [eU2]; exact Xi_ne (by omega)))))
  have w73 : 0 ≤ Xi T1 904 128 ∧ Xi T1 904 128 ≤ 11 := hHT1.c _ _
  have w74 : Xi T5 904 129 = Xi T1 904 129 := (show Xi T5 904 129 = Xi T4 904 129 from w60.x _ _ rfl).trans ( (show Xi T4 904 129 = Xi U3 904 129 from w46.x _ _ rfl).trans ( (show Xi U3 904 129 = Xi U2 904 129 from by rw [eU3]; exact Xi_ne (by omega)).trans ((show Xi U2 904 129 = Xi T1 904 129 from by rw [eU2]; exact Xi_ne (by omega)))))
  have w75 : -1 ≤ Xi T1 904 129 ∧ Xi T1 904 129 ≤ 23 := hHT1.c _ _
  have w76 : Xi T5 904 69 = Xi T1 904 69 := (show Xi T5 904 69 = Xi T4 904 69 from w60.x _ _ rfl).trans ( (show Xi T4 904 69 = Xi U3 904 69 from w46.x _ _ rfl).trans ( (show Xi U3 904 69 = Xi U2 904 69 from by rw [eU3]; exact Xi_ne (by omega)).trans ((show Xi U2 904 69 = Xi T1 904 69 from by rw [eU2]; exact Xi_ne (by omega)))))
  exact ⟨hHT5, hFT5, rfl, (by omega), (by first | exact (fun _ x0 => pq_i (q := (q).toNat) (w := 0) (pqt_0 (by omega)) (by omega) (by omega) (by omega)) o42 | exact (fun _ x0 => pq_i (q := (q).toNat) (w := 1) (pqt_1 ⟨(t120 (by omega)).mono (fun y => absurd y (by omega)) (fun y => by omega), (n120 (by omega) rfl).1, (n120 (by omega) rfl).2⟩) (by omega) (by omega) (by omega)) t120 | exact (fun _ x0 => pq_i (q := (q).toNat) (w := 2) (pqt_2 (thk_c (H210 (by omega)) (hFT5.x 904 19 rfl) (by omega)) (thk_c (th230 (by omega)) (hFT5.x 904 19 rfl) (by omega))) (by omega) (by omega) (by omega)) th230 | exact (fun _ x0 => pq_i (q := (q).toNat) (w := Xi T5 976 (p).toNat) (pqt_3 (by omega) (thk_c (th277 (by omega)) (hFT5.x 904 19 rfl) (by omega)) (by have a := hFT5.x 904 32 rfl; omega) (by rw [(hFT5.cx 928 rfl _).1, show Xi T5 972 (q).toNat = rnR S (Xi S 956 (Xi S 964 (i).toNat).toNat) 7 from by have t := p300 (by omega); omega]; have t := n312 (by omega); omega)) (by omega) (by omega) (by omega)) th277 | exact (fun _ x0 => pq_i (q := (q).toNat) (w := 5) (pqt_5 (by have a := hFT5.x 904 49 rfl; have t := (Z537 (by omega)).1; omega) (fun y => (by by_cases c : Xi S 953 (Xi S 964 (i).toNat).toNat = 0; exact Or.inl (by have t := (Z537 (by omega)).2.1 c (by omega); have a := hFT5.x 904 19 rfl; omega); exact thk_c (Y537 (by omega) c) (hFT5.x 904 19 rfl) (by omega))) (fun y => by rw [(hFT5.cx 942 rfl _).1, show Xi T5 972 (q).toNat = Xi T1 972 (q).toNat by omega]; exact (Z537 (by omega)).2.2 (by omega) (by omega))) (by omega) (by omega) (by omega)) Z537 | exact fun x => pq_i (q := (q).toNat) (w := 6) pqt_6 (by omega) (by omega) (by omega) | exact fun x => absurd x (by omega)), ((KQ_FR w60 rfl (KQ_FR w46 rfl (KQ.w (KQ.w (by assumption : KQ T1 S _) eU2 (by omega)) eU3 (by omega))))), ((KH_FR w60 rfl (KH_FR w46 rfl (KH_FR (FR_e eU3) rfl (KH_FR (FR_e eU2) rfl (by assumption : KH T1 _ _)))))), (by omega)⟩
set_option maxRecDepth 100000 in
set_option maxHeartbeats 16000000 in
theorem c115_mo_phraseMeant {S : sS} (hH : HI S) (n : Nat) (i : Int) (q : Int) (p : Int) (hi : 0 ≤ i ∧ i ≤ 1699) (hq : 0 ≤ q ∧ q ≤ 2399) (hp : 0 ≤ p ∧ p ≤ 1999) (hT : TK S n) (hv : RNV S n) (hM : LXM S) (hB : ABV S) (hC : DCM S) (hK : TXK S n) (hX : TXM S) (hit : Xi S 904 115 = -1) (hpv : PV S n i.toNat) (h64 : Xi S 964 i.toNat ≤ 1699) (d : Nat) : ∀  (T6 : sS) (_ : HI T6) (_ : FR md_mo_phraseMeant S T6) (v4 : Int), (0 ≤ v4 ∧ v4 ≤ 1700) → (KQ T6 S q) → (KH T6 S p) → (Xi T6 976 (p).toNat = 1) → (Xi T6 977 (p).toNat = q) → (Xi S 904 106 ≠ 0 → Xi T6 904 106 ≠ 0) → (Xi T6 904 69 = Xi S 904 69) → (Xi T6 904 115 = -1) → (v4 = Xi S 964 (i).toNat) → (Xi S 963 (i).toNat = 1) → Rl lay0 (d + 7) m_mo_phraseMeant 115 [(0, .ref 904), (2, iv q), (4, iv v4)] [] T6 (Q_mo_phraseMeant S n i q p) := by
  have hF : FR md_mo_phraseMeant S S := FR.rf
  have w1 : 0 ≤ Xi S 904 106 ∧ Xi S 904 106 ≤ 9 := hH.c _ _
  have w2 : -1 ≤ Xi S 904 115 ∧ Xi S 904 115 ≤ 15 := hH.c _ _
  have w3 : -1 ≤ Xi S 904 116 ∧ Xi S 904 116 ≤ 15 := hH.c _ _
  have w4 : 0 ≤ Xi S 904 128 ∧ Xi S 904 128 ≤ 11 := hH.c _ _
  have w5 : -1 ≤ Xi S 904 129 ∧ Xi S 904 129 ≤ 23 := hH.c _ _
  have w6 : 0 ≤ Xi S 904 19 ∧ Xi S 904 19 ≤ 24 := hH.c _ _
  have w7 : 0 ≤ Xi S 904 49 ∧ Xi S 904 49 ≤ 12 := hH.c _ _
  have w8 : 0 ≤ Xi S 904 69 ∧ Xi S 904 69 ≤ 2600 := hH.c _ _
  have hn5 := hT.1
  have hc69 : 0 ≤ Xi S 904 69 ∧ Xi S 904 69 ≤ 2600 := hH.c _ _
  have hc19 : 0 ≤ Xi S 904 19 ∧ Xi S 904 19 ≤ 24 := hH.c _ _
  have hc32 : 0 ≤ Xi S 904 32 ∧ Xi S 904 32 ≤ 12 := hH.c _ _
  have hc49 : 0 ≤ Xi S 904 49 ∧ Xi S 904 49 ≤ 12 := hH.c _ _
  have h963 : 0 ≤ Xi S 963 (i).toNat ∧ Xi S 963 (i).toNat ≤ 6 := hH.c 963 _
  have h964 : 0 ≤ Xi S 964 (i).toNat := (hH.c 964 (i).toNat).1
  have hp : PVt S n (Xi S 963 (i).toNat) (Xi S 964 (i).toNat).toNat := hpv
  have hrf : ∀ r : Int, 0 ≤ r → r < Xi S 904 69 → Xi S 950 r.toNat + Xi S 951 r.toNat ≤ n ∧ 1 ≤ Xi S 951 r.toNat := fun r a b => hv r.toNat (by omega)
  have h956 : 0 ≤ Xi S 956 (Xi S 964 (i).toNat).toNat := (hH.c 956 _).1
  intro T6 hHT6 hFT6 v4 w78 K115 P115 w79 w80 w81 w82 w83 w84 w85
  have w86 : Xi T6 904 115 = Xi S 904 115 := hFT6.x _ _ rfl
  have w87 : Xi T6 904 116 = Xi S 904 116 := hFT6.x _ _ rfl
  have w88 : Xi T6 904 19 = Xi S 904 19 := hFT6.x _ _ rfl
  have w89 : Xi T6 904 32 = Xi S 904 32 := hFT6.x _ _ rfl
  have w90 : Xi T6 904 49 = Xi S 904 49 := hFT6.x _ _ rfl
  have w91 : Xi T6 904 69 = Xi S 904 69 := hFT6.x _ _ rfl
  have w92 : 0 ≤ Xi T6 904 106 ∧ Xi T6 904 106 ≤ 9 := hHT6.c _ _
  have w93 : -1 ≤ Xi T6 904 115 ∧ Xi T6 904 115 ≤ 15 := hHT6.c _ _
  have w94 : 0 ≤ Xi T6 904 69 ∧ Xi T6 904 69 ≤ 2600 := hHT6.c _ _
  refine l_aload_n rfl rfl ?_
  refine l_iload rfl rfl ?_
  refine l_iload_n rfl rfl ?_
  refine l_iconst rfl ?_
  have w97 : -1 ≤ Xi T6 904 116 ∧ Xi T6 904 116 ≤ 15 := hHT6.c _ _
  refine l_callV rfl rfl rfl (t_mo_testMeant hHT6 n v4 q 1 ⟨by omega, by omega⟩ ⟨by omega, by omega⟩ ⟨by omega, by omega⟩ (by first | assumption | exact (TK_FR hFT6 rfl (by assumption : TK S _))) (by first | assumption | exact (RNV_FR hFT6 rfl (by assumption : RNV S _))) (by first | assumption | exact (LXM_FR hFT6 rfl (by assumption : LXM S))) (by first | assumption | exact (ABV_FR hFT6 rfl (by assumption : ABV S))) (by first | assumption | exact (DCM_FR hFT6 rfl (by assumption : DCM S))) (by first | assumption | exact (TXK_FR hFT6 rfl (by assumption : TXK S _))) (TV_FR hFT6 rfl (by rw [show v4 = Xi S 964 (i).toNat by omega]; exact (hp.2.1 (by omega)).1)) (fun _ => by rw [(hFT6.cx 952 rfl _).1, show v4 = Xi S 964 (i).toNat by omega]; exact (hp.2.1 (by omega)).2) _) ?_
  rintro _ T7 ⟨hHT7, w104, rfl, w101, t120, n120, w102⟩
  have hFT7 : FR md_mo_phraseMeant S T7 := FR.tr hFT6 w104 rfl
  show Rl _ _ _ _ _ [] _ _
  refine l_goto rfl rfl ?_
  refine l_return rfl rfl ?_
  have w105 : Xi T7 976 (p).toNat = Xi T6 976 (p).toNat := (show Xi T7 976 (p).toNat = Xi T6 976 (p).toNat from (w104.cx 976 rfl _).1)
  have w106 : Xi T7 977 (p).toNat = Xi T6 977 (p).toNat := (show Xi T7 977 (p).toNat = Xi T6 977 (p).toNat from (w104.cx 977 rfl _).1)
  have w107 : 0 ≤ Xi T7 904 106 ∧ Xi T7 904 106 ≤ 9 := hHT7.c _ _
  have w108 : Xi T7 904 115 = Xi T6 904 115 := (show Xi T7 904 115 = Xi T6 904 115 from w104.x _ _ rfl)
  have w110 : Xi T7 904 128 = Xi T6 904 128 := (show Xi T7 904 128 = Xi T6 904 128 from w104.x _ _ rfl)
  have w111 : 0 ≤ Xi T6 904 128 ∧ Xi T6 904 128 ≤ 11 := hHT6.c _ _
  have w112 : Xi T7 904 129 = Xi T6 904 129 := (show Xi T7 904 129 = Xi T6 904 129 from w104.x _ _ rfl)
  have w113 : -1 ≤ Xi T6 904 129 ∧ Xi T6 904 129 ≤ 23 := hHT6.c _ _
  have w114 : Xi T7 904 69 = Xi T6 904 69 := (show Xi T7 904 69 = Xi T6 904 69 from w104.x _ _ rfl)
  exact ⟨hHT7, hFT7, rfl, (by omega), (by first | exact (fun _ x0 => pq_i (q := (q).toNat) (w := 0) (pqt_0 (by omega)) (by omega) (by omega) (by omega)) o42 | exact (fun _ x0 => pq_i (q := (q).toNat) (w := 1) (pqt_1 ⟨(t120 (by omega)).mono (fun y => absurd y (by omega)) (fun y => by omega), (n120 (by omega) rfl).1, (n120 (by omega) rfl).2⟩) (by omega) (by omega) (by omega)) t120 | exact (fun _ x0 => pq_i (q := (q).toNat) (w := 2) (pqt_2 (thk_c (H210 (by omega)) (hFT7.x 904 19 rfl) (by omega)) (thk_c (th230 (by omega)) (hFT7.x 904 19 rfl) (by omega))) (by omega) (by omega) (by omega)) th230 | exact (fun _ x0 => pq_i (q := (q).toNat) (w := Xi T7 976 (p).toNat) (pqt_3 (by omega) (thk_c (th277 (by omega)) (hFT7.x 904 19 rfl) (by omega)) (by have a := hFT7.x 904 32 rfl; omega) (by rw [(hFT7.cx 928 rfl _).1, show Xi T7 972 (q).toNat = rnR S (Xi S 956 (Xi S 964 (i).toNat).toNat) 7 from by have t := p300 (by omega); omega]; have t := n312 (by omega); omega)) (by omega) (by omega) (by omega)) th277 | exact (fun _ x0 => pq_i (q := (q).toNat) (w := 5) (pqt_5 (by have a := hFT7.x 904 49 rfl; have t := (Z537 (by omega)).1; omega) (fun y => (by by_cases c : Xi S 953 (Xi S 964 (i).toNat).toNat = 0; exact Or.inl (by have t := (Z537 (by omega)).2.1 c (by omega); have a := hFT7.x 904 19 rfl; omega); exact thk_c (Y537 (by omega) c) (hFT7.x 904 19 rfl) (by omega))) (fun y => by rw [(hFT7.cx 942 rfl _).1, show Xi T7 972 (q).toNat = Xi T6 972 (q).toNat by omega]; exact (Z537 (by omega)).2.2 (by omega) (by omega))) (by omega) (by omega) (by omega)) Z537 | exact fun x => pq_i (q := (q).toNat) (w := 6) pqt_6 (by omega) (by omega) (by omega) | exact fun x => absurd x (by omega)), ((KQ.tr (by assumption : KQ T6 S _) (by assumption : KQ T7 T6 _))), ((KH_FR w104 rfl (by assumption : KH T6 _ _))), (by omega)⟩
set_option maxRecDepth 100000 in
set_option maxHeartbeats 16000000 in
theorem c210_mo_phraseMeant {S : sS} (hH : HI S) (n : Nat) (i : Int) (q : Int) (p : Int) (hi : 0 ≤ i ∧ i ≤ 1699) (hq : 0 ≤ q ∧ q ≤ 2399) (hp : 0 ≤ p ∧ p ≤ 1999) (hT : TK S n) (hv : RNV S n) (hM : LXM S) (hB : ABV S) (hC : DCM S) (hK : TXK S n) (hX : TXM S) (hit : Xi S 904 115 = -1) (hpv : PV S n i.toNat) (h64 : Xi S 964 i.toNat ≤ 1699) (d : Nat) : ∀  (T8 : sS) (_ : HI T8) (_ : FR md_mo_phraseMeant S T8) (v4 : Int), (0 ≤ v4 ∧ v4 ≤ 1699) → (KQ T8 S q) → (KH T8 S p) → (Xi T8 976 (p).toNat = 2) → (Xi T8 977 (p).toNat = q) → (Xi S 904 106 ≠ 0 → Xi T8 904 106 ≠ 0) → (Xi T8 904 69 = Xi S 904 69) → (Xi T8 904 115 = -1) → (v4 = Xi S 964 (i).toNat) → (Xi S 963 (i).toNat = 2) → (Xi T8 904 106 = 0 → thK S False (0 ≤ Xi S 904 116) (Xi T8 971 (q).toNat)) → Rl lay0 (d + 7) m_mo_phraseMeant 210 [(0, .ref 904), (2, iv q), (4, iv v4)] [] T8 (Q_mo_phraseMeant S n i q p) := by
  have hF : FR md_mo_phraseMeant S S := FR.rf
  have w1 : 0 ≤ Xi S 904 106 ∧ Xi S 904 106 ≤ 9 := hH.c _ _
  have w2 : -1 ≤ Xi S 904 115 ∧ Xi S 904 115 ≤ 15 := hH.c _ _
  have w3 : -1 ≤ Xi S 904 116 ∧ Xi S 904 116 ≤ 15 := hH.c _ _
  have w4 : 0 ≤ Xi S 904 128 ∧ Xi S 904 128 ≤ 11 := hH.c _ _
  have w5 : -1 ≤ Xi S 904 129 ∧ Xi S 904 129 ≤ 23 := hH.c _ _
  have w6 : 0 ≤ Xi S 904 19 ∧ Xi S 904 19 ≤ 24 := hH.c _ _
  have w7 : 0 ≤ Xi S 904 49 ∧ Xi S 904 49 ≤ 12 := hH.c _ _
  have w8 : 0 ≤ Xi S 904 69 ∧ Xi S 904 69 ≤ 2600 := hH.c _ _
  have hn5 := hT.1
  have hc69 : 0 ≤ Xi S 904 69 ∧ Xi S 904 69 ≤ 2600 := hH.c _ _
  have hc19 : 0 ≤ Xi S 904 19 ∧ Xi S 904 19 ≤ 24 := hH.c _ _
  have hc32 : 0 ≤ Xi S 904 32 ∧ Xi S 904 32 ≤ 12 := hH.c _ _
  have hc49 : 0 ≤ Xi S 904 49 ∧ Xi S 904 49 ≤ 12 := hH.c _ _
  have h963 : 0 ≤ Xi S 963 (i).toNat ∧ Xi S 963 (i).toNat ≤ 6 := hH.c 963 _
  have h964 : 0 ≤ Xi S 964 (i).toNat := (hH.c 964 (i).toNat).1
  have hp : PVt S n (Xi S 963 (i).toNat) (Xi S 964 (i).toNat).toNat := hpv
  have hrf : ∀ r : Int, 0 ≤ r → r < Xi S 904 69 → Xi S 950 r.toNat + Xi S 951 r.toNat ≤ n ∧ 1 ≤ Xi S 951 r.toNat := fun r a b => hv r.toNat (by omega)
  have h956 : 0 ≤ Xi S 956 (Xi S 964 (i).toNat).toNat := (hH.c 956 _).1
  intro T8 hHT8 hFT8 v4 w116 K210 P210 w117 w118 w119 w120 w121 w122 w123 H210
  have w124 : Xi T8 904 115 = Xi S 904 115 := hFT8.x _ _ rfl
  have w125 : Xi T8 904 116 = Xi S 904 116 := hFT8.x _ _ rfl
  have w126 : Xi T8 904 19 = Xi S 904 19 := hFT8.x _ _ rfl
  have w127 : Xi T8 904 32 = Xi S 904 32 := hFT8.x _ _ rfl
  have w128 : Xi T8 904 49 = Xi S 904 49 := hFT8.x _ _ rfl
  have w129 : Xi T8 904 69 = Xi S 904 69 := hFT8.x _ _ rfl
  have w130 : 0 ≤ Xi T8 904 106 ∧ Xi T8 904 106 ≤ 9 := hHT8.c _ _
  have w131 : -1 ≤ Xi T8 904 115 ∧ Xi T8 904 115 ≤ 15 := hHT8.c _ _
  have w132 : 0 ≤ Xi T8 904 69 ∧ Xi T8 904 69 ≤ 2600 := hHT8.c _ _
  refine l_aload_n rfl rfl ?_
  refine l_gfr rfl rfl rfl rfl rfl (hHT8.r 904 124 975 rfl) ?_
  refine l_iload_n rfl rfl ?_
  refine l_aload_n rfl rfl ?_
  refine l_aload_n rfl rfl ?_
  refine l_gfr rfl rfl rfl rfl rfl (hHT8.r 904 89 959 rfl) ?_
  refine l_iload rfl rfl ?_
  refine l_iaload (n := 1700) rfl rfl (by omega) (by omega) (by unfold rg; omega) ?_
  have w133 : 0 ≤ (Xi T8 959 ((v4).toNat)) ∧ (Xi T8 959 ((v4).toNat)) ≤ 25010 := hHT8.c _ _
  have e222 : (Xi T8 959 ((v4).toNat)) = Xi S 959 (Xi S 964 (i).toNat).toNat := by first | rfl | exact (hFT8.cx 959 rfl _).1 | exact (hFT8.cx 959 rfl _).1 | (rw [(hFT8.cx 959 rfl _).1]; exact congrArg (fun t : Int => Xi S 959 t.toNat) (by omega)) | (rw [(hFT8.cx 959 rfl _).1]; exact congrArg (fun t : Int => Xi S 959 t.toNat) (by omega)) | (rw [(hFT8.cx 959 rfl _).1]; exact congrArg (fun t : Int => Xi S 959 t.toNat) (by omega)) | (rw [(hFT8.cx 959 rfl _).1]; exact congrArg (fun t : Int => Xi S 959 t.toNat) (by omega))
  refine l_aload_n rfl rfl ?_
  refine l_gfr rfl rfl rfl rfl rfl (hHT8.r 904 90 960 rfl) ?_
  refine l_iload rfl rfl ?_
  refine l_iaload (n := 1700) rfl rfl (by omega) (by omega) (by unfold rg; omega) ?_
  have w134 : -1 ≤ (Xi T8 960 ((v4).toNat)) ∧ (Xi T8 960 ((v4).toNat)) ≤ 2600 := hHT8.c _ _
  have e229 : (Xi T8 960 ((v4).toNat)) = Xi S 960 (Xi S 964 (i).toNat).toNat := by first | rfl | exact (hFT8.cx 960 rfl _).1 | exact (hFT8.cx 960 rfl _).1 | (rw [(hFT8.cx 960 rfl _).1]; exact congrArg (fun t : Int => Xi S 960 t.toNat) (by omega)) | (rw [(hFT8.cx 960 rfl _).1]; exact congrArg (fun t : Int => Xi S 960 t.toNat) (by omega)) | (rw [(hFT8.cx 960 rfl _).1]; exact congrArg (fun t : Int => Xi S 960 t.toNat) (by omega)) | (rw [(hFT8.cx 960 rfl _).1]; exact congrArg (fun t : Int => Xi S 960 t.toNat) (by omega))
  have q229 := q_thv (hp.2.2.2.1 (by omega)) e222 e229 (hFT8.x 904 69 rfl) hn5
  have w137 : 0 ≤ Xi T8 904 128 ∧ Xi T8 904 128 ≤ 11 := hHT8.c _ _
  have w138 : -1 ≤ Xi T8 904 129 ∧ Xi T8 904 129 ≤ 23 := hHT8.c _ _
  have w139 : 0 ≤ Xi T8 904 19 ∧ Xi T8 904 19 ≤ 24 := hHT8.c _ _
  refine l_callV rfl rfl rfl (t_mo_meant hHT8 n (Xi T8 959 ((v4).toNat)) (Xi T8 960 ((v4).toNat)) ⟨by omega, by omega⟩ ⟨by omega, by omega⟩ (by first | assumption | exact (TK_FR hFT8 rfl (by assumption : TK S _))) (by first | assumption | exact (RNV_FR hFT8 rfl (by assumption : RNV S _))) (by first | exact q436.1 | exact q276.1 | exact q229.1 | exact q155.1) (by first | exact q436.2 | exact q276.2 | exact q229.2 | exact q155.2) (by first | assumption | exact (LXM_FR hFT8 rfl (by assumption : LXM S))) _) ?_
  rintro _ T9 ⟨hHT9, w144, z143, rfl, w143, p230, i230, j230, w141, w142⟩
  have hFT9 : FR md_mo_phraseMeant S T9 := FR.tr hFT8 w144 rfl
  show Rl _ _ _ _ _ [iv z143, iv q, .ref 975] _ _
  have th230 : z143 ≠ -9 → thK S False (0 ≤ Xi S 904 116) z143 := fun x => by unfold thK; have a := hFT8.x 904 19 rfl; have b := hFT9.x 904 115 rfl; have c := hFT9.x 904 116 rfl; omega
  have m230 : z143 ≠ -9 → -2 ≤ z143 := by omega
  clear p230 i230 j230
  refine l_iastore (n := 2400) rfl rfl (by omega) (by omega) (by unfold rg; omega) ?_
  obtain ⟨U10, eU10⟩ : ∃ T : sS, T = uI T9 975 ((q).toNat) (Int32.ofInt z143) := ⟨_, rfl⟩
  rw [← eU10]
  have hHU10 : HI U10 := by rw [eU10]; exact HI_w hHT9 (show -9 ≤ z143 by omega) (show z143 ≤ 23 by omega)
  have hFU10 : FR md_mo_phraseMeant S U10 := by rw [eU10]; exact FR.wI hFT9 (mdf_i (r := (975, 976, 0, 100000)) (List.mem_of_getElem? (i := 18) rfl) (inR_i (by omega) (by omega) (by omega) (by omega)))
  have w145 : Xi U10 975 ((q).toNat) = z143 := by rw [eU10]; exact Xi_same (by unfold rg; omega)
  refine l_goto rfl rfl ?_
  refine l_return rfl rfl ?_
  have w146 : Xi U10 970 (q).toNat = Xi T8 970 (q).toNat := (show Xi U10 970 (q).toNat = Xi T9 970 (q).toNat from by rw [eU10]; exact Xi_ne (by omega)).trans ((show Xi T9 970 (q).toNat = Xi T8 970 (q).toNat from (w144.cx 970 rfl _).1))
  have w147 : Xi U10 971 (q).toNat = Xi T8 971 (q).toNat := (show Xi U10 971 (q).toNat = Xi T9 971 (q).toNat from by rw [eU10]; exact Xi_ne (by omega)).trans ((show Xi T9 971 (q).toNat = Xi T8 971 (q).toNat from (w144.cx 971 rfl _).1))
  have w148 : Xi U10 972 (q).toNat = Xi T8 972 (q).toNat := (show Xi U10 972 (q).toNat = Xi T9 972 (q).toNat from by rw [eU10]; exact Xi_ne (by omega)).trans ((show Xi T9 972 (q).toNat = Xi T8 972 (q).toNat from (w144.cx 972 rfl _).1))
  have w149 : Xi U10 973 (q).toNat = Xi T8 973 (q).toNat := (show Xi U10 973 (q).toNat = Xi T9 973 (q).toNat from by rw [eU10]; exact Xi_ne (by omega)).trans ((show Xi T9 973 (q).toNat = Xi T8 973 (q).toNat from (w144.cx 973 rfl _).1))
  have w150 : Xi U10 974 (q).toNat = Xi T8 974 (q).toNat := (show Xi U10 974 (q).toNat = Xi T9 974 (q).toNat from by rw [eU10]; exact Xi_ne (by omega)).trans ((show Xi T9 974 (q).toNat = Xi T8 974 (q).toNat from (w144.cx 974 rfl _).1))
  have w151 : Xi U10 976 (p).toNat = Xi T8 976 (p).toNat := (show Xi U10 976 (p).toNat = Xi T9 976 (p).toNat from by rw [eU10]; exact Xi_ne (by omega)).trans ((show Xi T9 976 (p).toNat = Xi T8 976 (p).toNat from (w144.cx 976 rfl _).1))
  have w152 : Xi U10 977 (p).toNat = Xi T8 977 (p).toNat := (show Xi U10 977 (p).toNat = Xi T9 977 (p).toNat from by rw [eU10]; exact Xi_ne (by omega)).trans ((show Xi T9 977 (p).toNat = Xi T8 977 (p).toNat from (w144.cx 977 rfl _).1))
  have w153 : Xi U10 904 106 = Xi T9 904 106 := (show Xi U10 904 106 = Xi T9 904 106 from by rw [eU10]; exact Xi_ne (by omega))
  have w154 : 0 ≤ Xi T9 904 106 ∧ Xi T9 904 106 ≤ 9 := hHT9.c _ _
  have w155 : Xi U10 904 115 = Xi T8 904 115 := (show Xi U10 904 115 = Xi T9 904 115 from by rw [eU10]; exact Xi_ne (by omega)).trans ((show Xi T9 904 115 = Xi T8 904 115 from w144.x _ _ rfl))
  have w157 : Xi U10 904 128 = Xi T8 904 128 := (show Xi U10 904 128 = Xi T9 904 128 from by rw [eU10]; exact Xi_ne (by omega)).trans ((show Xi T9 904 128 = Xi T8 904 128 from w144.x _ _ rfl))
  have w159 : Xi U10 904 129 = Xi T8 904 129 := (show Xi U10 904 129 = Xi T9 904 129 from by rw [eU10]; exact Xi_ne (by omega)).trans ((show Xi T9 904 129 = Xi T8 904 129 from w144.x _ _ rfl))
  have w161 : Xi U10 904 69 = Xi T8 904 69 := (show Xi U10 904 69 = Xi T9 904 69 from by rw [eU10]; exact Xi_ne (by omega)).trans ((show Xi T9 904 69 = Xi T8 904 69 from w144.x _ _ rfl))
  exact ⟨hHU10, hFU10, rfl, (by omega), (by first | exact (fun _ x0 => pq_i (q := (q).toNat) (w := 0) (pqt_0 (by omega)) (by omega) (by omega) (by omega)) o42 | exact (fun _ x0 => pq_i (q := (q).toNat) (w := 1) (pqt_1 ⟨(t120 (by omega)).mono (fun y => absurd y (by omega)) (fun y => by omega), (n120 (by omega) rfl).1, (n120 (by omega) rfl).2⟩) (by omega) (by omega) (by omega)) t120 | exact (fun _ x0 => pq_i (q := (q).toNat) (w := 2) (pqt_2 (thk_c (H210 (by omega)) (hFU10.x 904 19 rfl) (by omega)) (thk_c (th230 (by omega)) (hFU10.x 904 19 rfl) (by omega))) (by omega) (by omega) (by omega)) th230 | exact (fun _ x0 => pq_i (q := (q).toNat) (w := Xi U10 976 (p).toNat) (pqt_3 (by omega) (thk_c (th277 (by omega)) (hFU10.x 904 19 rfl) (by omega)) (by have a := hFU10.x 904 32 rfl; omega) (by rw [(hFU10.cx 928 rfl _).1, show Xi U10 972 (q).toNat = rnR S (Xi S 956 (Xi S 964 (i).toNat).toNat) 7 from by have t := p300 (by omega); omega]; have t := n312 (by omega); omega)) (by omega) (by omega) (by omega)) th277 | exact (fun _ x0 => pq_i (q := (q).toNat) (w := 5) (pqt_5 (by have a := hFU10.x 904 49 rfl; have t := (Z537 (by omega)).1; omega) (fun y => (by by_cases c : Xi S 953 (Xi S 964 (i).toNat).toNat = 0; exact Or.inl (by have t := (Z537 (by omega)).2.1 c (by omega); have a := hFU10.x 904 19 rfl; omega); exact thk_c (Y537 (by omega) c) (hFU10.x 904 19 rfl) (by omega))) (fun y => by rw [(hFU10.cx 942 rfl _).1, show Xi U10 972 (q).toNat = Xi T8 972 (q).toNat by omega]; exact (Z537 (by omega)).2.2 (by omega) (by omega))) (by omega) (by omega) (by omega)) Z537 | exact fun x => pq_i (q := (q).toNat) (w := 6) pqt_6 (by omega) (by omega) (by omega) | exact fun x => absurd x (by omega)), ((KQ.w (KQ_FR w144 rfl (by assumption : KQ T8 S _)) eU10 (by omega))), ((KH_FR (FR_e eU10) rfl (KH_FR w144 rfl (by assumption : KH T8 _ _)))), (by omega)⟩
set_option maxRecDepth 100000 in
set_option maxHeartbeats 16000000 in
theorem c136_mo_phraseMeant {S : sS} (hH : HI S) (n : Nat) (i : Int) (q : Int) (p : Int) (hi : 0 ≤ i ∧ i ≤ 1699) (hq : 0 ≤ q ∧ q ≤ 2399) (hp : 0 ≤ p ∧ p ≤ 1999) (hT : TK S n) (hv : RNV S n) (hM : LXM S) (hB : ABV S) (hC : DCM S) (hK : TXK S n) (hX : TXM S) (hit : Xi S 904 115 = -1) (hpv : PV S n i.toNat) (h64 : Xi S 964 i.toNat ≤ 1699) (d : Nat) : ∀  (T11 : sS) (_ : HI T11) (_ : FR md_mo_phraseMeant S T11) (v4 : Int), (0 ≤ v4 ∧ v4 ≤ 1700) → (KQ T11 S q) → (KH T11 S p) → (Xi T11 976 (p).toNat = 2) → (Xi T11 977 (p).toNat = q) → (Xi S 904 106 ≠ 0 → Xi T11 904 106 ≠ 0) → (Xi T11 904 69 = Xi S 904 69) → (Xi T11 904 115 = -1) → (v4 = Xi S 964 (i).toNat) → (Xi S 963 (i).toNat = 2) → Rl lay0 (d + 7) m_mo_phraseMeant 136 [(0, .ref 904), (2, iv q), (4, iv v4)] [] T11 (Q_mo_phraseMeant S n i q p) := by
  have C210 := c210_mo_phraseMeant hH n i q p hi hq hp hT hv hM hB hC hK hX hit hpv h64 d 
  have hF : FR md_mo_phraseMeant S S := FR.rf
  have w1 : 0 ≤ Xi S 904 106 ∧ Xi S 904 106 ≤ 9 := hH.c _ _
  have w2 : -1 ≤ Xi S 904 115 ∧ Xi S 904 115 ≤ 15 := hH.c _ _
  have w3 : -1 ≤ Xi S 904 116 ∧ Xi S 904 116 ≤ 15 := hH.c _ _
  have w4 : 0 ≤ Xi S 904 128 ∧ Xi S 904 128 ≤ 11 := hH.c _ _
  have w5 : -1 ≤ Xi S 904 129 ∧ Xi S 904 129 ≤ 23 := hH.c _ _
  have w6 : 0 ≤ Xi S 904 19 ∧ Xi S 904 19 ≤ 24 := hH.c _ _
  have w7 : 0 ≤ Xi S 904 49 ∧ Xi S 904 49 ≤ 12 := hH.c _ _
  have w8 : 0 ≤ Xi S 904 69 ∧ Xi S 904 69 ≤ 2600 := hH.c _ _
  have hn5 := hT.1
  have hc69 : 0 ≤ Xi S 904 69 ∧ Xi S 904 69 ≤ 2600 := hH.c _ _
  have hc19 : 0 ≤ Xi S 904 19 ∧ Xi S 904 19 ≤ 24 := hH.c _ _
  have hc32 : 0 ≤ Xi S 904 32 ∧ Xi S 904 32 ≤ 12 := hH.c _ _
  have hc49 : 0 ≤ Xi S 904 49 ∧ Xi S 904 49 ≤ 12 := hH.c _ _
  have h963 : 0 ≤ Xi S 963 (i).toNat ∧ Xi S 963 (i).toNat ≤ 6 := hH.c 963 _
  have h964 : 0 ≤ Xi S 964 (i).toNat := (hH.c 964 (i).toNat).1
  have hp : PVt S n (Xi S 963 (i).toNat) (Xi S 964 (i).toNat).toNat := hpv
  have hrf : ∀ r : Int, 0 ≤ r → r < Xi S 904 69 → Xi S 950 r.toNat + Xi S 951 r.toNat ≤ n ∧ 1 ≤ Xi S 951 r.toNat := fun r a b => hv r.toNat (by omega)
  have h956 : 0 ≤ Xi S 956 (Xi S 964 (i).toNat).toNat := (hH.c 956 _).1
  intro T11 hHT11 hFT11 v4 w163 K136 P136 w164 w165 w166 w167 w168 w169 w170
  have w171 : Xi T11 904 115 = Xi S 904 115 := hFT11.x _ _ rfl
  have w172 : Xi T11 904 116 = Xi S 904 116 := hFT11.x _ _ rfl
  have w173 : Xi T11 904 19 = Xi S 904 19 := hFT11.x _ _ rfl
  have w174 : Xi T11 904 32 = Xi S 904 32 := hFT11.x _ _ rfl
  have w175 : Xi T11 904 49 = Xi S 904 49 := hFT11.x _ _ rfl
  have w176 : Xi T11 904 69 = Xi S 904 69 := hFT11.x _ _ rfl
  have w177 : 0 ≤ Xi T11 904 106 ∧ Xi T11 904 106 ≤ 9 := hHT11.c _ _
  have w178 : -1 ≤ Xi T11 904 115 ∧ Xi T11 904 115 ≤ 15 := hHT11.c _ _
  have w179 : 0 ≤ Xi T11 904 69 ∧ Xi T11 904 69 ≤ 2600 := hHT11.c _ _
  refine l_aload_n rfl rfl ?_
  refine l_gfr rfl rfl rfl rfl rfl (hHT11.r 904 120 971 rfl) ?_
  refine l_iload_n rfl rfl ?_
  refine l_aload_n rfl rfl ?_
  refine l_aload_n rfl rfl ?_
  refine l_gfr rfl rfl rfl rfl rfl (hHT11.r 904 84 954 rfl) ?_
  refine l_iload rfl rfl ?_
  refine l_iaload (n := 1700) rfl rfl (by omega) (by omega) (by unfold rg; omega) ?_
  have w180 : 0 ≤ (Xi T11 954 ((v4).toNat)) ∧ (Xi T11 954 ((v4).toNat)) ≤ 25010 := hHT11.c _ _
  have e148 : (Xi T11 954 ((v4).toNat)) = Xi S 954 (Xi S 964 (i).toNat).toNat := by first | rfl | exact (hFT11.cx 954 rfl _).1 | exact (hFT11.cx 954 rfl _).1 | (rw [(hFT11.cx 954 rfl _).1]; exact congrArg (fun t : Int => Xi S 954 t.toNat) (by omega)) | (rw [(hFT11.cx 954 rfl _).1]; exact congrArg (fun t : Int => Xi S 954 t.toNat) (by omega)) | (rw [(hFT11.cx 954 rfl _).1]; exact congrArg (fun t : Int => Xi S 954 t.toNat) (by omega)) | (rw [(hFT11.cx 954 rfl _).1]; exact congrArg (fun t : Int => Xi S 954 t.toNat) (by omega))
  refine l_aload_n rfl rfl ?_
  refine l_gfr rfl rfl rfl rfl rfl (hHT11.r 904 85 955 rfl) ?_
  refine l_iload rfl rfl ?_
  refine l_iaload (n := 1700) rfl rfl (by omega) (by omega) (by unfold rg; omega) ?_
  have w181 : 0 ≤ (Xi T11 955 ((v4).toNat)) ∧ (Xi T11 955 ((v4).toNat)) ≤ 2600 := hHT11.c _ _
  have e155 : (Xi T11 955 ((v4).toNat)) = Xi S 955 (Xi S 964 (i).toNat).toNat := by first | rfl | exact (hFT11.cx 955 rfl _).1 | exact (hFT11.cx 955 rfl _).1 | (rw [(hFT11.cx 955 rfl _).1]; exact congrArg (fun t : Int => Xi S 955 t.toNat) (by omega)) | (rw [(hFT11.cx 955 rfl _).1]; exact congrArg (fun t : Int => Xi S 955 t.toNat) (by omega)) | (rw [(hFT11.cx 955 rfl _).1]; exact congrArg (fun t : Int => Xi S 955 t.toNat) (by omega)) | (rw [(hFT11.cx 955 rfl _).1]; exact congrArg (fun t : Int => Xi S 955 t.toNat) (by omega))
  have q155 := q_thv (hp.2.2.1 (by omega)) e148 e155 (hFT11.x 904 69 rfl) hn5
  have w184 : 0 ≤ Xi T11 904 128 ∧ Xi T11 904 128 ≤ 11 := hHT11.c _ _
  have w185 : -1 ≤ Xi T11 904 129 ∧ Xi T11 904 129 ≤ 23 := hHT11.c _ _
  have w186 : 0 ≤ Xi T11 904 19 ∧ Xi T11 904 19 ≤ 24 := hHT11.c _ _
  refine l_callV rfl rfl rfl (t_mo_meant hHT11 n (Xi T11 954 ((v4).toNat)) (Xi T11 955 ((v4).toNat)) ⟨by omega, by omega⟩ ⟨by omega, by omega⟩ (by first | assumption | exact (TK_FR hFT11 rfl (by assumption : TK S _))) (by first | assumption | exact (RNV_FR hFT11 rfl (by assumption : RNV S _))) (by first | exact q436.1 | exact q276.1 | exact q229.1 | exact q155.1) (by first | exact q436.2 | exact q276.2 | exact q229.2 | exact q155.2) (by first | assumption | exact (LXM_FR hFT11 rfl (by assumption : LXM S))) _) ?_
  rintro _ T12 ⟨hHT12, w191, z190, rfl, w190, p156, i156, j156, w188, w189⟩
  have hFT12 : FR md_mo_phraseMeant S T12 := FR.tr hFT11 w191 rfl
  show Rl _ _ _ _ _ [iv z190, iv q, .ref 971] _ _
  have th156 : z190 ≠ -9 → thK S False (0 ≤ Xi S 904 116) z190 := fun x => by unfold thK; have a := hFT11.x 904 19 rfl; have b := hFT12.x 904 115 rfl; have c := hFT12.x 904 116 rfl; omega
  have m156 : z190 ≠ -9 → -2 ≤ z190 := by omega
  clear p156 i156 j156
  refine l_iastore (n := 2400) rfl rfl (by omega) (by omega) (by unfold rg; omega) ?_
  obtain ⟨U13, eU13⟩ : ∃ T : sS, T = uI T12 971 ((q).toNat) (Int32.ofInt z190) := ⟨_, rfl⟩
  rw [← eU13]
  have hHU13 : HI U13 := by rw [eU13]; exact HI_w hHT12 (show -9 ≤ z190 by omega) (show z190 ≤ 23 by omega)
  have hFU13 : FR md_mo_phraseMeant S U13 := by rw [eU13]; exact FR.wI hFT12 (mdf_i (r := (971, 972, 0, 100000)) (List.mem_of_getElem? (i := 14) rfl) (inR_i (by omega) (by omega) (by omega) (by omega)))
  have w192 : Xi U13 971 ((q).toNat) = z190 := by rw [eU13]; exact Xi_same (by unfold rg; omega)
  refine l_aload_n rfl rfl ?_
  refine l_aload_n rfl rfl ?_
  refine l_gfr rfl rfl rfl rfl rfl (hHU13.r 904 120 971 rfl) ?_
  refine l_iload_n rfl rfl ?_
  refine l_iaload (n := 2400) rfl rfl (by omega) (by omega) (by unfold rg; omega) ?_
  refine l_bipush rfl rfl ?_
  refine l_icmp_eq rfl rfl (by unfold rg; omega) (by unfold rg; omega) (fun w193 => ?_) (fun w194 => ?_)
  · refine l_iconst rfl ?_
    refine l_goto rfl rfl ?_
    refine l_iconst rfl ?_
    refine l_aload_n rfl rfl ?_
    refine l_gfr rfl rfl rfl rfl rfl (hHU13.r 904 84 954 rfl) ?_
    refine l_iload rfl rfl ?_
    refine l_iaload (n := 1700) rfl rfl (by omega) (by omega) (by unfold rg; omega) ?_
    have w195 : (Xi U13 954 ((v4).toNat)) = (Xi T11 954 ((v4).toNat)) := (show Xi U13 954 ((v4).toNat) = Xi T12 954 ((v4).toNat) from by rw [eU13]; exact Xi_ne (by omega)).trans ((show Xi T12 954 ((v4).toNat) = Xi T11 954 ((v4).toNat) from w191.x _ _ rfl))
    rw [w195]
    have e202 : (Xi T11 954 ((v4).toNat)) = Xi S 954 (Xi S 964 (i).toNat).toNat := by first | rfl | exact (hFT11.cx 954 rfl _).1 | exact (hFU13.cx 954 rfl _).1 | (rw [(hFT11.cx 954 rfl _).1]; exact congrArg (fun t : Int => Xi S 954 t.toNat) (by omega)) | (rw [(hFU13.cx 954 rfl _).1]; exact congrArg (fun t : Int => Xi S 954 t.toNat) (by omega)) | (rw [(hFT12.cx 954 rfl _).1]; exact congrArg (fun t : Int => Xi S 954 t.toNat) (by omega)) | (rw [(hFT11.cx 954 rfl _).1]; exact congrArg (fun t : Int => Xi S 954 t.toNat) (by omega))
    refine l_sipush rfl rfl ?_
    refine l_iremP rfl (by omega) (by omega) (by unfold rg; omega) (by unfold rg; omega) ?_
    have w197 : Xi U13 904 106 = Xi T12 904 106 := (show Xi U13 904 106 = Xi T12 904 106 from by rw [eU13]; exact Xi_ne (by omega))
    have w198 : 0 ≤ Xi T12 904 106 ∧ Xi T12 904 106 ≤ 9 := hHT12.c _ _
    refine l_callV rfl rfl rfl (t_mo_need hHU13 1 4 ((Xi T11 954 ((v4).toNat)) % 10000) ⟨by omega, by omega⟩ ⟨by omega, by omega⟩ ⟨by omega, by omega⟩ _) ?_
    rintro _ T14 ⟨hHT14, w210, rfl, w207, w208⟩
    have hFT14 : FR md_mo_phraseMeant S T14 := FR.tr hFU13 w210 rfl
    show Rl _ _ _ _ _ [] _ _
    have w211 : Xi T14 970 (q).toNat = Xi T11 970 (q).toNat := (show Xi T14 970 (q).toNat = Xi U13 970 (q).toNat from (w210.cx 970 rfl _).1).trans ( (show Xi U13 970 (q).toNat = Xi T12 970 (q).toNat from by rw [eU13]; exact Xi_ne (by omega)).trans ((show Xi T12 970 (q).toNat = Xi T11 970 (q).toNat from (w191.cx 970 rfl _).1)))
    have w212 : Xi T14 971 (q).toNat = Xi U13 971 (q).toNat := (show Xi T14 971 (q).toNat = Xi U13 971 (q).toNat from (w210.cx 971 rfl _).1)
    have w213 : Xi T14 972 (q).toNat = Xi T11 972 (q).toNat := (show Xi T14 972 (q).toNat = Xi U13 972 (q).toNat from (w210.cx 972 rfl _).1).trans ( (show Xi U13 972 (q).toNat = Xi T12 972 (q).toNat from by rw [eU13]; exact Xi_ne (by omega)).trans ((show Xi T12 972 (q).toNat = Xi T11 972 (q).toNat from (w191.cx 972 rfl _).1)))
    have w214 : Xi T14 973 (q).toNat = Xi T11 973 (q).toNat := (show Xi T14 973 (q).toNat = Xi U13 973 (q).toNat from (w210.cx 973 rfl _).1).trans ( (show Xi U13 973 (q).toNat = Xi T12 973 (q).toNat from by rw [eU13]; exact Xi_ne (by omega)).trans ((show Xi T12 973 (q).toNat = Xi T11 973 (q).toNat from (w191.cx 973 rfl _).1)))
    have w215 : Xi T14 974 (q).toNat = Xi T11 974 (q).toNat := (show Xi T14 974 (q).toNat = Xi U13 974 (q).toNat from (w210.cx 974 rfl _).1).trans ( (show Xi U13 974 (q).toNat = Xi T12 974 (q).toNat from by rw [eU13]; exact Xi_ne (by omega)).trans ((show Xi T12 974 (q).toNat = Xi T11 974 (q).toNat from (w191.cx 974 rfl _).1)))
    have w216 : Xi T14 975 (q).toNat = Xi T11 975 (q).toNat := (show Xi T14 975 (q).toNat = Xi U13 975 (q).toNat from (w210.cx 975 rfl _).1).trans ( (show Xi U13 975 (q).toNat = Xi T12 975 (q).toNat from by rw [eU13]; exact Xi_ne (by omega)).trans ((show Xi T12 975 (q).toNat = Xi T11 975 (q).toNat from (w191.cx 975 rfl _).1)))
    have w217 : Xi T14 976 (p).toNat = Xi T11 976 (p).toNat := (show Xi T14 976 (p).toNat = Xi U13 976 (p).toNat from (w210.cx 976 rfl _).1).trans ( (show Xi U13 976 (p).toNat = Xi T12 976 (p).toNat from by rw [eU13]; exact Xi_ne (by omega)).trans ((show Xi T12 976 (p).toNat = Xi T11 976 (p).toNat from (w191.cx 976 rfl _).1)))
    have w218 : Xi T14 977 (p).toNat = Xi T11 977 (p).toNat := (show Xi T14 977 (p).toNat = Xi U13 977 (p).toNat from (w210.cx 977 rfl _).1).trans ( (show Xi U13 977 (p).toNat = Xi T12 977 (p).toNat from by rw [eU13]; exact Xi_ne (by omega)).trans ((show Xi T12 977 (p).toNat = Xi T11 977 (p).toNat from (w191.cx 977 rfl _).1)))
    have w219 : 0 ≤ Xi T14 904 106 ∧ Xi T14 904 106 ≤ 9 := hHT14.c _ _
    have w220 : Xi T14 904 115 = Xi T11 904 115 := (show Xi T14 904 115 = Xi U13 904 115 from w210.x _ _ rfl).trans ( (show Xi U13 904 115 = Xi T12 904 115 from by rw [eU13]; exact Xi_ne (by omega)).trans ((show Xi T12 904 115 = Xi T11 904 115 from w191.x _ _ rfl)))
    have w222 : Xi T14 904 128 = Xi T11 904 128 := (show Xi T14 904 128 = Xi U13 904 128 from w210.x _ _ rfl).trans ( (show Xi U13 904 128 = Xi T12 904 128 from by rw [eU13]; exact Xi_ne (by omega)).trans ((show Xi T12 904 128 = Xi T11 904 128 from w191.x _ _ rfl)))
    have w224 : Xi T14 904 129 = Xi T11 904 129 := (show Xi T14 904 129 = Xi U13 904 129 from w210.x _ _ rfl).trans ( (show Xi U13 904 129 = Xi T12 904 129 from by rw [eU13]; exact Xi_ne (by omega)).trans ((show Xi T12 904 129 = Xi T11 904 129 from w191.x _ _ rfl)))
    have w226 : Xi T14 904 69 = Xi T11 904 69 := (show Xi T14 904 69 = Xi U13 904 69 from w210.x _ _ rfl).trans ( (show Xi U13 904 69 = Xi T12 904 69 from by rw [eU13]; exact Xi_ne (by omega)).trans ((show Xi T12 904 69 = Xi T11 904 69 from w191.x _ _ rfl)))
    exact Rl_weak (C210 T14 hHT14 hFT14 (v4) (by omega) ((KQ_FR w210 rfl (KQ.w (KQ_FR w191 rfl (by assumption : KQ T11 S _)) eU13 (by omega)))) ((KH_FR w210 rfl (KH_FR (FR_e eU13) rfl (KH_FR w191 rfl (by assumption : KH T11 _ _))))) (by omega) (by omega) (by omega) (by omega) (by omega) (by omega) (by omega) (fun x => thk_c (th156 (by omega)) rfl (by omega))) (And.intro rfl (And.intro rfl (And.intro rfl (True.intro))))
  · refine l_aload_n rfl rfl ?_
    refine l_aload_n rfl rfl ?_
    refine l_aload_n rfl rfl ?_
    refine l_gfr rfl rfl rfl rfl rfl (hHU13.r 904 120 971 rfl) ?_
    refine l_iload_n rfl rfl ?_
    refine l_iaload (n := 2400) rfl rfl (by omega) (by omega) (by unfold rg; omega) ?_
    refine l_callV rfl rfl rfl (t_mo_kindOfThing hHU13 (Xi U13 971 ((q).toNat)) ⟨by omega, by omega⟩ (by first | assumption | omega) _) ?_
    rintro _ _ ⟨rfl, z238, rfl, w238⟩
    show Rl _ _ _ _ _ [iv z238, .ref 904, .ref 904] _ _
    refine l_iconst rfl ?_
    refine l_callV rfl rfl rfl (t_mo_isBelow hHU13 z238 0 ⟨by omega, by omega⟩ ⟨by omega, by omega⟩ (by first | assumption | exact (ABV_FR hFU13 rfl (by assumption : ABV S))) _) ?_
    rintro _ _ ⟨rfl, z250, rfl, w250, w249⟩
    show Rl _ _ _ _ _ [iv z250, .ref 904] _ _
    refine l_if_eq rfl rfl (by unfold rg; omega) (fun w251 => ?_) (fun w252 => ?_)
    · refine l_iconst rfl ?_
      refine l_iconst rfl ?_
      refine l_aload_n rfl rfl ?_
      refine l_gfr rfl rfl rfl rfl rfl (hHU13.r 904 84 954 rfl) ?_
      refine l_iload rfl rfl ?_
      refine l_iaload (n := 1700) rfl rfl (by omega) (by omega) (by unfold rg; omega) ?_
      have w253 : (Xi U13 954 ((v4).toNat)) = (Xi T11 954 ((v4).toNat)) := (show Xi U13 954 ((v4).toNat) = Xi T12 954 ((v4).toNat) from by rw [eU13]; exact Xi_ne (by omega)).trans ((show Xi T12 954 ((v4).toNat) = Xi T11 954 ((v4).toNat) from w191.x _ _ rfl))
      rw [w253]
      have e202 : (Xi T11 954 ((v4).toNat)) = Xi S 954 (Xi S 964 (i).toNat).toNat := by first | rfl | exact (hFT11.cx 954 rfl _).1 | exact (hFU13.cx 954 rfl _).1 | (rw [(hFT11.cx 954 rfl _).1]; exact congrArg (fun t : Int => Xi S 954 t.toNat) (by omega)) | (rw [(hFU13.cx 954 rfl _).1]; exact congrArg (fun t : Int => Xi S 954 t.toNat) (by omega)) | (rw [(hFT12.cx 954 rfl _).1]; exact congrArg (fun t : Int => Xi S 954 t.toNat) (by omega)) | (rw [(hFT11.cx 954 rfl _).1]; exact congrArg (fun t : Int => Xi S 954 t.toNat) (by omega))
      refine l_sipush rfl rfl ?_
      refine l_iremP rfl (by omega) (by omega) (by unfold rg; omega) (by unfold rg; omega) ?_
      have w255 : Xi U13 904 106 = Xi T12 904 106 := (show Xi U13 904 106 = Xi T12 904 106 from by rw [eU13]; exact Xi_ne (by omega))
      have w256 : 0 ≤ Xi T12 904 106 ∧ Xi T12 904 106 ≤ 9 := hHT12.c _ _
      refine l_callV rfl rfl rfl (t_mo_need hHU13 0 4 ((Xi T11 954 ((v4).toNat)) % 10000) ⟨by omega, by omega⟩ ⟨by omega, by omega⟩ ⟨by omega, by omega⟩ _) ?_
      rintro _ T15 ⟨hHT15, w268, rfl, w265, w266⟩
      have hFT15 : FR md_mo_phraseMeant S T15 := FR.tr hFU13 w268 rfl
      show Rl _ _ _ _ _ [] _ _
      have w269 : Xi T15 970 (q).toNat = Xi T11 970 (q).toNat := (show Xi T15 970 (q).toNat = Xi U13 970 (q).toNat from (w268.cx 970 rfl _).1).trans ( (show Xi U13 970 (q).toNat = Xi T12 970 (q).toNat from by rw [eU13]; exact Xi_ne (by omega)).trans ((show Xi T12 970 (q).toNat = Xi T11 970 (q).toNat from (w191.cx 970 rfl _).1)))
      have w270 : Xi T15 971 (q).toNat = Xi U13 971 (q).toNat := (show Xi T15 971 (q).toNat = Xi U13 971 (q).toNat from (w268.cx 971 rfl _).1)
      have w271 : Xi T15 972 (q).toNat = Xi T11 972 (q).toNat := (show Xi T15 972 (q).toNat = Xi U13 972 (q).toNat from (w268.cx 972 rfl _).1).trans ( (show Xi U13 972 (q).toNat = Xi T12 972 (q).toNat from by rw [eU13]; exact Xi_ne (by omega)).trans ((show Xi T12 972 (q).toNat = Xi T11 972 (q).toNat from (w191.cx 972 rfl _).1)))
      have w272 : Xi T15 973 (q).toNat = Xi T11 973 (q).toNat := (show Xi T15 973 (q).toNat = Xi U13 973 (q).toNat from (w268.cx 973 rfl _).1).trans ( (show Xi U13 973 (q).toNat = Xi T12 973 (q).toNat from by rw [eU13]; exact Xi_ne (by omega)).trans ((show Xi T12 973 (q).toNat = Xi T11 973 (q).toNat from (w191.cx 973 rfl _).1)))
      have w273 : Xi T15 974 (q).toNat = Xi T11 974 (q).toNat := (show Xi T15 974 (q).toNat = Xi U13 974 (q).toNat from (w268.cx 974 rfl _).1).trans ( (show Xi U13 974 (q).toNat = Xi T12 974 (q).toNat from by rw [eU13]; exact Xi_ne (by omega)).trans ((show Xi T12 974 (q).toNat = Xi T11 974 (q).toNat from (w191.cx 974 rfl _).1)))
      have w274 : Xi T15 975 (q).toNat = Xi T11 975 (q).toNat := (show Xi T15 975 (q).toNat = Xi U13 975 (q).toNat from (w268.cx 975 rfl _).1).trans ( (show Xi U13 975 (q).toNat = Xi T12 975 (q).toNat from by rw [eU13]; exact Xi_ne (by omega)).trans ((show Xi T12 975 (q).toNat = Xi T11 975 (q).toNat from (w191.cx 975 rfl _).1)))
      have w275 : Xi T15 976 (p).toNat = Xi T11 976 (p).toNat := (show Xi T15 976 (p).toNat = Xi U13 976 (p).toNat from (w268.cx 976 rfl _).1).trans ( (show Xi U13 976 (p).toNat = Xi T12 976 (p).toNat from by rw [eU13]; exact Xi_ne (by omega)).trans ((show Xi T12 976 (p).toNat = Xi T11 976 (p).toNat from (w191.cx 976 rfl _).1)))
      have w276 : Xi T15 977 (p).toNat = Xi T11 977 (p).toNat := (show Xi T15 977 (p).toNat = Xi U13 977 (p).toNat from (w268.cx 977 rfl _).1).trans ( (show Xi U13 977 (p).toNat = Xi T12 977 (p).toNat from by rw [eU13]; exact Xi_ne (by omega)).trans ((show Xi T12 977 (p).toNat = Xi T11 977 (p).toNat from (w191.cx 977 rfl _).1)))
      have w277 : 0 ≤ Xi T15 904 106 ∧ Xi T15 904 106 ≤ 9 := hHT15.c _ _
      have w278 : Xi T15 904 115 = Xi T11 904 115 := (show Xi T15 904 115 = Xi U13 904 115 from w268.x _ _ rfl).trans ( (show Xi U13 904 115 = Xi T12 904 115 from by rw [eU13]; exact Xi_ne (by omega)).trans ((show Xi T12 904 115 = Xi T11 904 115 from w191.x _ _ rfl)))
      have w280 : Xi T15 904 128 = Xi T11 904 128 := (show Xi T15 904 128 = Xi U13 904 128 from w268.x _ _ rfl).trans ( (show Xi U13 904 128 = Xi T12 904 128 from by rw [eU13]; exact Xi_ne (by omega)).trans ((show Xi T12 904 128 = Xi T11 904 128 from w191.x _ _ rfl)))
      have w282 : Xi T15 904 129 = Xi T11 904 129 := (show Xi T15 904 129 = Xi U13 904 129 from w268.x _ _ rfl).trans ( (show Xi U13 904 129 = Xi T12 904 129 from by rw [eU13]; exact Xi_ne (by omega)).trans ((show Xi T12 904 129 = Xi T11 904 129 from w191.x _ _ rfl)))
      have w284 : Xi T15 904 69 = Xi T11 904 69 := (show Xi T15 904 69 = Xi U13 904 69 from w268.x _ _ rfl).trans ( (show Xi U13 904 69 = Xi T12 904 69 from by rw [eU13]; exact Xi_ne (by omega)).trans ((show Xi T12 904 69 = Xi T11 904 69 from w191.x _ _ rfl)))
      exact Rl_weak (C210 T15 hHT15 hFT15 (v4) (by omega) ((KQ_FR w268 rfl (KQ.w (KQ_FR w191 rfl (by assumption : KQ T11 S _)) eU13 (by omega)))) ((KH_FR w268 rfl (KH_FR (FR_e eU13) rfl (KH_FR w191 rfl (by assumption : KH T11 _ _))))) (by omega) (by omega) (by omega) (by omega) (by omega) (by omega) (by omega) (fun x => thk_c (th156 (by omega)) rfl (by omega))) (And.intro rfl (And.intro rfl (And.intro rfl (True.intro))))
    · refine l_iconst rfl ?_
      refine l_goto rfl rfl ?_
      refine l_iconst rfl ?_
      refine l_aload_n rfl rfl ?_
      refine l_gfr rfl rfl rfl rfl rfl (hHU13.r 904 84 954 rfl) ?_
      refine l_iload rfl rfl ?_
      refine l_iaload (n := 1700) rfl rfl (by omega) (by omega) (by unfold rg; omega) ?_
      have w286 : (Xi U13 954 ((v4).toNat)) = (Xi T11 954 ((v4).toNat)) := (show Xi U13 954 ((v4).toNat) = Xi T12 954 ((v4).toNat) from by rw [eU13]; exact Xi_ne (by omega)).trans ((show Xi T12 954 ((v4).toNat) = Xi T11 954 ((v4).toNat) from w191.x _ _ rfl))
      rw [w286]
      have e202 : (Xi T11 954 ((v4).toNat)) = Xi S 954 (Xi S 964 (i).toNat).toNat := by first | rfl | exact (hFT11.cx 954 rfl _).1 | exact (hFU13.cx 954 rfl _).1 | (rw [(hFT11.cx 954 rfl _).1]; exact congrArg (fun t : Int => Xi S 954 t.toNat) (by omega)) | (rw [(hFU13.cx 954 rfl _).1]; exact congrArg (fun t : Int => Xi S 954 t.toNat) (by omega)) | (rw [(hFT12.cx 954 rfl _).1]; exact congrArg (fun t : Int => Xi S 954 t.toNat) (by omega)) | (rw [(hFT11.cx 954 rfl _).1]; exact congrArg (fun t : Int => Xi S 954 t.toNat) (by omega))
      refine l_sipush rfl rfl ?_
      refine l_iremP rfl (by omega) (by omega) (by unfold rg; omega) (by unfold rg; omega) ?_
      have w288 : Xi U13 904 106 = Xi T12 904 106 := (show Xi U13 904 106 = Xi T12 904 106 from by rw [eU13]; exact Xi_ne (by omega))
      have w289 : 0 ≤ Xi T12 904 106 ∧ Xi T12 904 106 ≤ 9 := hHT12.c _ _
      refine l_callV rfl rfl rfl (t_mo_need hHU13 1 4 ((Xi T11 954 ((v4).toNat)) % 10000) ⟨by omega, by omega⟩ ⟨by omega, by omega⟩ ⟨by omega, by omega⟩ _) ?_
      rintro _ T16 ⟨hHT16, w301, rfl, w298, w299⟩
      have hFT16 : FR md_mo_phraseMeant S T16 := FR.tr hFU13 w301 rfl
      show Rl _ _ _ _ _ [] _ _
      have w302 : Xi T16 970 (q).toNat = Xi T11 970 (q).toNat := (show Xi T16 970 (q).toNat = Xi U13 970 (q).toNat from (w301.cx 970 rfl _).1).trans ( (show Xi U13 970 (q).toNat = Xi T12 970 (q).toNat from by rw [eU13]; exact Xi_ne (by omega)).trans ((show Xi T12 970 (q).toNat = Xi T11 970 (q).toNat from (w191.cx 970 rfl _).1)))
      have w303 : Xi T16 971 (q).toNat = Xi U13 971 (q).toNat := (show Xi T16 971 (q).toNat = Xi U13 971 (q).toNat from (w301.cx 971 rfl _).1)
      have w304 : Xi T16 972 (q).toNat = Xi T11 972 (q).toNat := (show Xi T16 972 (q).toNat = Xi U13 972 (q).toNat from (w301.cx 972 rfl _).1).trans ( (show Xi U13 972 (q).toNat = Xi T12 972 (q).toNat from by rw [eU13]; exact Xi_ne (by omega)).trans ((show Xi T12 972 (q).toNat = Xi T11 972 (q).toNat from (w191.cx 972 rfl _).1)))
      have w305 : Xi T16 973 (q).toNat = Xi T11 973 (q).toNat := (show Xi T16 973 (q).toNat = Xi U13 973 (q).toNat from (w301.cx 973 rfl _).1).trans ( (show Xi U13 973 (q).toNat = Xi T12 973 (q).toNat from by rw [eU13]; exact Xi_ne (by omega)).trans ((show Xi T12 973 (q).toNat = Xi T11 973 (q).toNat from (w191.cx 973 rfl _).1)))
      have w306 : Xi T16 974 (q).toNat = Xi T11 974 (q).toNat := (show Xi T16 974 (q).toNat = Xi U13 974 (q).toNat from (w301.cx 974 rfl _).1).trans ( (show Xi U13 974 (q).toNat = Xi T12 974 (q).toNat from by rw [eU13]; exact Xi_ne (by omega)).trans ((show Xi T12 974 (q).toNat = Xi T11 974 (q).toNat from (w191.cx 974 rfl _).1)))
      have w307 : Xi T16 975 (q).toNat = Xi T11 975 (q).toNat := (show Xi T16 975 (q).toNat = Xi U13 975 (q).toNat from (w301.cx 975 rfl _).1).trans ( (show Xi U13 975 (q).toNat = Xi T12 975 (q).toNat from by rw [eU13]; exact Xi_ne (by omega)).trans ((show Xi T12 975 (q).toNat = Xi T11 975 (q).toNat from (w191.cx 975 rfl _).1)))
      have w308 : Xi T16 976 (p).toNat = Xi T11 976 (p).toNat := (show Xi T16 976 (p).toNat = Xi U13 976 (p).toNat from (w301.cx 976 rfl _).1).trans ( (show Xi U13 976 (p).toNat = Xi T12 976 (p).toNat from by rw [eU13]; exact Xi_ne (by omega)).trans ((show Xi T12 976 (p).toNat = Xi T11 976 (p).toNat from (w191.cx 976 rfl _).1)))
      have w309 : Xi T16 977 (p).toNat = Xi T11 977 (p).toNat := (show Xi T16 977 (p).toNat = Xi U13 977 (p).toNat from (w301.cx 977 rfl _).1).trans ( (show Xi U13 977 (p).toNat = Xi T12 977 (p).toNat from by rw [eU13]; exact Xi_ne (by omega)).trans ((show Xi T12 977 (p).toNat = Xi T11 977 (p).toNat from (w191.cx 977 rfl _).1)))
      have w310 : 0 ≤ Xi T16 904 106 ∧ Xi T16 904 106 ≤ 9 := hHT16.c _ _
      have w311 : Xi T16 904 115 = Xi T11 904 115 := (show Xi T16 904 115 = Xi U13 904 115 from w301.x _ _ rfl).trans ( (show Xi U13 904 115 = Xi T12 904 115 from by rw [eU13]; exact Xi_ne (by omega)).trans ((show Xi T12 904 115 = Xi T11 904 115 from w191.x _ _ rfl)))
      have w313 : Xi T16 904 128 = Xi T11 904 128 := (show Xi T16 904 128 = Xi U13 904 128 from w301.x _ _ rfl).trans ( (show Xi U13 904 128 = Xi T12 904 128 from by rw [eU13]; exact Xi_ne (by omega)).trans ((show Xi T12 904 128 = Xi T11 904 128 from w191.x _ _ rfl)))
      have w315 : Xi T16 904 129 = Xi T11 904 129 := (show Xi T16 904 129 = Xi U13 904 129 from w301.x _ _ rfl).trans ( (show Xi U13 904 129 = Xi T12 904 129 from by rw [eU13]; exact Xi_ne (by omega)).trans ((show Xi T12 904 129 = Xi T11 904 129 from w191.x _ _ rfl)))
      have w317 : Xi T16 904 69 = Xi T11 904 69 := (show Xi T16 904 69 = Xi U13 904 69 from w301.x _ _ rfl).trans ( (show Xi U13 904 69 = Xi T12 904 69 from by rw [eU13]; exact Xi_ne (by omega)).trans ((show Xi T12 904 69 = Xi T11 904 69 from w191.x _ _ rfl)))
      exact Rl_weak (C210 T16 hHT16 hFT16 (v4) (by omega) ((KQ_FR w301 rfl (KQ.w (KQ_FR w191 rfl (by assumption : KQ T11 S _)) eU13 (by omega)))) ((KH_FR w301 rfl (KH_FR (FR_e eU13) rfl (KH_FR w191 rfl (by assumption : KH T11 _ _))))) (by omega) (by omega) (by omega) (by omega) (by omega) (by omega) (by omega) (fun x => thk_c (th156 (by omega)) rfl (by omega))) (And.intro rfl (And.intro rfl (And.intro rfl (True.intro))))
set_option maxRecDepth 100000 in
set_option maxHeartbeats 16000000 in
theorem c257_mo_phraseMeant {S : sS} (hH : HI S) (n : Nat) (i : Int) (q : Int) (p : Int) (hi : 0 ≤ i ∧ i ≤ 1699) (hq : 0 ≤ q ∧ q ≤ 2399) (hp : 0 ≤ p ∧ p ≤ 1999) (hT : TK S n) (hv : RNV S n) (hM : LXM S) (hB : ABV S) (hC : DCM S) (hK : TXK S n) (hX : TXM S) (hit : Xi S 904 115 = -1) (hpv : PV S n i.toNat) (h64 : Xi S 964 i.toNat ≤ 1699) (d : Nat) : ∀  (T17 : sS) (_ : HI T17) (_ : FR md_mo_phraseMeant S T17) (v4 : Int), (0 ≤ v4 ∧ v4 ≤ 1700) → (KQ T17 S q) → (KH T17 S p) → (Xi T17 976 (p).toNat = Xi S 963 (i).toNat) → (Xi T17 977 (p).toNat = q) → (Xi S 904 106 ≠ 0 → Xi T17 904 106 ≠ 0) → (Xi T17 904 69 = Xi S 904 69) → (Xi T17 904 115 = -1) → (v4 = Xi S 964 (i).toNat) → (3 ≤ Xi S 963 (i).toNat ∧ Xi S 963 (i).toNat ≤ 4) → Rl lay0 (d + 7) m_mo_phraseMeant 257 [(0, .ref 904), (2, iv q), (4, iv v4)] [] T17 (Q_mo_phraseMeant S n i q p) := by
  have hF : FR md_mo_phraseMeant S S := FR.rf
  have w1 : 0 ≤ Xi S 904 106 ∧ Xi S 904 106 ≤ 9 := hH.c _ _
  have w2 : -1 ≤ Xi S 904 115 ∧ Xi S 904 115 ≤ 15 := hH.c _ _
  have w3 : -1 ≤ Xi S 904 116 ∧ Xi S 904 116 ≤ 15 := hH.c _ _
  have w4 : 0 ≤ Xi S 904 128 ∧ Xi S 904 128 ≤ 11 := hH.c _ _
  have w5 : -1 ≤ Xi S 904 129 ∧ Xi S 904 129 ≤ 23 := hH.c _ _
  have w6 : 0 ≤ Xi S 904 19 ∧ Xi S 904 19 ≤ 24 := hH.c _ _
  have w7 : 0 ≤ Xi S 904 49 ∧ Xi S 904 49 ≤ 12 := hH.c _ _
  have w8 : 0 ≤ Xi S 904 69 ∧ Xi S 904 69 ≤ 2600 := hH.c _ _
  have hn5 := hT.1
  have hc69 : 0 ≤ Xi S 904 69 ∧ Xi S 904 69 ≤ 2600 := hH.c _ _
  have hc19 : 0 ≤ Xi S 904 19 ∧ Xi S 904 19 ≤ 24 := hH.c _ _
  have hc32 : 0 ≤ Xi S 904 32 ∧ Xi S 904 32 ≤ 12 := hH.c _ _
  have hc49 : 0 ≤ Xi S 904 49 ∧ Xi S 904 49 ≤ 12 := hH.c _ _
  have h963 : 0 ≤ Xi S 963 (i).toNat ∧ Xi S 963 (i).toNat ≤ 6 := hH.c 963 _
  have h964 : 0 ≤ Xi S 964 (i).toNat := (hH.c 964 (i).toNat).1
  have hp : PVt S n (Xi S 963 (i).toNat) (Xi S 964 (i).toNat).toNat := hpv
  have hrf : ∀ r : Int, 0 ≤ r → r < Xi S 904 69 → Xi S 950 r.toNat + Xi S 951 r.toNat ≤ n ∧ 1 ≤ Xi S 951 r.toNat := fun r a b => hv r.toNat (by omega)
  have h956 : 0 ≤ Xi S 956 (Xi S 964 (i).toNat).toNat := (hH.c 956 _).1
  intro T17 hHT17 hFT17 v4 w319 K257 P257 w320 w321 w322 w323 w324 w325 w326
  have w327 : Xi T17 904 115 = Xi S 904 115 := hFT17.x _ _ rfl
  have w328 : Xi T17 904 116 = Xi S 904 116 := hFT17.x _ _ rfl
  have w329 : Xi T17 904 19 = Xi S 904 19 := hFT17.x _ _ rfl
  have w330 : Xi T17 904 32 = Xi S 904 32 := hFT17.x _ _ rfl
  have w331 : Xi T17 904 49 = Xi S 904 49 := hFT17.x _ _ rfl
  have w332 : Xi T17 904 69 = Xi S 904 69 := hFT17.x _ _ rfl
  have w333 : 0 ≤ Xi T17 904 106 ∧ Xi T17 904 106 ≤ 9 := hHT17.c _ _
  have w334 : -1 ≤ Xi T17 904 115 ∧ Xi T17 904 115 ≤ 15 := hHT17.c _ _
  have w335 : 0 ≤ Xi T17 904 69 ∧ Xi T17 904 69 ≤ 2600 := hHT17.c _ _
  refine l_aload_n rfl rfl ?_
  refine l_gfr rfl rfl rfl rfl rfl (hHT17.r 904 120 971 rfl) ?_
  refine l_iload_n rfl rfl ?_
  refine l_aload_n rfl rfl ?_
  refine l_aload_n rfl rfl ?_
  refine l_gfr rfl rfl rfl rfl rfl (hHT17.r 904 84 954 rfl) ?_
  refine l_iload rfl rfl ?_
  refine l_iaload (n := 1700) rfl rfl (by omega) (by omega) (by unfold rg; omega) ?_
  have w336 : 0 ≤ (Xi T17 954 ((v4).toNat)) ∧ (Xi T17 954 ((v4).toNat)) ≤ 25010 := hHT17.c _ _
  have e269 : (Xi T17 954 ((v4).toNat)) = Xi S 954 (Xi S 964 (i).toNat).toNat := by first | rfl | exact (hFT17.cx 954 rfl _).1 | exact (hFT17.cx 954 rfl _).1 | (rw [(hFT17.cx 954 rfl _).1]; exact congrArg (fun t : Int => Xi S 954 t.toNat) (by omega)) | (rw [(hFT17.cx 954 rfl _).1]; exact congrArg (fun t : Int => Xi S 954 t.toNat) (by omega)) | (rw [(hFT17.cx 954 rfl _).1]; exact congrArg (fun t : Int => Xi S 954 t.toNat) (by omega)) | (rw [(hFT17.cx 954 rfl _).1]; exact congrArg (fun t : Int => Xi S 954 t.toNat) (by omega))
  refine l_aload_n rfl rfl ?_
  refine l_gfr rfl rfl rfl rfl rfl (hHT17.r 904 85 955 rfl) ?_
  refine l_iload rfl rfl ?_
  refine l_iaload (n := 1700) rfl rfl (by omega) (by omega) (by unfold rg; omega) ?_
  have w337 : 0 ≤ (Xi T17 955 ((v4).toNat)) ∧ (Xi T17 955 ((v4).toNat)) ≤ 2600 := hHT17.c _ _
  have e276 : (Xi T17 955 ((v4).toNat)) = Xi S 955 (Xi S 964 (i).toNat).toNat := by first | rfl | exact (hFT17.cx 955 rfl _).1 | exact (hFT17.cx 955 rfl _).1 | (rw [(hFT17.cx 955 rfl _).1]; exact congrArg (fun t : Int => Xi S 955 t.toNat) (by omega)) | (rw [(hFT17.cx 955 rfl _).1]; exact congrArg (fun t : Int => Xi S 955 t.toNat) (by omega)) | (rw [(hFT17.cx 955 rfl _).1]; exact congrArg (fun t : Int => Xi S 955 t.toNat) (by omega)) | (rw [(hFT17.cx 955 rfl _).1]; exact congrArg (fun t : Int => Xi S 955 t.toNat) (by omega))
  have q276 := q_thv (hp.2.2.1 (by omega)) e269 e276 (hFT17.x 904 69 rfl) hn5
  have w340 : 0 ≤ Xi T17 904 128 ∧ Xi T17 904 128 ≤ 11 := hHT17.c _ _
  have w341 : -1 ≤ Xi T17 904 129 ∧ Xi T17 904 129 ≤ 23 := hHT17.c _ _
  have w342 : 0 ≤ Xi T17 904 19 ∧ Xi T17 904 19 ≤ 24 := hHT17.c _ _
  refine l_callV rfl rfl rfl (t_mo_meant hHT17 n (Xi T17 954 ((v4).toNat)) (Xi T17 955 ((v4).toNat)) ⟨by omega, by omega⟩ ⟨by omega, by omega⟩ (by first | assumption | exact (TK_FR hFT17 rfl (by assumption : TK S _))) (by first | assumption | exact (RNV_FR hFT17 rfl (by assumption : RNV S _))) (by first | exact q436.1 | exact q276.1 | exact q229.1 | exact q155.1) (by first | exact q436.2 | exact q276.2 | exact q229.2 | exact q155.2) (by first | assumption | exact (LXM_FR hFT17 rfl (by assumption : LXM S))) _) ?_
  rintro _ T18 ⟨hHT18, w347, z346, rfl, w346, p277, i277, j277, w344, w345⟩
  have hFT18 : FR md_mo_phraseMeant S T18 := FR.tr hFT17 w347 rfl
  show Rl _ _ _ _ _ [iv z346, iv q, .ref 971] _ _
  have th277 : z346 ≠ -9 → thK S False (0 ≤ Xi S 904 116) z346 := fun x => by unfold thK; have a := hFT17.x 904 19 rfl; have b := hFT18.x 904 115 rfl; have c := hFT18.x 904 116 rfl; omega
  have m277 : z346 ≠ -9 → -2 ≤ z346 := by omega
  clear p277 i277 j277
  refine l_iastore (n := 2400) rfl rfl (by omega) (by omega) (by unfold rg; omega) ?_
  obtain ⟨U19, eU19⟩ : ∃ T : sS, T = uI T18 971 ((q).toNat) (Int32.ofInt z346) := ⟨_, rfl⟩
  rw [← eU19]
  have hHU19 : HI U19 := by rw [eU19]; exact HI_w hHT18 (show -9 ≤ z346 by omega) (show z346 ≤ 23 by omega)
  have hFU19 : FR md_mo_phraseMeant S U19 := by rw [eU19]; exact FR.wI hFT18 (mdf_i (r := (971, 972, 0, 100000)) (List.mem_of_getElem? (i := 14) rfl) (inR_i (by omega) (by omega) (by omega) (by omega)))
  have w348 : Xi U19 971 ((q).toNat) = z346 := by rw [eU19]; exact Xi_same (by unfold rg; omega)
  refine l_aload_n rfl rfl ?_
  refine l_gfr rfl rfl rfl rfl rfl (hHU19.r 904 121 972 rfl) ?_
  refine l_iload_n rfl rfl ?_
  refine l_aload_n rfl rfl ?_
  refine l_aload_n rfl rfl ?_
  refine l_gfr rfl rfl rfl rfl rfl (hHU19.r 904 86 956 rfl) ?_
  refine l_iload rfl rfl ?_
  refine l_iaload (n := 1700) rfl rfl (by omega) (by omega) (by unfold rg; omega) ?_
  have w349 : 0 ≤ (Xi U19 956 ((v4).toNat)) ∧ (Xi U19 956 ((v4).toNat)) ≤ 2600 := hHU19.c _ _
  have e293 : (Xi U19 956 ((v4).toNat)) = Xi S 956 (Xi S 964 (i).toNat).toNat := by first | rfl | exact (hFU19.cx 956 rfl _).1 | exact (hFU19.cx 956 rfl _).1 | (rw [(hFU19.cx 956 rfl _).1]; exact congrArg (fun t : Int => Xi S 956 t.toNat) (by omega)) | (rw [(hFU19.cx 956 rfl _).1]; exact congrArg (fun t : Int => Xi S 956 t.toNat) (by omega)) | (rw [(hFT18.cx 956 rfl _).1]; exact congrArg (fun t : Int => Xi S 956 t.toNat) (by omega)) | (rw [(hFT17.cx 956 rfl _).1]; exact congrArg (fun t : Int => Xi S 956 t.toNat) (by omega))
  have r293 := hp.2.2.2.2.1 (by omega)
  refine l_aload_n rfl rfl ?_
  refine l_gfr rfl rfl rfl rfl rfl (hHU19.r 904 120 971 rfl) ?_
  refine l_iload_n rfl rfl ?_
  refine l_iaload (n := 2400) rfl rfl (by omega) (by omega) (by unfold rg; omega) ?_
  have w350 : Xi U19 904 106 = Xi T18 904 106 := (show Xi U19 904 106 = Xi T18 904 106 from by rw [eU19]; exact Xi_ne (by omega))
  have w351 : 0 ≤ Xi T18 904 106 ∧ Xi T18 904 106 ≤ 9 := hHT18.c _ _
  have w358 : Xi U19 904 32 = Xi T17 904 32 := (show Xi U19 904 32 = Xi T18 904 32 from by rw [eU19]; exact Xi_ne (by omega)).trans ((show Xi T18 904 32 = Xi T17 904 32 from w347.x _ _ rfl))
  have w359 : 0 ≤ Xi T17 904 32 ∧ Xi T17 904 32 ≤ 12 := hHT17.c _ _
  have w360 : Xi U19 904 69 = Xi T17 904 69 := (show Xi U19 904 69 = Xi T18 904 69 from by rw [eU19]; exact Xi_ne (by omega)).trans ((show Xi T18 904 69 = Xi T17 904 69 from w347.x _ _ rfl))
  refine l_callV rfl rfl rfl (t_mo_propertyMeant__2 hHU19 n (Xi U19 956 ((v4).toNat)) (Xi U19 971 ((q).toNat)) ⟨by omega, by omega⟩ ⟨by omega, by omega⟩ (by first | assumption | exact (TK_FR hFU19 rfl (by assumption : TK S _))) (by first | assumption | exact (RNV_FR hFU19 rfl (by assumption : RNV S _))) (by first | assumption | omega) (by first | assumption | exact (LXM_FR hFU19 rfl (by assumption : LXM S))) (by first | assumption | exact (ABV_FR hFU19 rfl (by assumption : ABV S))) (by first | assumption | omega) _) ?_
  rintro _ T20 ⟨hHT20, w367, z366, rfl, w366, w362, w363, w364, w365, g300⟩
  have hFT20 : FR md_mo_phraseMeant S T20 := FR.tr hFU19 w367 rfl
  show Rl _ _ _ _ _ [iv z366, iv q, .ref 972] _ _
  have p300 : z366 ≠ -1 → z366 = rnR S (Xi S 956 (Xi S 964 (i).toNat).toNat) 7 := fun x => by rw [g300 x, rnR_FR hFU19 rfl rfl, e293]
  refine l_iastore (n := 2400) rfl rfl (by omega) (by omega) (by unfold rg; omega) ?_
  obtain ⟨U21, eU21⟩ : ∃ T : sS, T = uI T20 972 ((q).toNat) (Int32.ofInt z366) := ⟨_, rfl⟩
  rw [← eU21]
  have hHU21 : HI U21 := by rw [eU21]; exact HI_w hHT20 (show -1 ≤ z366 by omega) (show z366 ≤ 11 by omega)
  have hFU21 : FR md_mo_phraseMeant S U21 := by rw [eU21]; exact FR.wI hFT20 (mdf_i (r := (972, 973, 0, 100000)) (List.mem_of_getElem? (i := 15) rfl) (inR_i (by omega) (by omega) (by omega) (by omega)))
  have w368 : Xi U21 972 ((q).toNat) = z366 := by rw [eU21]; exact Xi_same (by unfold rg; omega)
  refine l_aload_n rfl rfl ?_
  refine l_aload_n rfl rfl ?_
  refine l_gfr rfl rfl rfl rfl rfl (hHU21.r 904 86 956 rfl) ?_
  refine l_iload rfl rfl ?_
  refine l_iaload (n := 1700) rfl rfl (by omega) (by omega) (by unfold rg; omega) ?_
  have w369 : (Xi U21 956 ((v4).toNat)) = (Xi U19 956 ((v4).toNat)) := (show Xi U21 956 ((v4).toNat) = Xi T20 956 ((v4).toNat) from by rw [eU21]; exact Xi_ne (by omega)).trans ((show Xi T20 956 ((v4).toNat) = Xi U19 956 ((v4).toNat) from w367.x _ _ rfl))
  rw [w369]
  have e311 : (Xi U19 956 ((v4).toNat)) = Xi S 956 (Xi S 964 (i).toNat).toNat := by first | rfl | exact (hFU19.cx 956 rfl _).1 | exact (hFU21.cx 956 rfl _).1 | (rw [(hFU19.cx 956 rfl _).1]; exact congrArg (fun t : Int => Xi S 956 t.toNat) (by omega)) | (rw [(hFU21.cx 956 rfl _).1]; exact congrArg (fun t : Int => Xi S 956 t.toNat) (by omega)) | (rw [(hFT20.cx 956 rfl _).1]; exact congrArg (fun t : Int => Xi S 956 t.toNat) (by omega)) | (rw [(hFT17.cx 956 rfl _).1]; exact congrArg (fun t : Int => Xi S 956 t.toNat) (by omega))
  have w370 : Xi U21 904 106 = Xi T20 904 106 := (show Xi U21 904 106 = Xi T20 904 106 from by rw [eU21]; exact Xi_ne (by omega))
  have w371 : 0 ≤ Xi T20 904 106 ∧ Xi T20 904 106 ≤ 9 := hHT20.c _ _
  have w378 : Xi U21 904 69 = Xi T17 904 69 := (show Xi U21 904 69 = Xi T20 904 69 from by rw [eU21]; exact Xi_ne (by omega)).trans ( (show Xi T20 904 69 = Xi U19 904 69 from w367.x _ _ rfl).trans ( (show Xi U19 904 69 = Xi T18 904 69 from by rw [eU19]; exact Xi_ne (by omega)).trans ((show Xi T18 904 69 = Xi T17 904 69 from w347.x _ _ rfl))))
  refine l_callV rfl rfl rfl (t_mo_numberMeant__2 hHU21 n (Xi U19 956 ((v4).toNat)) ⟨by omega, by omega⟩ (by first | assumption | exact (TK_FR hFU21 rfl (by assumption : TK S _))) (by first | assumption | exact (RNV_FR hFU21 rfl (by assumption : RNV S _))) (by first | assumption | omega) (by first | assumption | exact (LXM_FR hFU21 rfl (by assumption : LXM S))) _) ?_
  rintro _ T22 ⟨hHT22, w382, rfl, w380, g312⟩
  have hFT22 : FR md_mo_phraseMeant S T22 := FR.tr hFU21 w382 rfl
  show Rl _ _ _ _ _ [] _ _
  have n312 : Xi T22 904 106 = 0 → rnR S (Xi S 956 (Xi S 964 (i).toNat).toNat) 7 = -1 ∨ Xi S 928 (rnR S (Xi S 956 (Xi S 964 (i).toNat).toNat) 7).toNat = 0 := fun x => by have t := g312 x; rw [rnR_FR hFU21 rfl rfl, e311, (hFU21.cx 928 rfl _).1] at t; exact t
  refine l_aload_n rfl rfl ?_
  refine l_gfr rfl rfl rfl rfl rfl (hHT22.r 904 122 973 rfl) ?_
  refine l_iload_n rfl rfl ?_
  refine l_aload_n rfl rfl ?_
  refine l_gfr rfl rfl rfl rfl rfl (hHT22.r 904 7 910 rfl) ?_
  refine l_aload_n rfl rfl ?_
  refine l_gfr rfl rfl rfl rfl rfl (hHT22.r 904 87 957 rfl) ?_
  refine l_iload rfl rfl ?_
  refine l_iaload (n := 1700) rfl rfl (by omega) (by omega) (by unfold rg; omega) ?_
  have w383 : 0 ≤ (Xi T22 957 ((v4).toNat)) ∧ (Xi T22 957 ((v4).toNat)) ≤ 5010 := hHT22.c _ _
  have e330 : (Xi T22 957 ((v4).toNat)) = Xi S 957 (Xi S 964 (i).toNat).toNat := by first | rfl | exact (hFT22.cx 957 rfl _).1 | exact (hFT22.cx 957 rfl _).1 | (rw [(hFT22.cx 957 rfl _).1]; exact congrArg (fun t : Int => Xi S 957 t.toNat) (by omega)) | (rw [(hFT22.cx 957 rfl _).1]; exact congrArg (fun t : Int => Xi S 957 t.toNat) (by omega)) | (rw [(hFU21.cx 957 rfl _).1]; exact congrArg (fun t : Int => Xi S 957 t.toNat) (by omega)) | (rw [(hFT17.cx 957 rfl _).1]; exact congrArg (fun t : Int => Xi S 957 t.toNat) (by omega))
  have b330 := hp.2.2.2.2.2.1 (by omega)
  refine l_laload (n := 5002) rfl rfl (by omega) (by omega) (by unfold rg; omega) ?_
  have w384 : -9223372036854775808 ≤ (Xj T22 910 (((Xi T22 957 ((v4).toNat))).toNat)) ∧ (Xj T22 910 (((Xi T22 957 ((v4).toNat))).toNat)) < 9223372036854775808 := Xj_rg
  refine l_l2iA rfl (fun c385 w385 => ?_)
  refine l_iastore (n := 2400) rfl rfl (by omega) (by omega) (by unfold rg; omega) ?_
  obtain ⟨U23, eU23⟩ : ∃ T : sS, T = uI T22 973 ((q).toNat) (Int32.ofInt c385) := ⟨_, rfl⟩
  rw [← eU23]
  have hHU23 : HI U23 := by rw [eU23]; exact HI_any hHT22 (rfl)
  have hFU23 : FR md_mo_phraseMeant S U23 := by rw [eU23]; exact FR.wI hFT22 (mdf_i (r := (973, 974, 0, 100000)) (List.mem_of_getElem? (i := 16) rfl) (inR_i (by omega) (by omega) (by omega) (by omega)))
  have w386 : Xi U23 973 ((q).toNat) = c385 := by rw [eU23]; exact Xi_same (by unfold rg; omega)
  refine l_goto rfl rfl ?_
  refine l_return rfl rfl ?_
  have w387 : Xi U23 970 (q).toNat = Xi T17 970 (q).toNat := (show Xi U23 970 (q).toNat = Xi T22 970 (q).toNat from by rw [eU23]; exact Xi_ne (by omega)).trans ( (show Xi T22 970 (q).toNat = Xi U21 970 (q).toNat from (w382.cx 970 rfl _).1).trans ( (show Xi U21 970 (q).toNat = Xi T20 970 (q).toNat from by rw [eU21]; exact Xi_ne (by omega)).trans ( (show Xi T20 970 (q).toNat = Xi U19 970 (q).toNat from (w367.cx 970 rfl _).1).trans ( (show Xi U19 970 (q).toNat = Xi T18 970 (q).toNat from by rw [eU19]; exact Xi_ne (by omega)).trans ((show Xi T18 970 (q).toNat = Xi T17 970 (q).toNat from (w347.cx 970 rfl _).1))))))
  have w388 : Xi U23 971 (q).toNat = Xi U19 971 (q).toNat := (show Xi U23 971 (q).toNat = Xi T22 971 (q).toNat from by rw [eU23]; exact Xi_ne (by omega)).trans ( (show Xi T22 971 (q).toNat = Xi U21 971 (q).toNat from (w382.cx 971 rfl _).1).trans ( (show Xi U21 971 (q).toNat = Xi T20 971 (q).toNat from by rw [eU21]; exact Xi_ne (by omega)).trans ((show Xi T20 971 (q).toNat = Xi U19 971 (q).toNat from (w367.cx 971 rfl _).1))))
  have w389 : Xi U23 972 (q).toNat = Xi U21 972 (q).toNat := (show Xi U23 972 (q).toNat = Xi T22 972 (q).toNat from by rw [eU23]; exact Xi_ne (by omega)).trans ((show Xi T22 972 (q).toNat = Xi U21 972 (q).toNat from (w382.cx 972 rfl _).1))
  have w390 : Xi U23 974 (q).toNat = Xi T17 974 (q).toNat := (show Xi U23 974 (q).toNat = Xi T22 974 (q).toNat from by rw [eU23]; exact Xi_ne (by omega)).trans ( (show Xi T22 974 (q).toNat = Xi U21 974 (q).toNat from (w382.cx 974 rfl _).1).trans ( (show Xi U21 974 (q).toNat = Xi T20 974 (q).toNat from by rw [eU21]; exact Xi_ne (by omega)).trans ( (show Xi T20 974 (q).toNat = Xi U19 974 (q).toNat from (w367.cx 974 rfl _).1).trans ( (show Xi U19 974 (q).toNat = Xi T18 974 (q).toNat from by rw [eU19]; exact Xi_ne (by omega)).trans ((show Xi T18 974 (q).toNat = Xi T17 974 (q).toNat from (w347.cx 974 rfl _).1))))))
  have w391 : Xi U23 975 (q).toNat = Xi T17 975 (q).toNat := (show Xi U23 975 (q).toNat = Xi T22 975 (q).toNat from by rw [eU23]; exact Xi_ne (by omega)).trans ( (show Xi T22 975 (q).toNat = Xi U21 975 (q).toNat from (w382.cx 975 rfl _).1).trans ( (show Xi U21 975 (q).toNat = Xi T20 975 (q).toNat from by rw [eU21]; exact Xi_ne (by omega)).trans ( (show Xi T20 975 (q).toNat = Xi U19 975 (q).toNat from (w367.cx 975 rfl _).1).trans ( (show Xi U19 975 (q).toNat = Xi T18 975 (q).toNat from by rw [eU19]; exact Xi_ne (by omega)).trans ((show Xi T18 975 (q).toNat = Xi T17 975 (q).toNat from (w347.cx 975 rfl _).1))))))
  have w392 : Xi U23 976 (p).toNat = Xi T17 976 (p).toNat := (show Xi U23 976 (p).toNat = Xi T22 976 (p).toNat from by rw [eU23]; exact Xi_ne (by omega)).trans ( (show Xi T22 976 (p).toNat = Xi U21 976 (p).toNat from (w382.cx 976 rfl _).1).trans ( (show Xi U21 976 (p).toNat = Xi T20 976 (p).toNat from by rw [eU21]; exact Xi_ne (by omega)).trans ( (show Xi T20 976 (p).toNat = Xi U19 976 (p).toNat from (w367.cx 976 rfl _).1).trans ( (show Xi U19 976 (p).toNat = Xi T18 976 (p).toNat from by rw [eU19]; exact Xi_ne (by omega)).trans ((show Xi T18 976 (p).toNat = Xi T17 976 (p).toNat from (w347.cx 976 rfl _).1))))))
  have w393 : Xi U23 977 (p).toNat = Xi T17 977 (p).toNat := (show Xi U23 977 (p).toNat = Xi T22 977 (p).toNat from by rw [eU23]; exact Xi_ne (by omega)).trans ( (show Xi T22 977 (p).toNat = Xi U21 977 (p).toNat from (w382.cx 977 rfl _).1).trans ( (show Xi U21 977 (p).toNat = Xi T20 977 (p).toNat from by rw [eU21]; exact Xi_ne (by omega)).trans ( (show Xi T20 977 (p).toNat = Xi U19 977 (p).toNat from (w367.cx 977 rfl _).1).trans ( (show Xi U19 977 (p).toNat = Xi T18 977 (p).toNat from by rw [eU19]; exact Xi_ne (by omega)).trans ((show Xi T18 977 (p).toNat = Xi T17 977 (p).toNat from (w347.cx 977 rfl _).1))))))
  have w394 : Xi U23 904 106 = Xi T22 904 106 := (show Xi U23 904 106 = Xi T22 904 106 from by rw [eU23]; exact Xi_ne (by omega))
  have w395 : 0 ≤ Xi T22 904 106 ∧ Xi T22 904 106 ≤ 9 := hHT22.c _ _
  have w396 : Xi U23 904 115 = Xi T17 904 115 := (show Xi U23 904 115 = Xi T22 904 115 from by rw [eU23]; exact Xi_ne (by omega)).trans ( (show Xi T22 904 115 = Xi U21 904 115 from w382.x _ _ rfl).trans ( (show Xi U21 904 115 = Xi T20 904 115 from by rw [eU21]; exact Xi_ne (by omega)).trans ( (show Xi T20 904 115 = Xi U19 904 115 from w367.x _ _ rfl).trans ( (show Xi U19 904 115 = Xi T18 904 115 from by rw [eU19]; exact Xi_ne (by omega)).trans ((show Xi T18 904 115 = Xi T17 904 115 from w347.x _ _ rfl))))))
  have w398 : Xi U23 904 128 = Xi T17 904 128 := (show Xi U23 904 128 = Xi T22 904 128 from by rw [eU23]; exact Xi_ne (by omega)).trans ( (show Xi T22 904 128 = Xi U21 904 128 from w382.x _ _ rfl).trans ( (show Xi U21 904 128 = Xi T20 904 128 from by rw [eU21]; exact Xi_ne (by omega)).trans ( (show Xi T20 904 128 = Xi U19 904 128 from w367.x _ _ rfl).trans ( (show Xi U19 904 128 = Xi T18 904 128 from by rw [eU19]; exact Xi_ne (by omega)).trans ((show Xi T18 904 128 = Xi T17 904 128 from w347.x _ _ rfl))))))
  have w400 : Xi U23 904 129 = Xi T17 904 129 := (show Xi U23 904 129 = Xi T22 904 129 from by rw [eU23]; exact Xi_ne (by omega)).trans ( (show Xi T22 904 129 = Xi U21 904 129 from w382.x _ _ rfl).trans ( (show Xi U21 904 129 = Xi T20 904 129 from by rw [eU21]; exact Xi_ne (by omega)).trans ( (show Xi T20 904 129 = Xi U19 904 129 from w367.x _ _ rfl).trans ( (show Xi U19 904 129 = Xi T18 904 129 from by rw [eU19]; exact Xi_ne (by omega)).trans ((show Xi T18 904 129 = Xi T17 904 129 from w347.x _ _ rfl))))))
  have w402 : Xi U23 904 69 = Xi T17 904 69 := (show Xi U23 904 69 = Xi T22 904 69 from by rw [eU23]; exact Xi_ne (by omega)).trans ( (show Xi T22 904 69 = Xi U21 904 69 from w382.x _ _ rfl).trans ( (show Xi U21 904 69 = Xi T20 904 69 from by rw [eU21]; exact Xi_ne (by omega)).trans ( (show Xi T20 904 69 = Xi U19 904 69 from w367.x _ _ rfl).trans ( (show Xi U19 904 69 = Xi T18 904 69 from by rw [eU19]; exact Xi_ne (by omega)).trans ((show Xi T18 904 69 = Xi T17 904 69 from w347.x _ _ rfl))))))
  exact ⟨hHU23, hFU23, rfl, (by omega), (by first | exact (fun _ x0 => pq_i (q := (q).toNat) (w := 0) (pqt_0 (by omega)) (by omega) (by omega) (by omega)) o42 | exact (fun _ x0 => pq_i (q := (q).toNat) (w := 1) (pqt_1 ⟨(t120 (by omega)).mono (fun y => absurd y (by omega)) (fun y => by omega), (n120 (by omega) rfl).1, (n120 (by omega) rfl).2⟩) (by omega) (by omega) (by omega)) t120 | exact (fun _ x0 => pq_i (q := (q).toNat) (w := 2) (pqt_2 (thk_c (H210 (by omega)) (hFU23.x 904 19 rfl) (by omega)) (thk_c (th230 (by omega)) (hFU23.x 904 19 rfl) (by omega))) (by omega) (by omega) (by omega)) th230 | exact (fun _ x0 => pq_i (q := (q).toNat) (w := Xi U23 976 (p).toNat) (pqt_3 (by omega) (thk_c (th277 (by omega)) (hFU23.x 904 19 rfl) (by omega)) (by have a := hFU23.x 904 32 rfl; omega) (by rw [(hFU23.cx 928 rfl _).1, show Xi U23 972 (q).toNat = rnR S (Xi S 956 (Xi S 964 (i).toNat).toNat) 7 from by have t := p300 (by omega); omega]; have t := n312 (by omega); omega)) (by omega) (by omega) (by omega)) th277 | exact (fun _ x0 => pq_i (q := (q).toNat) (w := 5) (pqt_5 (by have a := hFU23.x 904 49 rfl; have t := (Z537 (by omega)).1; omega) (fun y => (by by_cases c : Xi S 953 (Xi S 964 (i).toNat).toNat = 0; exact Or.inl (by have t := (Z537 (by omega)).2.1 c (by omega); have a := hFU23.x 904 19 rfl; omega); exact thk_c (Y537 (by omega) c) (hFU23.x 904 19 rfl) (by omega))) (fun y => by rw [(hFU23.cx 942 rfl _).1, show Xi U23 972 (q).toNat = Xi T17 972 (q).toNat by omega]; exact (Z537 (by omega)).2.2 (by omega) (by omega))) (by omega) (by omega) (by omega)) Z537 | exact fun x => pq_i (q := (q).toNat) (w := 6) pqt_6 (by omega) (by omega) (by omega) | exact fun x => absurd x (by omega)), ((KQ.w (KQ_FR w382 rfl (KQ.w (KQ_FR w367 rfl (KQ.w (KQ_FR w347 rfl (by assumption : KQ T17 S _)) eU19 (by omega))) eU21 (by omega))) eU23 (by omega))), ((KH_FR (FR_e eU23) rfl (KH_FR w382 rfl (KH_FR (FR_e eU21) rfl (KH_FR w367 rfl (KH_FR (FR_e eU19) rfl (KH_FR w347 rfl (by assumption : KH T17 _ _)))))))), (by omega)⟩
set_option maxRecDepth 100000 in
set_option maxHeartbeats 16000000 in
theorem c537_mo_phraseMeant {S : sS} (hH : HI S) (n : Nat) (i : Int) (q : Int) (p : Int) (hi : 0 ≤ i ∧ i ≤ 1699) (hq : 0 ≤ q ∧ q ≤ 2399) (hp : 0 ≤ p ∧ p ≤ 1999) (hT : TK S n) (hv : RNV S n) (hM : LXM S) (hB : ABV S) (hC : DCM S) (hK : TXK S n) (hX : TXM S) (hit : Xi S 904 115 = -1) (hpv : PV S n i.toNat) (h64 : Xi S 964 i.toNat ≤ 1699) (d : Nat) : ∀  (T24 : sS) (_ : HI T24) (_ : FR md_mo_phraseMeant S T24) (v4 : Int), (0 ≤ v4 ∧ v4 ≤ 1699) → (KQ T24 S q) → (KH T24 S p) → (Xi T24 976 (p).toNat = 5) → (Xi T24 977 (p).toNat = q) → (Xi S 904 106 ≠ 0 → Xi T24 904 106 ≠ 0) → (Xi T24 904 69 = Xi S 904 69) → (Xi T24 904 115 = -1) → (v4 = Xi S 964 (i).toNat) → (Xi T24 904 106 = 0 → (0 ≤ Xi T24 972 (q).toNat ∧ Xi T24 972 (q).toNat < Xi S 904 49) ∧ (Xi S 953 (Xi S 964 (i).toNat).toNat = 0 → Xi T24 971 (q).toNat ≠ -1 → 0 ≤ Xi T24 971 (q).toNat ∧ Xi T24 971 (q).toNat < Xi S 904 19) ∧ (Xi S 953 (Xi S 964 (i).toNat).toNat = 0 → Xi T24 971 (q).toNat = -1 → Xi S 942 (Xi T24 972 (q).toNat).toNat < 0)) → (Xi T24 904 106 = 0 → Xi S 953 (Xi S 964 (i).toNat).toNat ≠ 0 → thK S False (0 ≤ Xi S 904 116) (Xi T24 971 (q).toNat)) → Rl lay0 (d + 7) m_mo_phraseMeant 537 [(0, .ref 904), (2, iv q), (4, iv v4)] [] T24 (Q_mo_phraseMeant S n i q p) := by
  have hF : FR md_mo_phraseMeant S S := FR.rf
  have w1 : 0 ≤ Xi S 904 106 ∧ Xi S 904 106 ≤ 9 := hH.c _ _
  have w2 : -1 ≤ Xi S 904 115 ∧ Xi S 904 115 ≤ 15 := hH.c _ _
  have w3 : -1 ≤ Xi S 904 116 ∧ Xi S 904 116 ≤ 15 := hH.c _ _
  have w4 : 0 ≤ Xi S 904 128 ∧ Xi S 904 128 ≤ 11 := hH.c _ _
  have w5 : -1 ≤ Xi S 904 129 ∧ Xi S 904 129 ≤ 23 := hH.c _ _
  have w6 : 0 ≤ Xi S 904 19 ∧ Xi S 904 19 ≤ 24 := hH.c _ _
  have w7 : 0 ≤ Xi S 904 49 ∧ Xi S 904 49 ≤ 12 := hH.c _ _
  have w8 : 0 ≤ Xi S 904 69 ∧ Xi S 904 69 ≤ 2600 := hH.c _ _
  have hn5 := hT.1
  have hc69 : 0 ≤ Xi S 904 69 ∧ Xi S 904 69 ≤ 2600 := hH.c _ _
  have hc19 : 0 ≤ Xi S 904 19 ∧ Xi S 904 19 ≤ 24 := hH.c _ _
  have hc32 : 0 ≤ Xi S 904 32 ∧ Xi S 904 32 ≤ 12 := hH.c _ _
  have hc49 : 0 ≤ Xi S 904 49 ∧ Xi S 904 49 ≤ 12 := hH.c _ _
  have h963 : 0 ≤ Xi S 963 (i).toNat ∧ Xi S 963 (i).toNat ≤ 6 := hH.c 963 _
  have h964 : 0 ≤ Xi S 964 (i).toNat := (hH.c 964 (i).toNat).1
  have hp : PVt S n (Xi S 963 (i).toNat) (Xi S 964 (i).toNat).toNat := hpv
  have hrf : ∀ r : Int, 0 ≤ r → r < Xi S 904 69 → Xi S 950 r.toNat + Xi S 951 r.toNat ≤ n ∧ 1 ≤ Xi S 951 r.toNat := fun r a b => hv r.toNat (by omega)
  have h956 : 0 ≤ Xi S 956 (Xi S 964 (i).toNat).toNat := (hH.c 956 _).1
  intro T24 hHT24 hFT24 v4 w404 K537 P537 w405 w406 w407 w408 w409 w410 Z537 Y537
  have w411 : Xi T24 904 115 = Xi S 904 115 := hFT24.x _ _ rfl
  have w412 : Xi T24 904 116 = Xi S 904 116 := hFT24.x _ _ rfl
  have w413 : Xi T24 904 19 = Xi S 904 19 := hFT24.x _ _ rfl
  have w414 : Xi T24 904 32 = Xi S 904 32 := hFT24.x _ _ rfl
  have w415 : Xi T24 904 49 = Xi S 904 49 := hFT24.x _ _ rfl
  have w416 : Xi T24 904 69 = Xi S 904 69 := hFT24.x _ _ rfl
  have w417 : 0 ≤ Xi T24 904 106 ∧ Xi T24 904 106 ≤ 9 := hHT24.c _ _
  have w418 : -1 ≤ Xi T24 904 115 ∧ Xi T24 904 115 ≤ 15 := hHT24.c _ _
  have w419 : 0 ≤ Xi T24 904 69 ∧ Xi T24 904 69 ≤ 2600 := hHT24.c _ _
  refine l_aload_n rfl rfl ?_
  refine l_gfr rfl rfl rfl rfl rfl (hHT24.r 904 119 970 rfl) ?_
  refine l_iload_n rfl rfl ?_
  refine l_aload_n rfl rfl ?_
  refine l_gfr rfl rfl rfl rfl rfl (hHT24.r 904 120 971 rfl) ?_
  refine l_iload_n rfl rfl ?_
  refine l_iaload (n := 2400) rfl rfl (by omega) (by omega) (by unfold rg; omega) ?_
  have w420 : -9 ≤ (Xi T24 971 ((q).toNat)) ∧ (Xi T24 971 ((q).toNat)) ≤ 23 := hHT24.c _ _
  refine l_iconst rfl ?_
  refine l_icmp_ne rfl rfl (by unfold rg; omega) (by unfold rg; omega) (fun w421 => ?_) (fun w422 => ?_)
  · refine l_iconst rfl ?_
    refine l_bastoreZ1 (n := 2400) rfl rfl (by omega) (by omega) (by unfold rg; omega) ⟨by omega, by omega⟩ ?_
    obtain ⟨U25, eU25⟩ : ∃ T : sS, T = uI T24 970 ((q).toNat) (Int32.ofInt 0) := ⟨_, rfl⟩
    rw [← eU25]
    have hHU25 : HI U25 := by rw [eU25]; exact HI_w hHT24 (show 0 ≤ 0 by omega) (show 0 ≤ 1 by omega)
    have hFU25 : FR md_mo_phraseMeant S U25 := by rw [eU25]; exact FR.wI hFT24 (mdf_i (r := (970, 971, 0, 100000)) (List.mem_of_getElem? (i := 13) rfl) (inR_i (by omega) (by omega) (by omega) (by omega)))
    have w423 : Xi U25 970 ((q).toNat) = 0 := by rw [eU25]; exact Xi_same (by unfold rg; omega)
    refine l_return rfl rfl ?_
    have w424 : Xi U25 971 (q).toNat = Xi T24 971 (q).toNat := (show Xi U25 971 (q).toNat = Xi T24 971 (q).toNat from by rw [eU25]; exact Xi_ne (by omega))
    have w425 : Xi U25 972 (q).toNat = Xi T24 972 (q).toNat := (show Xi U25 972 (q).toNat = Xi T24 972 (q).toNat from by rw [eU25]; exact Xi_ne (by omega))
    have w426 : Xi U25 973 (q).toNat = Xi T24 973 (q).toNat := (show Xi U25 973 (q).toNat = Xi T24 973 (q).toNat from by rw [eU25]; exact Xi_ne (by omega))
    have w427 : Xi U25 974 (q).toNat = Xi T24 974 (q).toNat := (show Xi U25 974 (q).toNat = Xi T24 974 (q).toNat from by rw [eU25]; exact Xi_ne (by omega))
    have w428 : Xi U25 975 (q).toNat = Xi T24 975 (q).toNat := (show Xi U25 975 (q).toNat = Xi T24 975 (q).toNat from by rw [eU25]; exact Xi_ne (by omega))
    have w429 : Xi U25 976 (p).toNat = Xi T24 976 (p).toNat := (show Xi U25 976 (p).toNat = Xi T24 976 (p).toNat from by rw [eU25]; exact Xi_ne (by omega))
    have w430 : Xi U25 977 (p).toNat = Xi T24 977 (p).toNat := (show Xi U25 977 (p).toNat = Xi T24 977 (p).toNat from by rw [eU25]; exact Xi_ne (by omega))
    have w431 : Xi U25 904 106 = Xi T24 904 106 := (show Xi U25 904 106 = Xi T24 904 106 from by rw [eU25]; exact Xi_ne (by omega))
    have w433 : Xi U25 904 115 = Xi T24 904 115 := (show Xi U25 904 115 = Xi T24 904 115 from by rw [eU25]; exact Xi_ne (by omega))
    have w435 : Xi U25 904 128 = Xi T24 904 128 := (show Xi U25 904 128 = Xi T24 904 128 from by rw [eU25]; exact Xi_ne (by omega))
    have w436 : 0 ≤ Xi T24 904 128 ∧ Xi T24 904 128 ≤ 11 := hHT24.c _ _
    have w437 : Xi U25 904 129 = Xi T24 904 129 := (show Xi U25 904 129 = Xi T24 904 129 from by rw [eU25]; exact Xi_ne (by omega))
    have w438 : -1 ≤ Xi T24 904 129 ∧ Xi T24 904 129 ≤ 23 := hHT24.c _ _
    have w439 : Xi U25 904 69 = Xi T24 904 69 := (show Xi U25 904 69 = Xi T24 904 69 from by rw [eU25]; exact Xi_ne (by omega))
    exact ⟨hHU25, hFU25, rfl, (by omega), (by first | exact (fun _ x0 => pq_i (q := (q).toNat) (w := 0) (pqt_0 (by omega)) (by omega) (by omega) (by omega)) o42 | exact (fun _ x0 => pq_i (q := (q).toNat) (w := 1) (pqt_1 ⟨(t120 (by omega)).mono (fun y => absurd y (by omega)) (fun y => by omega), (n120 (by omega) rfl).1, (n120 (by omega) rfl).2⟩) (by omega) (by omega) (by omega)) t120 | exact (fun _ x0 => pq_i (q := (q).toNat) (w := 2) (pqt_2 (thk_c (H210 (by omega)) (hFU25.x 904 19 rfl) (by omega)) (thk_c (th230 (by omega)) (hFU25.x 904 19 rfl) (by omega))) (by omega) (by omega) (by omega)) th230 | exact (fun _ x0 => pq_i (q := (q).toNat) (w := Xi U25 976 (p).toNat) (pqt_3 (by omega) (thk_c (th277 (by omega)) (hFU25.x 904 19 rfl) (by omega)) (by have a := hFU25.x 904 32 rfl; omega) (by rw [(hFU25.cx 928 rfl _).1, show Xi U25 972 (q).toNat = rnR S (Xi S 956 (Xi S 964 (i).toNat).toNat) 7 from by have t := p300 (by omega); omega]; have t := n312 (by omega); omega)) (by omega) (by omega) (by omega)) th277 | exact (fun _ x0 => pq_i (q := (q).toNat) (w := 5) (pqt_5 (by have a := hFU25.x 904 49 rfl; have t := (Z537 (by omega)).1; omega) (fun y => (by by_cases c : Xi S 953 (Xi S 964 (i).toNat).toNat = 0; exact Or.inl (by have t := (Z537 (by omega)).2.1 c (by omega); have a := hFU25.x 904 19 rfl; omega); exact thk_c (Y537 (by omega) c) (hFU25.x 904 19 rfl) (by omega))) (fun y => by rw [(hFU25.cx 942 rfl _).1, show Xi U25 972 (q).toNat = Xi T24 972 (q).toNat by omega]; exact (Z537 (by omega)).2.2 (by omega) (by omega))) (by omega) (by omega) (by omega)) Z537 | exact fun x => pq_i (q := (q).toNat) (w := 6) pqt_6 (by omega) (by omega) (by omega) | exact fun x => absurd x (by omega)), ((KQ.w (by assumption : KQ T24 S _) eU25 (by omega))), ((KH_FR (FR_e eU25) rfl (by assumption : KH T24 _ _))), (by omega)⟩
  · refine l_aload_n rfl rfl ?_
    refine l_gfr rfl rfl rfl rfl rfl (hHT24.r 904 83 953 rfl) ?_
    refine l_iload rfl rfl ?_
    refine l_baload (n := 1700) rfl rfl rfl (by decide) (by omega) (by omega) (by unfold rg; omega) ?_
    have w441 : 0 ≤ (Xi T24 953 ((v4).toNat)) ∧ (Xi T24 953 ((v4).toNat)) ≤ 1 := hHT24.c _ _
    have e558 : (Xi T24 953 ((v4).toNat)) = Xi S 953 (Xi S 964 (i).toNat).toNat := by first | rfl | exact (hFT24.cx 953 rfl _).1 | exact (hFT24.cx 953 rfl _).1 | (rw [(hFT24.cx 953 rfl _).1]; exact congrArg (fun t : Int => Xi S 953 t.toNat) (by omega)) | (rw [(hFT24.cx 953 rfl _).1]; exact congrArg (fun t : Int => Xi S 953 t.toNat) (by omega)) | (rw [(hFT24.cx 953 rfl _).1]; exact congrArg (fun t : Int => Xi S 953 t.toNat) (by omega)) | (rw [(hFT24.cx 953 rfl _).1]; exact congrArg (fun t : Int => Xi S 953 t.toNat) (by omega))
    refine l_if_ne rfl rfl (by unfold rg; omega) (fun w442 => ?_) (fun w443 => ?_)
    · refine l_iconst rfl ?_
      refine l_bastoreZ1 (n := 2400) rfl rfl (by omega) (by omega) (by unfold rg; omega) ⟨by omega, by omega⟩ ?_
      obtain ⟨U26, eU26⟩ : ∃ T : sS, T = uI T24 970 ((q).toNat) (Int32.ofInt 0) := ⟨_, rfl⟩
      rw [← eU26]
      have hHU26 : HI U26 := by rw [eU26]; exact HI_w hHT24 (show 0 ≤ 0 by omega) (show 0 ≤ 1 by omega)
      have hFU26 : FR md_mo_phraseMeant S U26 := by rw [eU26]; exact FR.wI hFT24 (mdf_i (r := (970, 971, 0, 100000)) (List.mem_of_getElem? (i := 13) rfl) (inR_i (by omega) (by omega) (by omega) (by omega)))
      have w444 : Xi U26 970 ((q).toNat) = 0 := by rw [eU26]; exact Xi_same (by unfold rg; omega)
      refine l_return rfl rfl ?_
      have w445 : Xi U26 971 (q).toNat = Xi T24 971 (q).toNat := (show Xi U26 971 (q).toNat = Xi T24 971 (q).toNat from by rw [eU26]; exact Xi_ne (by omega))
      have w446 : Xi U26 972 (q).toNat = Xi T24 972 (q).toNat := (show Xi U26 972 (q).toNat = Xi T24 972 (q).toNat from by rw [eU26]; exact Xi_ne (by omega))
      have w447 : Xi U26 973 (q).toNat = Xi T24 973 (q).toNat := (show Xi U26 973 (q).toNat = Xi T24 973 (q).toNat from by rw [eU26]; exact Xi_ne (by omega))
      have w448 : Xi U26 974 (q).toNat = Xi T24 974 (q).toNat := (show Xi U26 974 (q).toNat = Xi T24 974 (q).toNat from by rw [eU26]; exact Xi_ne (by omega))
      have w449 : Xi U26 975 (q).toNat = Xi T24 975 (q).toNat := (show Xi U26 975 (q).toNat = Xi T24 975 (q).toNat from by rw [eU26]; exact Xi_ne (by omega))
      have w450 : Xi U26 976 (p).toNat = Xi T24 976 (p).toNat := (show Xi U26 976 (p).toNat = Xi T24 976 (p).toNat from by rw [eU26]; exact Xi_ne (by omega))
      have w451 : Xi U26 977 (p).toNat = Xi T24 977 (p).toNat := (show Xi U26 977 (p).toNat = Xi T24 977 (p).toNat from by rw [eU26]; exact Xi_ne (by omega))
      have w452 : Xi U26 904 106 = Xi T24 904 106 := (show Xi U26 904 106 = Xi T24 904 106 from by rw [eU26]; exact Xi_ne (by omega))
      have w454 : Xi U26 904 115 = Xi T24 904 115 := (show Xi U26 904 115 = Xi T24 904 115 from by rw [eU26]; exact Xi_ne (by omega))
      have w456 : Xi U26 904 128 = Xi T24 904 128 := (show Xi U26 904 128 = Xi T24 904 128 from by rw [eU26]; exact Xi_ne (by omega))
      have w457 : 0 ≤ Xi T24 904 128 ∧ Xi T24 904 128 ≤ 11 := hHT24.c _ _
      have w458 : Xi U26 904 129 = Xi T24 904 129 := (show Xi U26 904 129 = Xi T24 904 129 from by rw [eU26]; exact Xi_ne (by omega))
      have w459 : -1 ≤ Xi T24 904 129 ∧ Xi T24 904 129 ≤ 23 := hHT24.c _ _
      have w460 : Xi U26 904 69 = Xi T24 904 69 := (show Xi U26 904 69 = Xi T24 904 69 from by rw [eU26]; exact Xi_ne (by omega))
      exact ⟨hHU26, hFU26, rfl, (by omega), (by first | exact (fun _ x0 => pq_i (q := (q).toNat) (w := 0) (pqt_0 (by omega)) (by omega) (by omega) (by omega)) o42 | exact (fun _ x0 => pq_i (q := (q).toNat) (w := 1) (pqt_1 ⟨(t120 (by omega)).mono (fun y => absurd y (by omega)) (fun y => by omega), (n120 (by omega) rfl).1, (n120 (by omega) rfl).2⟩) (by omega) (by omega) (by omega)) t120 | exact (fun _ x0 => pq_i (q := (q).toNat) (w := 2) (pqt_2 (thk_c (H210 (by omega)) (hFU26.x 904 19 rfl) (by omega)) (thk_c (th230 (by omega)) (hFU26.x 904 19 rfl) (by omega))) (by omega) (by omega) (by omega)) th230 | exact (fun _ x0 => pq_i (q := (q).toNat) (w := Xi U26 976 (p).toNat) (pqt_3 (by omega) (thk_c (th277 (by omega)) (hFU26.x 904 19 rfl) (by omega)) (by have a := hFU26.x 904 32 rfl; omega) (by rw [(hFU26.cx 928 rfl _).1, show Xi U26 972 (q).toNat = rnR S (Xi S 956 (Xi S 964 (i).toNat).toNat) 7 from by have t := p300 (by omega); omega]; have t := n312 (by omega); omega)) (by omega) (by omega) (by omega)) th277 | exact (fun _ x0 => pq_i (q := (q).toNat) (w := 5) (pqt_5 (by have a := hFU26.x 904 49 rfl; have t := (Z537 (by omega)).1; omega) (fun y => (by by_cases c : Xi S 953 (Xi S 964 (i).toNat).toNat = 0; exact Or.inl (by have t := (Z537 (by omega)).2.1 c (by omega); have a := hFU26.x 904 19 rfl; omega); exact thk_c (Y537 (by omega) c) (hFU26.x 904 19 rfl) (by omega))) (fun y => by rw [(hFU26.cx 942 rfl _).1, show Xi U26 972 (q).toNat = Xi T24 972 (q).toNat by omega]; exact (Z537 (by omega)).2.2 (by omega) (by omega))) (by omega) (by omega) (by omega)) Z537 | exact fun x => pq_i (q := (q).toNat) (w := 6) pqt_6 (by omega) (by omega) (by omega) | exact fun x => absurd x (by omega)), ((KQ.w (by assumption : KQ T24 S _) eU26 (by omega))), ((KH_FR (FR_e eU26) rfl (by assumption : KH T24 _ _))), (by omega)⟩
    · refine l_iconst rfl ?_
      refine l_goto rfl rfl ?_
      refine l_bastoreZ1 (n := 2400) rfl rfl (by omega) (by omega) (by unfold rg; omega) ⟨by omega, by omega⟩ ?_
      obtain ⟨U27, eU27⟩ : ∃ T : sS, T = uI T24 970 ((q).toNat) (Int32.ofInt 1) := ⟨_, rfl⟩
      rw [← eU27]
      have hHU27 : HI U27 := by rw [eU27]; exact HI_w hHT24 (show 0 ≤ 1 by omega) (show 1 ≤ 1 by omega)
      have hFU27 : FR md_mo_phraseMeant S U27 := by rw [eU27]; exact FR.wI hFT24 (mdf_i (r := (970, 971, 0, 100000)) (List.mem_of_getElem? (i := 13) rfl) (inR_i (by omega) (by omega) (by omega) (by omega)))
      have w462 : Xi U27 970 ((q).toNat) = 1 := by rw [eU27]; exact Xi_same (by unfold rg; omega)
      refine l_return rfl rfl ?_
      have w463 : Xi U27 971 (q).toNat = Xi T24 971 (q).toNat := (show Xi U27 971 (q).toNat = Xi T24 971 (q).toNat from by rw [eU27]; exact Xi_ne (by omega))
      have w464 : Xi U27 972 (q).toNat = Xi T24 972 (q).toNat := (show Xi U27 972 (q).toNat = Xi T24 972 (q).toNat from by rw [eU27]; exact Xi_ne (by omega))
      have w465 : Xi U27 973 (q).toNat = Xi T24 973 (q).toNat := (show Xi U27 973 (q).toNat = Xi T24 973 (q).toNat from by rw [eU27]; exact Xi_ne (by omega))
      have w466 : Xi U27 974 (q).toNat = Xi T24 974 (q).toNat := (show Xi U27 974 (q).toNat = Xi T24 974 (q).toNat from by rw [eU27]; exact Xi_ne (by omega))
      have w467 : Xi U27 975 (q).toNat = Xi T24 975 (q).toNat := (show Xi U27 975 (q).toNat = Xi T24 975 (q).toNat from by rw [eU27]; exact Xi_ne (by omega))
      have w468 : Xi U27 976 (p).toNat = Xi T24 976 (p).toNat := (show Xi U27 976 (p).toNat = Xi T24 976 (p).toNat from by rw [eU27]; exact Xi_ne (by omega))
      have w469 : Xi U27 977 (p).toNat = Xi T24 977 (p).toNat := (show Xi U27 977 (p).toNat = Xi T24 977 (p).toNat from by rw [eU27]; exact Xi_ne (by omega))
      have w470 : Xi U27 904 106 = Xi T24 904 106 := (show Xi U27 904 106 = Xi T24 904 106 from by rw [eU27]; exact Xi_ne (by omega))
      have w472 : Xi U27 904 115 = Xi T24 904 115 := (show Xi U27 904 115 = Xi T24 904 115 from by rw [eU27]; exact Xi_ne (by omega))
      have w474 : Xi U27 904 128 = Xi T24 904 128 := (show Xi U27 904 128 = Xi T24 904 128 from by rw [eU27]; exact Xi_ne (by omega))
      have w475 : 0 ≤ Xi T24 904 128 ∧ Xi T24 904 128 ≤ 11 := hHT24.c _ _
      have w476 : Xi U27 904 129 = Xi T24 904 129 := (show Xi U27 904 129 = Xi T24 904 129 from by rw [eU27]; exact Xi_ne (by omega))
      have w477 : -1 ≤ Xi T24 904 129 ∧ Xi T24 904 129 ≤ 23 := hHT24.c _ _
      have w478 : Xi U27 904 69 = Xi T24 904 69 := (show Xi U27 904 69 = Xi T24 904 69 from by rw [eU27]; exact Xi_ne (by omega))
      exact ⟨hHU27, hFU27, rfl, (by omega), (by first | exact (fun _ x0 => pq_i (q := (q).toNat) (w := 0) (pqt_0 (by omega)) (by omega) (by omega) (by omega)) o42 | exact (fun _ x0 => pq_i (q := (q).toNat) (w := 1) (pqt_1 ⟨(t120 (by omega)).mono (fun y => absurd y (by omega)) (fun y => by omega), (n120 (by omega) rfl).1, (n120 (by omega) rfl).2⟩) (by omega) (by omega) (by omega)) t120 | exact (fun _ x0 => pq_i (q := (q).toNat) (w := 2) (pqt_2 (thk_c (H210 (by omega)) (hFU27.x 904 19 rfl) (by omega)) (thk_c (th230 (by omega)) (hFU27.x 904 19 rfl) (by omega))) (by omega) (by omega) (by omega)) th230 | exact (fun _ x0 => pq_i (q := (q).toNat) (w := Xi U27 976 (p).toNat) (pqt_3 (by omega) (thk_c (th277 (by omega)) (hFU27.x 904 19 rfl) (by omega)) (by have a := hFU27.x 904 32 rfl; omega) (by rw [(hFU27.cx 928 rfl _).1, show Xi U27 972 (q).toNat = rnR S (Xi S 956 (Xi S 964 (i).toNat).toNat) 7 from by have t := p300 (by omega); omega]; have t := n312 (by omega); omega)) (by omega) (by omega) (by omega)) th277 | exact (fun _ x0 => pq_i (q := (q).toNat) (w := 5) (pqt_5 (by have a := hFU27.x 904 49 rfl; have t := (Z537 (by omega)).1; omega) (fun y => (by by_cases c : Xi S 953 (Xi S 964 (i).toNat).toNat = 0; exact Or.inl (by have t := (Z537 (by omega)).2.1 c (by omega); have a := hFU27.x 904 19 rfl; omega); exact thk_c (Y537 (by omega) c) (hFU27.x 904 19 rfl) (by omega))) (fun y => by rw [(hFU27.cx 942 rfl _).1, show Xi U27 972 (q).toNat = Xi T24 972 (q).toNat by omega]; exact (Z537 (by omega)).2.2 (by omega) (by omega))) (by omega) (by omega) (by omega)) Z537 | exact fun x => pq_i (q := (q).toNat) (w := 6) pqt_6 (by omega) (by omega) (by omega) | exact fun x => absurd x (by omega)), ((KQ.w (by assumption : KQ T24 S _) eU27 (by omega))), ((KH_FR (FR_e eU27) rfl (by assumption : KH T24 _ _))), (by omega)⟩
set_option maxRecDepth 100000 in
set_option maxHeartbeats 16000000 in
theorem c409_mo_phraseMeant {S : sS} (hH : HI S) (n : Nat) (i : Int) (q : Int) (p : Int) (hi : 0 ≤ i ∧ i ≤ 1699) (hq : 0 ≤ q ∧ q ≤ 2399) (hp : 0 ≤ p ∧ p ≤ 1999) (hT : TK S n) (hv : RNV S n) (hM : LXM S) (hB : ABV S) (hC : DCM S) (hK : TXK S n) (hX : TXM S) (hit : Xi S 904 115 = -1) (hpv : PV S n i.toNat) (h64 : Xi S 964 i.toNat ≤ 1699) (d : Nat) : ∀  (T28 : sS) (_ : HI T28) (_ : FR md_mo_phraseMeant S T28) (v4 : Int) (v6 : Int), (0 ≤ v4 ∧ v4 ≤ 1699) → (-1 ≤ v6 ∧ v6 ≤ 11) → (KQ T28 S q) → (KH T28 S p) → (Xi T28 976 (p).toNat = 5) → (Xi T28 977 (p).toNat = q) → (Xi S 904 106 ≠ 0 → Xi T28 904 106 ≠ 0) → (Xi T28 904 69 = Xi S 904 69) → (Xi T28 904 115 = -1) → (v4 = Xi S 964 (i).toNat) → (Xi S 963 (i).toNat = 5) → (Xi S 953 (Xi S 964 (i).toNat).toNat ≠ 0) → (v6 ≠ -1 → v6 < Xi S 904 49) → (Xi T28 904 106 = 0 → v6 ≠ -1) → Rl lay0 (d + 7) m_mo_phraseMeant 409 [(0, .ref 904), (2, iv q), (4, iv v4), (6, iv v6)] [] T28 (Q_mo_phraseMeant S n i q p) := by
  have C537 := c537_mo_phraseMeant hH n i q p hi hq hp hT hv hM hB hC hK hX hit hpv h64 d 
  have hF : FR md_mo_phraseMeant S S := FR.rf
  have w1 : 0 ≤ Xi S 904 106 ∧ Xi S 904 106 ≤ 9 := hH.c _ _
  have w2 : -1 ≤ Xi S 904 115 ∧ Xi S 904 115 ≤ 15 := hH.c _ _
  have w3 : -1 ≤ Xi S 904 116 ∧ Xi S 904 116 ≤ 15 := hH.c _ _
  have w4 : 0 ≤ Xi S 904 128 ∧ Xi S 904 128 ≤ 11 := hH.c _ _
  have w5 : -1 ≤ Xi S 904 129 ∧ Xi S 904 129 ≤ 23 := hH.c _ _
  have w6 : 0 ≤ Xi S 904 19 ∧ Xi S 904 19 ≤ 24 := hH.c _ _
  have w7 : 0 ≤ Xi S 904 49 ∧ Xi S 904 49 ≤ 12 := hH.c _ _
  have w8 : 0 ≤ Xi S 904 69 ∧ Xi S 904 69 ≤ 2600 := hH.c _ _
  have hn5 := hT.1
  have hc69 : 0 ≤ Xi S 904 69 ∧ Xi S 904 69 ≤ 2600 := hH.c _ _
  have hc19 : 0 ≤ Xi S 904 19 ∧ Xi S 904 19 ≤ 24 := hH.c _ _
  have hc32 : 0 ≤ Xi S 904 32 ∧ Xi S 904 32 ≤ 12 := hH.c _ _
  have hc49 : 0 ≤ Xi S 904 49 ∧ Xi S 904 49 ≤ 12 := hH.c _ _
  have h963 : 0 ≤ Xi S 963 (i).toNat ∧ Xi S 963 (i).toNat ≤ 6 := hH.c 963 _
  have h964 : 0 ≤ Xi S 964 (i).toNat := (hH.c 964 (i).toNat).1
  have hp : PVt S n (Xi S 963 (i).toNat) (Xi S 964 (i).toNat).toNat := hpv
  have hrf : ∀ r : Int, 0 ≤ r → r < Xi S 904 69 → Xi S 950 r.toNat + Xi S 951 r.toNat ≤ n ∧ 1 ≤ Xi S 951 r.toNat := fun r a b => hv r.toNat (by omega)
  have h956 : 0 ≤ Xi S 956 (Xi S 964 (i).toNat).toNat := (hH.c 956 _).1
  intro T28 hHT28 hFT28 v4 v6 w480 w481 K409 P409 w482 w483 w484 w485 w486 w487 w488 w489 w490 w491
  have w492 : Xi T28 904 115 = Xi S 904 115 := hFT28.x _ _ rfl
  have w493 : Xi T28 904 116 = Xi S 904 116 := hFT28.x _ _ rfl
  have w494 : Xi T28 904 19 = Xi S 904 19 := hFT28.x _ _ rfl
  have w495 : Xi T28 904 32 = Xi S 904 32 := hFT28.x _ _ rfl
  have w496 : Xi T28 904 49 = Xi S 904 49 := hFT28.x _ _ rfl
  have w497 : Xi T28 904 69 = Xi S 904 69 := hFT28.x _ _ rfl
  have w498 : 0 ≤ Xi T28 904 106 ∧ Xi T28 904 106 ≤ 9 := hHT28.c _ _
  have w499 : -1 ≤ Xi T28 904 115 ∧ Xi T28 904 115 ≤ 15 := hHT28.c _ _
  have w500 : 0 ≤ Xi T28 904 69 ∧ Xi T28 904 69 ≤ 2600 := hHT28.c _ _
  refine l_aload_n rfl rfl ?_
  refine l_gfr rfl rfl rfl rfl rfl (hHT28.r 904 121 972 rfl) ?_
  refine l_iload_n rfl rfl ?_
  refine l_iload rfl rfl ?_
  refine l_iastore (n := 2400) rfl rfl (by omega) (by omega) (by unfold rg; omega) ?_
  obtain ⟨U29, eU29⟩ : ∃ T : sS, T = uI T28 972 ((q).toNat) (Int32.ofInt v6) := ⟨_, rfl⟩
  rw [← eU29]
  have hHU29 : HI U29 := by rw [eU29]; exact HI_w hHT28 (show -1 ≤ v6 by omega) (show v6 ≤ 11 by omega)
  have hFU29 : FR md_mo_phraseMeant S U29 := by rw [eU29]; exact FR.wI hFT28 (mdf_i (r := (972, 973, 0, 100000)) (List.mem_of_getElem? (i := 15) rfl) (inR_i (by omega) (by omega) (by omega) (by omega)))
  have w501 : Xi U29 972 ((q).toNat) = v6 := by rw [eU29]; exact Xi_same (by unfold rg; omega)
  refine l_aload_n rfl rfl ?_
  refine l_gfr rfl rfl rfl rfl rfl (hHU29.r 904 120 971 rfl) ?_
  refine l_iload_n rfl rfl ?_
  refine l_aload_n rfl rfl ?_
  refine l_aload_n rfl rfl ?_
  refine l_gfr rfl rfl rfl rfl rfl (hHU29.r 904 84 954 rfl) ?_
  refine l_iload rfl rfl ?_
  refine l_iaload (n := 1700) rfl rfl (by omega) (by omega) (by unfold rg; omega) ?_
  have w502 : 0 ≤ (Xi U29 954 ((v4).toNat)) ∧ (Xi U29 954 ((v4).toNat)) ≤ 25010 := hHU29.c _ _
  have e429 : (Xi U29 954 ((v4).toNat)) = Xi S 954 (Xi S 964 (i).toNat).toNat := by first | rfl | exact (hFU29.cx 954 rfl _).1 | exact (hFU29.cx 954 rfl _).1 | (rw [(hFU29.cx 954 rfl _).1]; exact congrArg (fun t : Int => Xi S 954 t.toNat) (by omega)) | (rw [(hFU29.cx 954 rfl _).1]; exact congrArg (fun t : Int => Xi S 954 t.toNat) (by omega)) | (rw [(hFT28.cx 954 rfl _).1]; exact congrArg (fun t : Int => Xi S 954 t.toNat) (by omega)) | (rw [(hFT28.cx 954 rfl _).1]; exact congrArg (fun t : Int => Xi S 954 t.toNat) (by omega))
  refine l_aload_n rfl rfl ?_
  refine l_gfr rfl rfl rfl rfl rfl (hHU29.r 904 85 955 rfl) ?_
  refine l_iload rfl rfl ?_
  refine l_iaload (n := 1700) rfl rfl (by omega) (by omega) (by unfold rg; omega) ?_
  have w503 : 0 ≤ (Xi U29 955 ((v4).toNat)) ∧ (Xi U29 955 ((v4).toNat)) ≤ 2600 := hHU29.c _ _
  have e436 : (Xi U29 955 ((v4).toNat)) = Xi S 955 (Xi S 964 (i).toNat).toNat := by first | rfl | exact (hFU29.cx 955 rfl _).1 | exact (hFU29.cx 955 rfl _).1 | (rw [(hFU29.cx 955 rfl _).1]; exact congrArg (fun t : Int => Xi S 955 t.toNat) (by omega)) | (rw [(hFU29.cx 955 rfl _).1]; exact congrArg (fun t : Int => Xi S 955 t.toNat) (by omega)) | (rw [(hFT28.cx 955 rfl _).1]; exact congrArg (fun t : Int => Xi S 955 t.toNat) (by omega)) | (rw [(hFT28.cx 955 rfl _).1]; exact congrArg (fun t : Int => Xi S 955 t.toNat) (by omega))
  have q436 := q_thv (hp.2.2.2.2.2.2 (by omega) (by omega)) e429 e436 (hFU29.x 904 69 rfl) hn5
  have w504 : Xi U29 904 106 = Xi T28 904 106 := (show Xi U29 904 106 = Xi T28 904 106 from by rw [eU29]; exact Xi_ne (by omega))
  have w506 : Xi U29 904 115 = Xi T28 904 115 := (show Xi U29 904 115 = Xi T28 904 115 from by rw [eU29]; exact Xi_ne (by omega))
  have w508 : Xi U29 904 128 = Xi T28 904 128 := (show Xi U29 904 128 = Xi T28 904 128 from by rw [eU29]; exact Xi_ne (by omega))
  have w509 : 0 ≤ Xi T28 904 128 ∧ Xi T28 904 128 ≤ 11 := hHT28.c _ _
  have w510 : Xi U29 904 129 = Xi T28 904 129 := (show Xi U29 904 129 = Xi T28 904 129 from by rw [eU29]; exact Xi_ne (by omega))
  have w511 : -1 ≤ Xi T28 904 129 ∧ Xi T28 904 129 ≤ 23 := hHT28.c _ _
  have w512 : Xi U29 904 19 = Xi T28 904 19 := (show Xi U29 904 19 = Xi T28 904 19 from by rw [eU29]; exact Xi_ne (by omega))
  have w513 : 0 ≤ Xi T28 904 19 ∧ Xi T28 904 19 ≤ 24 := hHT28.c _ _
  have w514 : Xi U29 904 69 = Xi T28 904 69 := (show Xi U29 904 69 = Xi T28 904 69 from by rw [eU29]; exact Xi_ne (by omega))
  refine l_callV rfl rfl rfl (t_mo_meant hHU29 n (Xi U29 954 ((v4).toNat)) (Xi U29 955 ((v4).toNat)) ⟨by omega, by omega⟩ ⟨by omega, by omega⟩ (by first | assumption | exact (TK_FR hFU29 rfl (by assumption : TK S _))) (by first | assumption | exact (RNV_FR hFU29 rfl (by assumption : RNV S _))) (by first | exact q436.1 | exact q276.1 | exact q229.1 | exact q155.1) (by first | exact q436.2 | exact q276.2 | exact q229.2 | exact q155.2) (by first | assumption | exact (LXM_FR hFU29 rfl (by assumption : LXM S))) _) ?_
  rintro _ T30 ⟨hHT30, w519, z518, rfl, w518, p437, i437, j437, w516, w517⟩
  have hFT30 : FR md_mo_phraseMeant S T30 := FR.tr hFU29 w519 rfl
  show Rl _ _ _ _ _ [iv z518, iv q, .ref 971] _ _
  have th437 : z518 ≠ -9 → thK S False (0 ≤ Xi S 904 116) z518 := fun x => by unfold thK; have a := hFU29.x 904 19 rfl; have b := hFT30.x 904 115 rfl; have c := hFT30.x 904 116 rfl; omega
  have m437 : z518 ≠ -9 → -2 ≤ z518 := by omega
  clear p437 i437 j437
  refine l_iastore (n := 2400) rfl rfl (by omega) (by omega) (by unfold rg; omega) ?_
  obtain ⟨U31, eU31⟩ : ∃ T : sS, T = uI T30 971 ((q).toNat) (Int32.ofInt z518) := ⟨_, rfl⟩
  rw [← eU31]
  have hHU31 : HI U31 := by rw [eU31]; exact HI_w hHT30 (show -9 ≤ z518 by omega) (show z518 ≤ 23 by omega)
  have hFU31 : FR md_mo_phraseMeant S U31 := by rw [eU31]; exact FR.wI hFT30 (mdf_i (r := (971, 972, 0, 100000)) (List.mem_of_getElem? (i := 14) rfl) (inR_i (by omega) (by omega) (by omega) (by omega)))
  have w520 : Xi U31 971 ((q).toNat) = z518 := by rw [eU31]; exact Xi_same (by unfold rg; omega)
  refine l_goto rfl rfl ?_
  have w521 : Xi U31 970 (q).toNat = Xi T28 970 (q).toNat := (show Xi U31 970 (q).toNat = Xi T30 970 (q).toNat from by rw [eU31]; exact Xi_ne (by omega)).trans ( (show Xi T30 970 (q).toNat = Xi U29 970 (q).toNat from (w519.cx 970 rfl _).1).trans ((show Xi U29 970 (q).toNat = Xi T28 970 (q).toNat from by rw [eU29]; exact Xi_ne (by omega))))
  have w522 : Xi U31 972 (q).toNat = Xi U29 972 (q).toNat := (show Xi U31 972 (q).toNat = Xi T30 972 (q).toNat from by rw [eU31]; exact Xi_ne (by omega)).trans ((show Xi T30 972 (q).toNat = Xi U29 972 (q).toNat from (w519.cx 972 rfl _).1))
  have w523 : Xi U31 973 (q).toNat = Xi T28 973 (q).toNat := (show Xi U31 973 (q).toNat = Xi T30 973 (q).toNat from by rw [eU31]; exact Xi_ne (by omega)).trans ( (show Xi T30 973 (q).toNat = Xi U29 973 (q).toNat from (w519.cx 973 rfl _).1).trans ((show Xi U29 973 (q).toNat = Xi T28 973 (q).toNat from by rw [eU29]; exact Xi_ne (by omega))))
  have w524 : Xi U31 974 (q).toNat = Xi T28 974 (q).toNat := (show Xi U31 974 (q).toNat = Xi T30 974 (q).toNat from by rw [eU31]; exact Xi_ne (by omega)).trans ( (show Xi T30 974 (q).toNat = Xi U29 974 (q).toNat from (w519.cx 974 rfl _).1).trans ((show Xi U29 974 (q).toNat = Xi T28 974 (q).toNat from by rw [eU29]; exact Xi_ne (by omega))))
  have w525 : Xi U31 975 (q).toNat = Xi T28 975 (q).toNat := (show Xi U31 975 (q).toNat = Xi T30 975 (q).toNat from by rw [eU31]; exact Xi_ne (by omega)).trans ( (show Xi T30 975 (q).toNat = Xi U29 975 (q).toNat from (w519.cx 975 rfl _).1).trans ((show Xi U29 975 (q).toNat = Xi T28 975 (q).toNat from by rw [eU29]; exact Xi_ne (by omega))))
  have w526 : Xi U31 976 (p).toNat = Xi T28 976 (p).toNat := (show Xi U31 976 (p).toNat = Xi T30 976 (p).toNat from by rw [eU31]; exact Xi_ne (by omega)).trans ( (show Xi T30 976 (p).toNat = Xi U29 976 (p).toNat from (w519.cx 976 rfl _).1).trans ((show Xi U29 976 (p).toNat = Xi T28 976 (p).toNat from by rw [eU29]; exact Xi_ne (by omega))))
  have w527 : Xi U31 977 (p).toNat = Xi T28 977 (p).toNat := (show Xi U31 977 (p).toNat = Xi T30 977 (p).toNat from by rw [eU31]; exact Xi_ne (by omega)).trans ( (show Xi T30 977 (p).toNat = Xi U29 977 (p).toNat from (w519.cx 977 rfl _).1).trans ((show Xi U29 977 (p).toNat = Xi T28 977 (p).toNat from by rw [eU29]; exact Xi_ne (by omega))))
  have w528 : Xi U31 904 106 = Xi T30 904 106 := (show Xi U31 904 106 = Xi T30 904 106 from by rw [eU31]; exact Xi_ne (by omega))
  have w529 : 0 ≤ Xi T30 904 106 ∧ Xi T30 904 106 ≤ 9 := hHT30.c _ _
  have w530 : Xi U31 904 115 = Xi T28 904 115 := (show Xi U31 904 115 = Xi T30 904 115 from by rw [eU31]; exact Xi_ne (by omega)).trans ( (show Xi T30 904 115 = Xi U29 904 115 from w519.x _ _ rfl).trans ((show Xi U29 904 115 = Xi T28 904 115 from by rw [eU29]; exact Xi_ne (by omega))))
  have w532 : Xi U31 904 128 = Xi T28 904 128 := (show Xi U31 904 128 = Xi T30 904 128 from by rw [eU31]; exact Xi_ne (by omega)).trans ( (show Xi T30 904 128 = Xi U29 904 128 from w519.x _ _ rfl).trans ((show Xi U29 904 128 = Xi T28 904 128 from by rw [eU29]; exact Xi_ne (by omega))))
  have w534 : Xi U31 904 129 = Xi T28 904 129 := (show Xi U31 904 129 = Xi T30 904 129 from by rw [eU31]; exact Xi_ne (by omega)).trans ( (show Xi T30 904 129 = Xi U29 904 129 from w519.x _ _ rfl).trans ((show Xi U29 904 129 = Xi T28 904 129 from by rw [eU29]; exact Xi_ne (by omega))))
  have w536 : Xi U31 904 69 = Xi T28 904 69 := (show Xi U31 904 69 = Xi T30 904 69 from by rw [eU31]; exact Xi_ne (by omega)).trans ( (show Xi T30 904 69 = Xi U29 904 69 from w519.x _ _ rfl).trans ((show Xi U29 904 69 = Xi T28 904 69 from by rw [eU29]; exact Xi_ne (by omega))))
  exact Rl_weak (C537 U31 hHU31 hFU31 (v4) (by omega) ((KQ.w (KQ_FR w519 rfl (KQ.w (by assumption : KQ T28 S _) eU29 (by omega))) eU31 (by omega))) ((KH_FR (FR_e eU31) rfl (KH_FR w519 rfl (KH_FR (FR_e eU29) rfl (by assumption : KH T28 _ _))))) (by omega) (by omega) (by omega) (by omega) (by omega) (by omega) (by first | exact (fun _ x0 => ⟨by omega, fun y => absurd y (by omega), fun y => absurd y (by omega)⟩) q436 | exact (fun _ x0 => (by have t := A499 (by omega); refine ⟨by omega, fun _ y => by omega, fun _ y => ?_⟩; rw [show Xi U31 972 (q).toNat = Xi T28 904 128 by omega]; exact t.2.2 (by omega))) A499) (by first | exact (fun _ x0 => fun _ => thk_c (th437 (by omega)) rfl (by omega)) q436 | exact fun x y => absurd (by omega) y)) (And.intro rfl (And.intro rfl (And.intro rfl (True.intro))))



