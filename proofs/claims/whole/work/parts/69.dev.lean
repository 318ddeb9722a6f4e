/-! SAFETY of methods: printed by wip/safe (vc.py, decl.py) -/
/-! SAFETY of the reference: tests that were meant -/
theorem q_thv {m m2 : Int} {n : Nat} {td rn x y : Int} (h : THV m n td rn) (e1 : x = td) (e2 : y = rn) (e3 : m2 = m) (hn : n ≤ 5000) : (20000 ≤ x → 0 ≤ y ∧ y < m2) ∧ x % 10000 ≤ 5001 := by
  unfold THV at h
  refine ⟨fun q => ?_, by omega⟩
  have := h.2 (by omega)
  omega
theorem thk_c {S T : sS} {b c : Prop} {x y : Int} (h : thK S b c x) (e : Xi T 904 19 = Xi S 904 19) (e2 : y = x) : thK T b c y := by
  unfold thK at *
  rw [e, e2]
  exact h
theorem adx_c {S T : sS} {f a y : Int} (h : ADX S f a) (e1 : Xi T 904 23 = Xi S 904 23) (e2 : Xi T 904 32 = Xi S 904 32) (e : y = a) : ADM T y := by
  have t := h.1
  unfold ADM at *
  rw [e1, e2, e]
  exact t
theorem tq_5 {S : sS} {b c : Prop} {q : Nat} (h : Xi S 969 q = 5) (h1 : thK S b c (Xi S 971 q)) (h2 : thK S b c (Xi S 975 q)) (h3 : 0 ≤ Xi S 972 q ∧ Xi S 972 q ≤ 5) : TQ S b c q := ⟨h1, fun _ => ⟨h2, h3⟩, fun e => by omega, fun e => by omega, fun e => by omega⟩
theorem tq_3 {S : sS} {b c : Prop} {q : Nat} (h : Xi S 969 q = 3) (h1 : thK S b c (Xi S 971 q)) (h2 : ADM S (Xi S 973 q)) : TQ S b c q := ⟨h1, fun e => by omega, fun _ => h2, fun e => by omega, fun e => by omega⟩
theorem tq_4 {S : sS} {b c : Prop} {q : Nat} (h : Xi S 969 q = 4) (h1 : thK S b c (Xi S 971 q)) : TQ S b c q := ⟨h1, fun e => by omega, fun e => by omega, fun e => by omega, fun e => by omega⟩
theorem tq_2 {S : sS} {b c : Prop} {q : Nat} (h : Xi S 969 q ≤ 2) (h1 : thK S b c (Xi S 971 q)) (h2 : 0 ≤ Xi S 972 q ∧ Xi S 972 q < Xi S 904 32) (h3 : Xi S 969 q = 0 → OKT (Xi S 973 q) (Xi S 974 q)) : TQ S b c q := ⟨h1, fun e => by omega, fun e => by omega, fun _ => h2, h3⟩
/-- what phrases of the sort NOW may be -/
def NF (S : sS) (q : Nat) : Prop := (Xi S 969 q = 0 ∨ Xi S 969 q = 3 ∨ Xi S 969 q = 5) ∧ (Xi S 969 q = 3 → Xi S 973 q < 100 → Xi S 922 (Xi S 973 q).toNat ≠ -1)
/-- what may be told now -/
def NFX (S : sS) (w i : Int) : Prop := w = 1 → Xi S 952 i.toNat = 0 ∨ Xi S 952 i.toNat = 3 ∨ Xi S 952 i.toNat = 5
def md_mo_testMeant : List rec := [(904, 905, 64, 65), (904, 905, 104, 105), (904, 905, 105, 106), (904, 905, 106, 107), (904, 905, 113, 114), (969, 970, 0, 100000), (970, 971, 0, 100000), (971, 972, 0, 100000), (972, 973, 0, 100000), (973, 974, 0, 100000), (974, 975, 0, 100000), (975, 976, 0, 100000)]
abbrev Q_mo_testMeant (S : sS) (n : Nat) (i : Int) (q : Int) (isNow : Int) : pst := fun r S1 => HI S1 ∧ FR md_mo_testMeant S S1 ∧ (r = none ∧ (Xi S 904 106 ≠ 0 → Xi S1 904 106 ≠ 0) ∧ (Xi S1 904 106 = 0 → TQ S1 (0 ≤ Xi S 904 115) (0 ≤ Xi S 904 116) q.toNat) ∧ (Xi S1 904 106 = 0 → isNow = 1 → NF S1 q.toNat) ∧ (KQ S1 S q))
set_option maxRecDepth 100000 in
set_option maxHeartbeats 8000000 in
theorem t_mo_testMeant {S : sS} (hH : HI S) (n : Nat) (i : Int) (q : Int) (isNow : Int) (hi : 0 ≤ i ∧ i ≤ 1699) (hq : 0 ≤ q ∧ q ≤ 2399) (hisNow : 0 ≤ isNow ∧ isNow ≤ 1) (hT : TK S n) (hv : RNV S n) (hM : LXM S) (hB : ABV S) (hC : DCM S) (hK : TXK S n) (htv : TV S n i.toNat) (hnf : NFX S isNow i) (d : Nat) : Mt lay0 (d + 7) m_mo_testMeant [.ref 904, iv i, iv q, iv isNow] S (Q_mo_testMeant S n i q isNow) := by
  refine Mt_R rfl rfl ?_
  have hF : FR md_mo_testMeant S S := FR.rf
  have w1 : 0 ≤ Xi S 904 106 ∧ Xi S 904 106 ≤ 9 := hH.c _ _
  have w2 : -1 ≤ Xi S 904 113 ∧ Xi S 904 113 ≤ 6411 := hH.c _ _
  have w3 : -1 ≤ Xi S 904 115 ∧ Xi S 904 115 ≤ 15 := hH.c _ _
  have w4 : -1 ≤ Xi S 904 116 ∧ Xi S 904 116 ≤ 15 := hH.c _ _
  have w5 : 0 ≤ Xi S 904 69 ∧ Xi S 904 69 ≤ 2600 := hH.c _ _
  have hn5 := hT.1
  have hc69 : 0 ≤ Xi S 904 69 ∧ Xi S 904 69 ≤ 2600 := hH.c _ _
  have hc32 : 0 ≤ Xi S 904 32 ∧ Xi S 904 32 ≤ 12 := hH.c _ _
  have hc952 : 0 ≤ Xi S 952 i.toNat ∧ Xi S 952 i.toNat ≤ 5 := hH.c 952 _
  have hte := htv.1
  have hrf : ∀ r : Int, 0 ≤ r → r < Xi S 904 69 → Xi S 950 r.toNat + Xi S 951 r.toNat ≤ n ∧ 1 ≤ Xi S 951 r.toNat := fun r a b => hv r.toNat (by omega)
  have C94 : ∀  (T1 : sS) (_ : HI T1) (_ : FR md_mo_testMeant S T1), (Xi T1 969 (q).toNat = Xi S 952 i.toNat) → (Xi S 904 106 ≠ 0 → Xi T1 904 106 ≠ 0) → (Xi T1 904 69 = Xi S 904 69) → (KQ T1 S q) → (Xi S 952 i.toNat ≠ 5) → Rl lay0 (d + 6) m_mo_testMeant 94 [(0, .ref 904), (1, iv i), (2, iv q), (3, iv isNow)] [] T1 (Q_mo_testMeant S n i q isNow) := by
    intro T1 hHT1 hFT1 w6 w7 w8 K94 w9
    have w10 : Xi T1 904 115 = Xi S 904 115 := hFT1.x _ _ rfl
    have w11 : Xi T1 904 116 = Xi S 904 116 := hFT1.x _ _ rfl
    have w12 : Xi T1 904 19 = Xi S 904 19 := hFT1.x _ _ rfl
    have w13 : Xi T1 904 32 = Xi S 904 32 := hFT1.x _ _ rfl
    have w14 : Xi T1 904 69 = Xi S 904 69 := hFT1.x _ _ rfl
    have w15 : 0 ≤ Xi T1 904 106 ∧ Xi T1 904 106 ≤ 9 := hHT1.c _ _
    have w16 : 0 ≤ Xi T1 904 69 ∧ Xi T1 904 69 ≤ 2600 := hHT1.c _ _
    have C209 : ∀  (T2 : sS) (_ : HI T2) (_ : FR md_mo_testMeant S T2) (v5 : Int) (v6 : Int), (0 ≤ v5 ∧ v5 ≤ 2599) → (0 ≤ v6 ∧ v6 ≤ 12) → (v4 ≠ -9) → (0 ≤ v5 ∧ v5 < Xi S 904 69) → (Xi T2 971 (q).toNat = v4) → (Xi T2 969 (q).toNat = 3) → (Xi S 904 106 ≠ 0 → Xi T2 904 106 ≠ 0) → (thK S (0 ≤ Xi S 904 115) (0 ≤ Xi S 904 116) v4) → (Xi S 950 (v5).toNat + Xi S 951 (v5).toNat ≤ n ∧ 1 ≤ Xi S 951 (v5).toNat) → (1 ≤ v6 → ADX S (1 - isNow) (Xi T2 904 113)) → (KQ T2 S q) → Rl lay0 (d + 6) m_mo_testMeant 209 [(0, .ref 904), (2, iv q), (5, iv v5), (6, iv v6)] [] T2 (Q_mo_testMeant S n i q isNow) := by
      intro T2 hHT2 hFT2 v5 v6 w17 w18 w19 w20 w21 w22 w23 H209 G209 W209 K209
      have w24 : Xi T2 904 115 = Xi S 904 115 := hFT2.x _ _ rfl
      have w25 : Xi T2 904 116 = Xi S 904 116 := hFT2.x _ _ rfl
      have w26 : Xi T2 904 19 = Xi S 904 19 := hFT2.x _ _ rfl
      have w27 : Xi T2 904 32 = Xi S 904 32 := hFT2.x _ _ rfl
      have w28 : Xi T2 904 69 = Xi S 904 69 := hFT2.x _ _ rfl
      have w29 : 0 ≤ Xi T2 904 106 ∧ Xi T2 904 106 ≤ 9 := hHT2.c _ _
      have w30 : -1 ≤ Xi T2 904 113 ∧ Xi T2 904 113 ≤ 6411 := hHT2.c _ _
      refine l_aload_n rfl rfl ?_
      refine l_iload rfl rfl ?_
      refine l_if_le rfl rfl (by unfold rg; omega) (fun w31 => ?_) (fun w32 => ?_)
      · refine l_iconst rfl ?_
        refine l_iconst rfl ?_
        refine l_aload_n rfl rfl ?_
        refine l_gfr rfl rfl rfl rfl rfl (hHT2.r 904 67 950 rfl) ?_
        refine l_iload rfl rfl ?_
        refine l_iaload (n := 2600) rfl rfl (by omega) (by omega) (by unfold rg; omega) ?_
        have w33 : 0 ≤ (Xi T2 950 ((v5).toNat)) ∧ (Xi T2 950 ((v5).toNat)) ≤ 5010 := hHT2.c _ _
        have e227 : (Xi T2 950 ((v5).toNat)) = Xi S 950 (v5).toNat := by first | rfl | exact (hFT2.cx 950 rfl _).1
        have w34 : 0 ≤ Xi T2 904 106 ∧ Xi T2 904 106 ≤ 9 := hHT2.c _ _
        have w35 : -1 ≤ Xi T2 904 113 ∧ Xi T2 904 113 ≤ 6411 := hHT2.c _ _
        have w36 : 0 ≤ Xi T2 904 69 ∧ Xi T2 904 69 ≤ 2600 := hHT2.c _ _
        refine l_callV rfl rfl rfl (t_mo_need hHT2 0 4 (Xi T2 950 ((v5).toNat)) ⟨by omega, by omega⟩ ⟨by omega, by omega⟩ ⟨by omega, by omega⟩ _) ?_
        rintro _ T3 ⟨hHT3, w40, rfl, w37, w38⟩
        have hFT3 : FR md_mo_testMeant S T3 := FR.tr hFT2 w40 rfl
        show Rl _ _ _ _ _ [] _ _
        refine l_aload_n rfl rfl ?_
        refine l_iload rfl rfl ?_
        refine l_iconst rfl ?_
        refine l_icmp_ge rfl rfl (by unfold rg; omega) (by unfold rg; omega) (fun w41 => ?_) (fun w42 => ?_)
        · refine l_iconst rfl ?_
          refine l_bipush rfl rfl ?_
          refine l_aload_n rfl rfl ?_
          refine l_gfr rfl rfl rfl rfl rfl (hHT3.r 904 67 950 rfl) ?_
          refine l_iload rfl rfl ?_
          refine l_iaload (n := 2600) rfl rfl (by omega) (by omega) (by unfold rg; omega) ?_
          have w43 : (Xi T3 950 ((v5).toNat)) = (Xi T2 950 ((v5).toNat)) := (show Xi T3 950 ((v5).toNat) = Xi T2 950 ((v5).toNat) from w40.x _ _ rfl)
          rw [w43]
          have e251 : (Xi T2 950 ((v5).toNat)) = Xi S 950 (v5).toNat := by first | rfl | exact (hFT3.cx 950 rfl _).1
          have w44 : 0 ≤ Xi T3 904 106 ∧ Xi T3 904 106 ≤ 9 := hHT3.c _ _
          have w45 : Xi T3 904 113 = Xi T2 904 113 := (show Xi T3 904 113 = Xi T2 904 113 from w40.x _ _ rfl)
          have w46 : -1 ≤ Xi T2 904 113 ∧ Xi T2 904 113 ≤ 6411 := hHT2.c _ _
          have w47 : Xi T3 904 69 = Xi T2 904 69 := (show Xi T3 904 69 = Xi T2 904 69 from w40.x _ _ rfl)
          have w48 : 0 ≤ Xi T2 904 69 ∧ Xi T2 904 69 ≤ 2600 := hHT2.c _ _
          refine l_callV rfl rfl rfl (t_mo_need hHT3 0 7 (Xi T2 950 ((v5).toNat)) ⟨by omega, by omega⟩ ⟨by omega, by omega⟩ ⟨by omega, by omega⟩ _) ?_
          rintro _ T4 ⟨hHT4, w52, rfl, w49, w50⟩
          have hFT4 : FR md_mo_testMeant S T4 := FR.tr hFT3 w52 rfl
          show Rl _ _ _ _ _ [] _ _
          refine l_aload_n rfl rfl ?_
          refine l_gfr rfl rfl rfl rfl rfl (hHT4.r 904 122 973 rfl) ?_
          refine l_iload_n rfl rfl ?_
          refine l_iload rfl rfl ?_
          refine l_if_le rfl rfl (by unfold rg; omega) (fun w53 => ?_) (fun w54 => ?_)
          · refine l_iconst rfl ?_
            refine l_iastore (n := 2400) rfl rfl (by omega) (by omega) (by unfold rg; omega) ?_
            obtain ⟨U5, eU5⟩ : ∃ T : sS, T = uI T4 973 ((q).toNat) (Int32.ofInt 0) := ⟨_, rfl⟩
            rw [← eU5]
            have hHU5 : HI U5 := by rw [eU5]; exact HI_any hHT4 (rfl)
            have hFU5 : FR md_mo_testMeant S U5 := by rw [eU5]; exact FR.wI hFT4 (mdf_i (r := (973, 974, 0, 100000)) (List.mem_of_getElem? (i := 9) rfl) (inR_i (by omega) (by omega) (by omega) (by omega)))
            have w55 : Xi U5 973 ((q).toNat) = 0 := by rw [eU5]; exact Xi_same (by unfold rg; omega)
            refine l_goto rfl rfl ?_
            refine l_return rfl rfl ?_
            have w56 : Xi U5 969 (q).toNat = Xi T2 969 (q).toNat := (show Xi U5 969 (q).toNat = Xi T4 969 (q).toNat from by rw [eU5]; exact Xi_ne (by omega)).trans ( (show Xi T4 969 (q).toNat = Xi T3 969 (q).toNat from (w52.cx 969 rfl _).1).trans ((show Xi T3 969 (q).toNat = Xi T2 969 (q).toNat from (w40.cx 969 rfl _).1)))
            have w57 : Xi U5 971 (q).toNat = Xi T2 971 (q).toNat := (show Xi U5 971 (q).toNat = Xi T4 971 (q).toNat from by rw [eU5]; exact Xi_ne (by omega)).trans ( (show Xi T4 971 (q).toNat = Xi T3 971 (q).toNat from (w52.cx 971 rfl _).1).trans ((show Xi T3 971 (q).toNat = Xi T2 971 (q).toNat from (w40.cx 971 rfl _).1)))
            have w58 : Xi U5 972 (q).toNat = Xi T2 972 (q).toNat := (show Xi U5 972 (q).toNat = Xi T4 972 (q).toNat from by rw [eU5]; exact Xi_ne (by omega)).trans ( (show Xi T4 972 (q).toNat = Xi T3 972 (q).toNat from (w52.cx 972 rfl _).1).trans ((show Xi T3 972 (q).toNat = Xi T2 972 (q).toNat from (w40.cx 972 rfl _).1)))
            have w59 : Xi U5 974 (q).toNat = Xi T2 974 (q).toNat := (show Xi U5 974 (q).toNat = Xi T4 974 (q).toNat from by rw [eU5]; exact Xi_ne (by omega)).trans ( (show Xi T4 974 (q).toNat = Xi T3 974 (q).toNat from (w52.cx 974 rfl _).1).trans ((show Xi T3 974 (q).toNat = Xi T2 974 (q).toNat from (w40.cx 974 rfl _).1)))
            have w60 : Xi U5 975 (q).toNat = Xi T2 975 (q).toNat := (show Xi U5 975 (q).toNat = Xi T4 975 (q).toNat from by rw [eU5]; exact Xi_ne (by omega)).trans ( (show Xi T4 975 (q).toNat = Xi T3 975 (q).toNat from (w52.cx 975 rfl _).1).trans ((show Xi T3 975 (q).toNat = Xi T2 975 (q).toNat from (w40.cx 975 rfl _).1)))
            have w61 : Xi U5 904 106 = Xi T4 904 106 := (show Xi U5 904 106 = Xi T4 904 106 from by rw [eU5]; exact Xi_ne (by omega))
            have w62 : 0 ≤ Xi T4 904 106 ∧ Xi T4 904 106 ≤ 9 := hHT4.c _ _
            have w63 : Xi U5 904 113 = Xi T2 904 113 := (show Xi U5 904 113 = Xi T4 904 113 from by rw [eU5]; exact Xi_ne (by omega)).trans ( (show Xi T4 904 113 = Xi T3 904 113 from w52.x _ _ rfl).trans ((show Xi T3 904 113 = Xi T2 904 113 from w40.x _ _ rfl)))
            have w64 : -1 ≤ Xi T2 904 113 ∧ Xi T2 904 113 ≤ 6411 := hHT2.c _ _
            have w65 : Xi U5 904 69 = Xi T2 904 69 := (show Xi U5 904 69 = Xi T4 904 69 from by rw [eU5]; exact Xi_ne (by omega)).trans ( (show Xi T4 904 69 = Xi T3 904 69 from w52.x _ _ rfl).trans ((show Xi T3 904 69 = Xi T2 904 69 from w40.x _ _ rfl)))
            have w66 : 0 ≤ Xi T2 904 69 ∧ Xi T2 904 69 ≤ 2600 := hHT2.c _ _
            exact ⟨hHU5, hFU5, rfl, (by omega), (by first | exact (fun _ q => (by have s := f52 (by omega); exact tq_5 (by omega) (thk_c (b := 0 ≤ Xi S 904 115) (c := 0 ≤ Xi S 904 116) (S := S) (by have t := s.1; unfold thK at *; have a := h52; omega) (hFU5.x 904 19 rfl) (by omega)) (thk_c (S := S) (by have t := s.2.1; unfold thK at *; have a := h52; omega) (hFU5.x 904 19 rfl) (by omega)) (by have t := s.2.2; omega))) f52 | exact (fun _ q => tq_3 (by omega) (thk_c (H209) (hFU5.x 904 19 rfl) (by omega)) (adx_c (W209 (by omega)) (hFU5.x 904 23 rfl) (hFU5.x 904 32 rfl) (by omega))) W209 | exact (fun _ q => tq_4 (by omega) (thk_c (H277 (by omega)) (hFU5.x 904 19 rfl) (by omega))) q299 | exact (fun _ q => tq_2 (by omega) (thk_c (H328 (by omega)) (hFU5.x 904 19 rfl) (by omega)) (by have a := hFU5.x 904 32 rfl; omega) (fun _ => o386)) o386 | exact (fun _ q => tq_2 (by omega) (thk_c (H328 (by omega)) (hFU5.x 904 19 rfl) (by omega)) (by have a := hFU5.x 904 32 rfl; omega) (fun y => absurd y (by omega))) p337 | exact fun x => absurd x (by omega)), (by first | exact fun x y => ⟨by have t := hnf y; omega, fun z => absurd z (by omega)⟩ | exact (fun _ q => fun y => ⟨by omega, fun _ z => by rw [(hFU5.cx 922 rfl _).1, show Xi U5 973 (q).toNat = _ from by omega]; exact (W209 (by omega)).2 (by omega) (by omega)⟩) W209 | exact fun x => absurd x (by omega)), ((KQ.w (KQ_FR w52 rfl (KQ_FR w40 rfl (by assumption : KQ T2 S _))) eU5 (by omega)))⟩
          · refine l_aload_n rfl rfl ?_
            refine l_gfi rfl rfl rfl rfl rfl ?_
            have w67 : (Xi T4 904 113) = (Xi T2 904 113) := (show Xi T4 904 113 = Xi T3 904 113 from w52.x _ _ rfl).trans ((show Xi T3 904 113 = Xi T2 904 113 from w40.x _ _ rfl))
            rw [w67]
            refine l_goto rfl rfl ?_
            refine l_iastore (n := 2400) rfl rfl (by omega) (by omega) (by unfold rg; omega) ?_
            obtain ⟨U6, eU6⟩ : ∃ T : sS, T = uI T4 973 ((q).toNat) (Int32.ofInt (Xi T2 904 113)) := ⟨_, rfl⟩
            rw [← eU6]
            have hHU6 : HI U6 := by rw [eU6]; exact HI_any hHT4 (rfl)
            have hFU6 : FR md_mo_testMeant S U6 := by rw [eU6]; exact FR.wI hFT4 (mdf_i (r := (973, 974, 0, 100000)) (List.mem_of_getElem? (i := 9) rfl) (inR_i (by omega) (by omega) (by omega) (by omega)))
            have w68 : Xi U6 973 ((q).toNat) = (Xi T2 904 113) := by rw [eU6]; exact Xi_same (by unfold rg; omega)
            refine l_goto rfl rfl ?_
            refine l_return rfl rfl ?_
            have w69 : Xi U6 969 (q).toNat = Xi T2 969 (q).toNat := (show Xi U6 969 (q).toNat = Xi T4 969 (q).toNat from by rw [eU6]; exact Xi_ne (by omega)).trans ( (show Xi T4 969 (q).toNat = Xi T3 969 (q).toNat from (w52.cx 969 rfl _).1).trans ((show Xi T3 969 (q).toNat = Xi T2 969 (q).toNat from (w40.cx 969 rfl _).1)))
            have w70 : Xi U6 971 (q).toNat = Xi T2 971 (q).toNat := (show Xi U6 971 (q).toNat = Xi T4 971 (q).toNat from by rw [eU6]; exact Xi_ne (by omega)).trans ( (show Xi T4 971 (q).toNat = Xi T3 971 (q).toNat from (w52.cx 971 rfl _).1).trans ((show Xi T3 971 (q).toNat = Xi T2 971 (q).toNat from (w40.cx 971 rfl _).1)))
            have w71 : Xi U6 972 (q).toNat = Xi T2 972 (q).toNat := (show Xi U6 972 (q).toNat = Xi T4 972 (q).toNat from by rw [eU6]; exact Xi_ne (by omega)).trans ( (show Xi T4 972 (q).toNat = Xi T3 972 (q).toNat from (w52.cx 972 rfl _).1).trans ((show Xi T3 972 (q).toNat = Xi T2 972 (q).toNat from (w40.cx 972 rfl _).1)))
            have w72 : Xi U6 974 (q).toNat = Xi T2 974 (q).toNat := (show Xi U6 974 (q).toNat = Xi T4 974 (q).toNat from by rw [eU6]; exact Xi_ne (by omega)).trans ( (show Xi T4 974 (q).toNat = Xi T3 974 (q).toNat from (w52.cx 974 rfl _).1).trans ((show Xi T3 974 (q).toNat = Xi T2 974 (q).toNat from (w40.cx 974 rfl _).1)))
            have w73 : Xi U6 975 (q).toNat = Xi T2 975 (q).toNat := (show Xi U6 975 (q).toNat = Xi T4 975 (q).toNat from by rw [eU6]; exact Xi_ne (by omega)).trans ( (show Xi T4 975 (q).toNat = Xi T3 975 (q).toNat from (w52.cx 975 rfl _).1).trans ((show Xi T3 975 (q).toNat = Xi T2 975 (q).toNat from (w40.cx 975 rfl _).1)))
            have w74 : Xi U6 904 106 = Xi T4 904 106 := (show Xi U6 904 106 = Xi T4 904 106 from by rw [eU6]; exact Xi_ne (by omega))
            have w75 : 0 ≤ Xi T4 904 106 ∧ Xi T4 904 106 ≤ 9 := hHT4.c _ _
            have w76 : Xi U6 904 113 = Xi T2 904 113 := (show Xi U6 904 113 = Xi T4 904 113 from by rw [eU6]; exact Xi_ne (by omega)).trans ( (show Xi T4 904 113 = Xi T3 904 113 from w52.x _ _ rfl).trans ((show Xi T3 904 113 = Xi T2 904 113 from w40.x _ _ rfl)))
            have w77 : -1 ≤ Xi T2 904 113 ∧ Xi T2 904 113 ≤ 6411 := hHT2.c _ _
            have w78 : Xi U6 904 69 = Xi T2 904 69 := (show Xi U6 904 69 = Xi T4 904 69 from by rw [eU6]; exact Xi_ne (by omega)).trans ( (show Xi T4 904 69 = Xi T3 904 69 from w52.x _ _ rfl).trans ((show Xi T3 904 69 = Xi T2 904 69 from w40.x _ _ rfl)))
            have w79 : 0 ≤ Xi T2 904 69 ∧ Xi T2 904 69 ≤ 2600 := hHT2.c _ _
            exact ⟨hHU6, hFU6, rfl, (by omega), (by first | exact (fun _ q => (by have s := f52 (by omega); exact tq_5 (by omega) (thk_c (b := 0 ≤ Xi S 904 115) (c := 0 ≤ Xi S 904 116) (S := S) (by have t := s.1; unfold thK at *; have a := h52; omega) (hFU6.x 904 19 rfl) (by omega)) (thk_c (S := S) (by have t := s.2.1; unfold thK at *; have a := h52; omega) (hFU6.x 904 19 rfl) (by omega)) (by have t := s.2.2; omega))) f52 | exact (fun _ q => tq_3 (by omega) (thk_c (H209) (hFU6.x 904 19 rfl) (by omega)) (adx_c (W209 (by omega)) (hFU6.x 904 23 rfl) (hFU6.x 904 32 rfl) (by omega))) W209 | exact (fun _ q => tq_4 (by omega) (thk_c (H277 (by omega)) (hFU6.x 904 19 rfl) (by omega))) q299 | exact (fun _ q => tq_2 (by omega) (thk_c (H328 (by omega)) (hFU6.x 904 19 rfl) (by omega)) (by have a := hFU6.x 904 32 rfl; omega) (fun _ => o386)) o386 | exact (fun _ q => tq_2 (by omega) (thk_c (H328 (by omega)) (hFU6.x 904 19 rfl) (by omega)) (by have a := hFU6.x 904 32 rfl; omega) (fun y => absurd y (by omega))) p337 | exact fun x => absurd x (by omega)), (by first | exact fun x y => ⟨by have t := hnf y; omega, fun z => absurd z (by omega)⟩ | exact (fun _ q => fun y => ⟨by omega, fun _ z => by rw [(hFU6.cx 922 rfl _).1, show Xi U6 973 (q).toNat = _ from by omega]; exact (W209 (by omega)).2 (by omega) (by omega)⟩) W209 | exact fun x => absurd x (by omega)), ((KQ.w (KQ_FR w52 rfl (KQ_FR w40 rfl (by assumption : KQ T2 S _))) eU6 (by omega)))⟩
        · refine l_iconst rfl ?_
          refine l_goto rfl rfl ?_
          refine l_bipush rfl rfl ?_
          refine l_aload_n rfl rfl ?_
          refine l_gfr rfl rfl rfl rfl rfl (hHT3.r 904 67 950 rfl) ?_
          refine l_iload rfl rfl ?_
          refine l_iaload (n := 2600) rfl rfl (by omega) (by omega) (by unfold rg; omega) ?_
          have w80 : (Xi T3 950 ((v5).toNat)) = (Xi T2 950 ((v5).toNat)) := (show Xi T3 950 ((v5).toNat) = Xi T2 950 ((v5).toNat) from w40.x _ _ rfl)
          rw [w80]
          have e251 : (Xi T2 950 ((v5).toNat)) = Xi S 950 (v5).toNat := by first | rfl | exact (hFT3.cx 950 rfl _).1
          have w81 : 0 ≤ Xi T3 904 106 ∧ Xi T3 904 106 ≤ 9 := hHT3.c _ _
          have w82 : Xi T3 904 113 = Xi T2 904 113 := (show Xi T3 904 113 = Xi T2 904 113 from w40.x _ _ rfl)
          have w83 : -1 ≤ Xi T2 904 113 ∧ Xi T2 904 113 ≤ 6411 := hHT2.c _ _
          have w84 : Xi T3 904 69 = Xi T2 904 69 := (show Xi T3 904 69 = Xi T2 904 69 from w40.x _ _ rfl)
          have w85 : 0 ≤ Xi T2 904 69 ∧ Xi T2 904 69 ≤ 2600 := hHT2.c _ _
          refine l_callV rfl rfl rfl (t_mo_need hHT3 1 7 (Xi T2 950 ((v5).toNat)) ⟨by omega, by omega⟩ ⟨by omega, by omega⟩ ⟨by omega, by omega⟩ _) ?_
          rintro _ T7 ⟨hHT7, w89, rfl, w86, w87⟩
          have hFT7 : FR md_mo_testMeant S T7 := FR.tr hFT3 w89 rfl
          show Rl _ _ _ _ _ [] _ _
          refine l_aload_n rfl rfl ?_
          refine l_gfr rfl rfl rfl rfl rfl (hHT7.r 904 122 973 rfl) ?_
          refine l_iload_n rfl rfl ?_
          refine l_iload rfl rfl ?_
          refine l_if_le rfl rfl (by unfold rg; omega) (fun w90 => ?_) (fun w91 => ?_)
          · refine l_iconst rfl ?_
            refine l_iastore (n := 2400) rfl rfl (by omega) (by omega) (by unfold rg; omega) ?_
            obtain ⟨U8, eU8⟩ : ∃ T : sS, T = uI T7 973 ((q).toNat) (Int32.ofInt 0) := ⟨_, rfl⟩
            rw [← eU8]
            have hHU8 : HI U8 := by rw [eU8]; exact HI_any hHT7 (rfl)
            have hFU8 : FR md_mo_testMeant S U8 := by rw [eU8]; exact FR.wI hFT7 (mdf_i (r := (973, 974, 0, 100000)) (List.mem_of_getElem? (i := 9) rfl) (inR_i (by omega) (by omega) (by omega) (by omega)))
            have w92 : Xi U8 973 ((q).toNat) = 0 := by rw [eU8]; exact Xi_same (by unfold rg; omega)
            refine l_goto rfl rfl ?_
            refine l_return rfl rfl ?_
            have w93 : Xi U8 969 (q).toNat = Xi T2 969 (q).toNat := (show Xi U8 969 (q).toNat = Xi T7 969 (q).toNat from by rw [eU8]; exact Xi_ne (by omega)).trans ( (show Xi T7 969 (q).toNat = Xi T3 969 (q).toNat from (w89.cx 969 rfl _).1).trans ((show Xi T3 969 (q).toNat = Xi T2 969 (q).toNat from (w40.cx 969 rfl _).1)))
            have w94 : Xi U8 971 (q).toNat = Xi T2 971 (q).toNat := (show Xi U8 971 (q).toNat = Xi T7 971 (q).toNat from by rw [eU8]; exact Xi_ne (by omega)).trans ( (show Xi T7 971 (q).toNat = Xi T3 971 (q).toNat from (w89.cx 971 rfl _).1).trans ((show Xi T3 971 (q).toNat = Xi T2 971 (q).toNat from (w40.cx 971 rfl _).1)))
            have w95 : Xi U8 972 (q).toNat = Xi T2 972 (q).toNat := (show Xi U8 972 (q).toNat = Xi T7 972 (q).toNat from by rw [eU8]; exact Xi_ne (by omega)).trans ( (show Xi T7 972 (q).toNat = Xi T3 972 (q).toNat from (w89.cx 972 rfl _).1).trans ((show Xi T3 972 (q).toNat = Xi T2 972 (q).toNat from (w40.cx 972 rfl _).1)))
            have w96 : Xi U8 974 (q).toNat = Xi T2 974 (q).toNat := (show Xi U8 974 (q).toNat = Xi T7 974 (q).toNat from by rw [eU8]; exact Xi_ne (by omega)).trans ( (show Xi T7 974 (q).toNat = Xi T3 974 (q).toNat from (w89.cx 974 rfl _).1).trans ((show Xi T3 974 (q).toNat = Xi T2 974 (q).toNat from (w40.cx 974 rfl _).1)))
            have w97 : Xi U8 975 (q).toNat = Xi T2 975 (q).toNat := (show Xi U8 975 (q).toNat = Xi T7 975 (q).toNat from by rw [eU8]; exact Xi_ne (by omega)).trans ( (show Xi T7 975 (q).toNat = Xi T3 975 (q).toNat from (w89.cx 975 rfl _).1).trans ((show Xi T3 975 (q).toNat = Xi T2 975 (q).toNat from (w40.cx 975 rfl _).1)))
            have w98 : Xi U8 904 106 = Xi T7 904 106 := (show Xi U8 904 106 = Xi T7 904 106 from by rw [eU8]; exact Xi_ne (by omega))
            have w99 : 0 ≤ Xi T7 904 106 ∧ Xi T7 904 106 ≤ 9 := hHT7.c _ _
            have w100 : Xi U8 904 113 = Xi T2 904 113 := (show Xi U8 904 113 = Xi T7 904 113 from by rw [eU8]; exact Xi_ne (by omega)).trans ( (show Xi T7 904 113 = Xi T3 904 113 from w89.x _ _ rfl).trans ((show Xi T3 904 113 = Xi T2 904 113 from w40.x _ _ rfl)))
            have w101 : -1 ≤ Xi T2 904 113 ∧ Xi T2 904 113 ≤ 6411 := hHT2.c _ _
            have w102 : Xi U8 904 69 = Xi T2 904 69 := (show Xi U8 904 69 = Xi T7 904 69 from by rw [eU8]; exact Xi_ne (by omega)).trans ( (show Xi T7 904 69 = Xi T3 904 69 from w89.x _ _ rfl).trans ((show Xi T3 904 69 = Xi T2 904 69 from w40.x _ _ rfl)))
            have w103 : 0 ≤ Xi T2 904 69 ∧ Xi T2 904 69 ≤ 2600 := hHT2.c _ _
            exact ⟨hHU8, hFU8, rfl, (by omega), (by first | exact (fun _ q => (by have s := f52 (by omega); exact tq_5 (by omega) (thk_c (b := 0 ≤ Xi S 904 115) (c := 0 ≤ Xi S 904 116) (S := S) (by have t := s.1; unfold thK at *; have a := h52; omega) (hFU8.x 904 19 rfl) (by omega)) (thk_c (S := S) (by have t := s.2.1; unfold thK at *; have a := h52; omega) (hFU8.x 904 19 rfl) (by omega)) (by have t := s.2.2; omega))) f52 | exact (fun _ q => tq_3 (by omega) (thk_c (H209) (hFU8.x 904 19 rfl) (by omega)) (adx_c (W209 (by omega)) (hFU8.x 904 23 rfl) (hFU8.x 904 32 rfl) (by omega))) W209 | exact (fun _ q => tq_4 (by omega) (thk_c (H277 (by omega)) (hFU8.x 904 19 rfl) (by omega))) q299 | exact (fun _ q => tq_2 (by omega) (thk_c (H328 (by omega)) (hFU8.x 904 19 rfl) (by omega)) (by have a := hFU8.x 904 32 rfl; omega) (fun _ => o386)) o386 | exact (fun _ q => tq_2 (by omega) (thk_c (H328 (by omega)) (hFU8.x 904 19 rfl) (by omega)) (by have a := hFU8.x 904 32 rfl; omega) (fun y => absurd y (by omega))) p337 | exact fun x => absurd x (by omega)), (by first | exact fun x y => ⟨by have t := hnf y; omega, fun z => absurd z (by omega)⟩ | exact (fun _ q => fun y => ⟨by omega, fun _ z => by rw [(hFU8.cx 922 rfl _).1, show Xi U8 973 (q).toNat = _ from by omega]; exact (W209 (by omega)).2 (by omega) (by omega)⟩) W209 | exact fun x => absurd x (by omega)), ((KQ.w (KQ_FR w89 rfl (KQ_FR w40 rfl (by assumption : KQ T2 S _))) eU8 (by omega)))⟩
          · refine l_aload_n rfl rfl ?_
            refine l_gfi rfl rfl rfl rfl rfl ?_
            have w104 : (Xi T7 904 113) = (Xi T2 904 113) := (show Xi T7 904 113 = Xi T3 904 113 from w89.x _ _ rfl).trans ((show Xi T3 904 113 = Xi T2 904 113 from w40.x _ _ rfl))
            rw [w104]
            refine l_goto rfl rfl ?_
            refine l_iastore (n := 2400) rfl rfl (by omega) (by omega) (by unfold rg; omega) ?_
            obtain ⟨U9, eU9⟩ : ∃ T : sS, T = uI T7 973 ((q).toNat) (Int32.ofInt (Xi T2 904 113)) := ⟨_, rfl⟩
            rw [← eU9]
            have hHU9 : HI U9 := by rw [eU9]; exact HI_any hHT7 (rfl)
            have hFU9 : FR md_mo_testMeant S U9 := by rw [eU9]; exact FR.wI hFT7 (mdf_i (r := (973, 974, 0, 100000)) (List.mem_of_getElem? (i := 9) rfl) (inR_i (by omega) (by omega) (by omega) (by omega)))
            have w105 : Xi U9 973 ((q).toNat) = (Xi T2 904 113) := by rw [eU9]; exact Xi_same (by unfold rg; omega)
            refine l_goto rfl rfl ?_
            refine l_return rfl rfl ?_
            have w106 : Xi U9 969 (q).toNat = Xi T2 969 (q).toNat := (show Xi U9 969 (q).toNat = Xi T7 969 (q).toNat from by rw [eU9]; exact Xi_ne (by omega)).trans ( (show Xi T7 969 (q).toNat = Xi T3 969 (q).toNat from (w89.cx 969 rfl _).1).trans ((show Xi T3 969 (q).toNat = Xi T2 969 (q).toNat from (w40.cx 969 rfl _).1)))
            have w107 : Xi U9 971 (q).toNat = Xi T2 971 (q).toNat := (show Xi U9 971 (q).toNat = Xi T7 971 (q).toNat from by rw [eU9]; exact Xi_ne (by omega)).trans ( (show Xi T7 971 (q).toNat = Xi T3 971 (q).toNat from (w89.cx 971 rfl _).1).trans ((show Xi T3 971 (q).toNat = Xi T2 971 (q).toNat from (w40.cx 971 rfl _).1)))
            have w108 : Xi U9 972 (q).toNat = Xi T2 972 (q).toNat := (show Xi U9 972 (q).toNat = Xi T7 972 (q).toNat from by rw [eU9]; exact Xi_ne (by omega)).trans ( (show Xi T7 972 (q).toNat = Xi T3 972 (q).toNat from (w89.cx 972 rfl _).1).trans ((show Xi T3 972 (q).toNat = Xi T2 972 (q).toNat from (w40.cx 972 rfl _).1)))
            have w109 : Xi U9 974 (q).toNat = Xi T2 974 (q).toNat := (show Xi U9 974 (q).toNat = Xi T7 974 (q).toNat from by rw [eU9]; exact Xi_ne (by omega)).trans ( (show Xi T7 974 (q).toNat = Xi T3 974 (q).toNat from (w89.cx 974 rfl _).1).trans ((show Xi T3 974 (q).toNat = Xi T2 974 (q).toNat from (w40.cx 974 rfl _).1)))
            have w110 : Xi U9 975 (q).toNat = Xi T2 975 (q).toNat := (show Xi U9 975 (q).toNat = Xi T7 975 (q).toNat from by rw [eU9]; exact Xi_ne (by omega)).trans ( (show Xi T7 975 (q).toNat = Xi T3 975 (q).toNat from (w89.cx 975 rfl _).1).trans ((show Xi T3 975 (q).toNat = Xi T2 975 (q).toNat from (w40.cx 975 rfl _).1)))
            have w111 : Xi U9 904 106 = Xi T7 904 106 := (show Xi U9 904 106 = Xi T7 904 106 from by rw [eU9]; exact Xi_ne (by omega))
            have w112 : 0 ≤ Xi T7 904 106 ∧ Xi T7 904 106 ≤ 9 := hHT7.c _ _
            have w113 : Xi U9 904 113 = Xi T2 904 113 := (show Xi U9 904 113 = Xi T7 904 113 from by rw [eU9]; exact Xi_ne (by omega)).trans ( (show Xi T7 904 113 = Xi T3 904 113 from w89.x _ _ rfl).trans ((show Xi T3 904 113 = Xi T2 904 113 from w40.x _ _ rfl)))
            have w114 : -1 ≤ Xi T2 904 113 ∧ Xi T2 904 113 ≤ 6411 := hHT2.c _ _
            have w115 : Xi U9 904 69 = Xi T2 904 69 := (show Xi U9 904 69 = Xi T7 904 69 from by rw [eU9]; exact Xi_ne (by omega)).trans ( (show Xi T7 904 69 = Xi T3 904 69 from w89.x _ _ rfl).trans ((show Xi T3 904 69 = Xi T2 904 69 from w40.x _ _ rfl)))
            have w116 : 0 ≤ Xi T2 904 69 ∧ Xi T2 904 69 ≤ 2600 := hHT2.c _ _
            exact ⟨hHU9, hFU9, rfl, (by omega), (by first | exact (fun _ q => (by have s := f52 (by omega); exact tq_5 (by omega) (thk_c (b := 0 ≤ Xi S 904 115) (c := 0 ≤ Xi S 904 116) (S := S) (by have t := s.1; unfold thK at *; have a := h52; omega) (hFU9.x 904 19 rfl) (by omega)) (thk_c (S := S) (by have t := s.2.1; unfold thK at *; have a := h52; omega) (hFU9.x 904 19 rfl) (by omega)) (by have t := s.2.2; omega))) f52 | exact (fun _ q => tq_3 (by omega) (thk_c (H209) (hFU9.x 904 19 rfl) (by omega)) (adx_c (W209 (by omega)) (hFU9.x 904 23 rfl) (hFU9.x 904 32 rfl) (by omega))) W209 | exact (fun _ q => tq_4 (by omega) (thk_c (H277 (by omega)) (hFU9.x 904 19 rfl) (by omega))) q299 | exact (fun _ q => tq_2 (by omega) (thk_c (H328 (by omega)) (hFU9.x 904 19 rfl) (by omega)) (by have a := hFU9.x 904 32 rfl; omega) (fun _ => o386)) o386 | exact (fun _ q => tq_2 (by omega) (thk_c (H328 (by omega)) (hFU9.x 904 19 rfl) (by omega)) (by have a := hFU9.x 904 32 rfl; omega) (fun y => absurd y (by omega))) p337 | exact fun x => absurd x (by omega)), (by first | exact fun x y => ⟨by have t := hnf y; omega, fun z => absurd z (by omega)⟩ | exact (fun _ q => fun y => ⟨by omega, fun _ z => by rw [(hFU9.cx 922 rfl _).1, show Xi U9 973 (q).toNat = _ from by omega]; exact (W209 (by omega)).2 (by omega) (by omega)⟩) W209 | exact fun x => absurd x (by omega)), ((KQ.w (KQ_FR w89 rfl (KQ_FR w40 rfl (by assumption : KQ T2 S _))) eU9 (by omega)))⟩
      · refine l_iconst rfl ?_
        refine l_goto rfl rfl ?_
        refine l_iconst rfl ?_
        refine l_aload_n rfl rfl ?_
        refine l_gfr rfl rfl rfl rfl rfl (hHT2.r 904 67 950 rfl) ?_
        refine l_iload rfl rfl ?_
        refine l_iaload (n := 2600) rfl rfl (by omega) (by omega) (by unfold rg; omega) ?_
        have w117 : 0 ≤ (Xi T2 950 ((v5).toNat)) ∧ (Xi T2 950 ((v5).toNat)) ≤ 5010 := hHT2.c _ _
        have e227 : (Xi T2 950 ((v5).toNat)) = Xi S 950 (v5).toNat := by first | rfl | exact (hFT2.cx 950 rfl _).1
        have w118 : 0 ≤ Xi T2 904 106 ∧ Xi T2 904 106 ≤ 9 := hHT2.c _ _
        have w119 : -1 ≤ Xi T2 904 113 ∧ Xi T2 904 113 ≤ 6411 := hHT2.c _ _
        have w120 : 0 ≤ Xi T2 904 69 ∧ Xi T2 904 69 ≤ 2600 := hHT2.c _ _
        refine l_callV rfl rfl rfl (t_mo_need hHT2 1 4 (Xi T2 950 ((v5).toNat)) ⟨by omega, by omega⟩ ⟨by omega, by omega⟩ ⟨by omega, by omega⟩ _) ?_
        rintro _ T10 ⟨hHT10, w124, rfl, w121, w122⟩
        have hFT10 : FR md_mo_testMeant S T10 := FR.tr hFT2 w124 rfl
        show Rl _ _ _ _ _ [] _ _
        refine l_aload_n rfl rfl ?_
        refine l_iload rfl rfl ?_
        refine l_iconst rfl ?_
        refine l_icmp_ge rfl rfl (by unfold rg; omega) (by unfold rg; omega) (fun w125 => ?_) (fun w126 => ?_)
        · refine l_iconst rfl ?_
          refine l_bipush rfl rfl ?_
          refine l_aload_n rfl rfl ?_
          refine l_gfr rfl rfl rfl rfl rfl (hHT10.r 904 67 950 rfl) ?_
          refine l_iload rfl rfl ?_
          refine l_iaload (n := 2600) rfl rfl (by omega) (by omega) (by unfold rg; omega) ?_
          have w127 : (Xi T10 950 ((v5).toNat)) = (Xi T2 950 ((v5).toNat)) := (show Xi T10 950 ((v5).toNat) = Xi T2 950 ((v5).toNat) from w124.x _ _ rfl)
          rw [w127]
          have e251 : (Xi T2 950 ((v5).toNat)) = Xi S 950 (v5).toNat := by first | rfl | exact (hFT10.cx 950 rfl _).1
          have w128 : 0 ≤ Xi T10 904 106 ∧ Xi T10 904 106 ≤ 9 := hHT10.c _ _
          have w129 : Xi T10 904 113 = Xi T2 904 113 := (show Xi T10 904 113 = Xi T2 904 113 from w124.x _ _ rfl)
          have w130 : -1 ≤ Xi T2 904 113 ∧ Xi T2 904 113 ≤ 6411 := hHT2.c _ _
          have w131 : Xi T10 904 69 = Xi T2 904 69 := (show Xi T10 904 69 = Xi T2 904 69 from w124.x _ _ rfl)
          have w132 : 0 ≤ Xi T2 904 69 ∧ Xi T2 904 69 ≤ 2600 := hHT2.c _ _
          refine l_callV rfl rfl rfl (t_mo_need hHT10 0 7 (Xi T2 950 ((v5).toNat)) ⟨by omega, by omega⟩ ⟨by omega, by omega⟩ ⟨by omega, by omega⟩ _) ?_
          rintro _ T11 ⟨hHT11, w136, rfl, w133, w134⟩
          have hFT11 : FR md_mo_testMeant S T11 := FR.tr hFT10 w136 rfl
          show Rl _ _ _ _ _ [] _ _
          refine l_aload_n rfl rfl ?_
          refine l_gfr rfl rfl rfl rfl rfl (hHT11.r 904 122 973 rfl) ?_
          refine l_iload_n rfl rfl ?_
          refine l_iload rfl rfl ?_
          refine l_if_le rfl rfl (by unfold rg; omega) (fun w137 => ?_) (fun w138 => ?_)
          · refine l_iconst rfl ?_
            refine l_iastore (n := 2400) rfl rfl (by omega) (by omega) (by unfold rg; omega) ?_
            obtain ⟨U12, eU12⟩ : ∃ T : sS, T = uI T11 973 ((q).toNat) (Int32.ofInt 0) := ⟨_, rfl⟩
            rw [← eU12]
            have hHU12 : HI U12 := by rw [eU12]; exact HI_any hHT11 (rfl)
            have hFU12 : FR md_mo_testMeant S U12 := by rw [eU12]; exact FR.wI hFT11 (mdf_i (r := (973, 974, 0, 100000)) (List.mem_of_getElem? (i := 9) rfl) (inR_i (by omega) (by omega) (by omega) (by omega)))
            have w139 : Xi U12 973 ((q).toNat) = 0 := by rw [eU12]; exact Xi_same (by unfold rg; omega)
            refine l_goto rfl rfl ?_
            refine l_return rfl rfl ?_
            have w140 : Xi U12 969 (q).toNat = Xi T2 969 (q).toNat := (show Xi U12 969 (q).toNat = Xi T11 969 (q).toNat from by rw [eU12]; exact Xi_ne (by omega)).trans ( (show Xi T11 969 (q).toNat = Xi T10 969 (q).toNat from (w136.cx 969 rfl _).1).trans ((show Xi T10 969 (q).toNat = Xi T2 969 (q).toNat from (w124.cx 969 rfl _).1)))
            have w141 : Xi U12 971 (q).toNat = Xi T2 971 (q).toNat := (show Xi U12 971 (q).toNat = Xi T11 971 (q).toNat from by rw [eU12]; exact Xi_ne (by omega)).trans ( (show Xi T11 971 (q).toNat = Xi T10 971 (q).toNat from (w136.cx 971 rfl _).1).trans ((show Xi T10 971 (q).toNat = Xi T2 971 (q).toNat from (w124.cx 971 rfl _).1)))
            have w142 : Xi U12 972 (q).toNat = Xi T2 972 (q).toNat := (show Xi U12 972 (q).toNat = Xi T11 972 (q).toNat from by rw [eU12]; exact Xi_ne (by omega)).trans ( (show Xi T11 972 (q).toNat = Xi T10 972 (q).toNat from (w136.cx 972 rfl _).1).trans ((show Xi T10 972 (q).toNat = Xi T2 972 (q).toNat from (w124.cx 972 rfl _).1)))
            have w143 : Xi U12 974 (q).toNat = Xi T2 974 (q).toNat := (show Xi U12 974 (q).toNat = Xi T11 974 (q).toNat from by rw [eU12]; exact Xi_ne (by omega)).trans ( (show Xi T11 974 (q).toNat = Xi T10 974 (q).toNat from (w136.cx 974 rfl _).1).trans ((show Xi T10 974 (q).toNat = Xi T2 974 (q).toNat from (w124.cx 974 rfl _).1)))
            have w144 : Xi U12 975 (q).toNat = Xi T2 975 (q).toNat := (show Xi U12 975 (q).toNat = Xi T11 975 (q).toNat from by rw [eU12]; exact Xi_ne (by omega)).trans ( (show Xi T11 975 (q).toNat = Xi T10 975 (q).toNat from (w136.cx 975 rfl _).1).trans ((show Xi T10 975 (q).toNat = Xi T2 975 (q).toNat from (w124.cx 975 rfl _).1)))
            have w145 : Xi U12 904 106 = Xi T11 904 106 := (show Xi U12 904 106 = Xi T11 904 106 from by rw [eU12]; exact Xi_ne (by omega))
            have w146 : 0 ≤ Xi T11 904 106 ∧ Xi T11 904 106 ≤ 9 := hHT11.c _ _
            have w147 : Xi U12 904 113 = Xi T2 904 113 := (show Xi U12 904 113 = Xi T11 904 113 from by rw [eU12]; exact Xi_ne (by omega)).trans ( (show Xi T11 904 113 = Xi T10 904 113 from w136.x _ _ rfl).trans ((show Xi T10 904 113 = Xi T2 904 113 from w124.x _ _ rfl)))
            have w148 : -1 ≤ Xi T2 904 113 ∧ Xi T2 904 113 ≤ 6411 := hHT2.c _ _
            have w149 : Xi U12 904 69 = Xi T2 904 69 := (show Xi U12 904 69 = Xi T11 904 69 from by rw [eU12]; exact Xi_ne (by omega)).trans ( (show Xi T11 904 69 = Xi T10 904 69 from w136.x _ _ rfl).trans ((show Xi T10 904 69 = Xi T2 904 69 from w124.x _ _ rfl)))
            have w150 : 0 ≤ Xi T2 904 69 ∧ Xi T2 904 69 ≤ 2600 := hHT2.c _ _
            exact ⟨hHU12, hFU12, rfl, (by omega), (by first | exact (fun _ q => (by have s := f52 (by omega); exact tq_5 (by omega) (thk_c (b := 0 ≤ Xi S 904 115) (c := 0 ≤ Xi S 904 116) (S := S) (by have t := s.1; unfold thK at *; have a := h52; omega) (hFU12.x 904 19 rfl) (by omega)) (thk_c (S := S) (by have t := s.2.1; unfold thK at *; have a := h52; omega) (hFU12.x 904 19 rfl) (by omega)) (by have t := s.2.2; omega))) f52 | exact (fun _ q => tq_3 (by omega) (thk_c (H209) (hFU12.x 904 19 rfl) (by omega)) (adx_c (W209 (by omega)) (hFU12.x 904 23 rfl) (hFU12.x 904 32 rfl) (by omega))) W209 | exact (fun _ q => tq_4 (by omega) (thk_c (H277 (by omega)) (hFU12.x 904 19 rfl) (by omega))) q299 | exact (fun _ q => tq_2 (by omega) (thk_c (H328 (by omega)) (hFU12.x 904 19 rfl) (by omega)) (by have a := hFU12.x 904 32 rfl; omega) (fun _ => o386)) o386 | exact (fun _ q => tq_2 (by omega) (thk_c (H328 (by omega)) (hFU12.x 904 19 rfl) (by omega)) (by have a := hFU12.x 904 32 rfl; omega) (fun y => absurd y (by omega))) p337 | exact fun x => absurd x (by omega)), (by first | exact fun x y => ⟨by have t := hnf y; omega, fun z => absurd z (by omega)⟩ | exact (fun _ q => fun y => ⟨by omega, fun _ z => by rw [(hFU12.cx 922 rfl _).1, show Xi U12 973 (q).toNat = _ from by omega]; exact (W209 (by omega)).2 (by omega) (by omega)⟩) W209 | exact fun x => absurd x (by omega)), ((KQ.w (KQ_FR w136 rfl (KQ_FR w124 rfl (by assumption : KQ T2 S _))) eU12 (by omega)))⟩
          · refine l_aload_n rfl rfl ?_
            refine l_gfi rfl rfl rfl rfl rfl ?_
            have w151 : (Xi T11 904 113) = (Xi T2 904 113) := (show Xi T11 904 113 = Xi T10 904 113 from w136.x _ _ rfl).trans ((show Xi T10 904 113 = Xi T2 904 113 from w124.x _ _ rfl))
            rw [w151]
            refine l_goto rfl rfl ?_
            refine l_iastore (n := 2400) rfl rfl (by omega) (by omega) (by unfold rg; omega) ?_
            obtain ⟨U13, eU13⟩ : ∃ T : sS, T = uI T11 973 ((q).toNat) (Int32.ofInt (Xi T2 904 113)) := ⟨_, rfl⟩
            rw [← eU13]
            have hHU13 : HI U13 := by rw [eU13]; exact HI_any hHT11 (rfl)
            have hFU13 : FR md_mo_testMeant S U13 := by rw [eU13]; exact FR.wI hFT11 (mdf_i (r := (973, 974, 0, 100000)) (List.mem_of_getElem? (i := 9) rfl) (inR_i (by omega) (by omega) (by omega) (by omega)))
            have w152 : Xi U13 973 ((q).toNat) = (Xi T2 904 113) := by rw [eU13]; exact Xi_same (by unfold rg; omega)
            refine l_goto rfl rfl ?_
            refine l_return rfl rfl ?_
            have w153 : Xi U13 969 (q).toNat = Xi T2 969 (q).toNat := (show Xi U13 969 (q).toNat = Xi T11 969 (q).toNat from by rw [eU13]; exact Xi_ne (by omega)).trans ( (show Xi T11 969 (q).toNat = Xi T10 969 (q).toNat from (w136.cx 969 rfl _).1).trans ((show Xi T10 969 (q).toNat = Xi T2 969 (q).toNat from (w124.cx 969 rfl _).1)))
            have w154 : Xi U13 971 (q).toNat = Xi T2 971 (q).toNat := (show Xi U13 971 (q).toNat = Xi T11 971 (q).toNat from by rw [eU13]; exact Xi_ne (by omega)).trans ( (show Xi T11 971 (q).toNat = Xi T10 971 (q).toNat from (w136.cx 971 rfl _).1).trans ((show Xi T10 971 (q).toNat = Xi T2 971 (q).toNat from (w124.cx 971 rfl _).1)))
            have w155 : Xi U13 972 (q).toNat = Xi T2 972 (q).toNat := (show Xi U13 972 (q).toNat = Xi T11 972 (q).toNat from by rw [eU13]; exact Xi_ne (by omega)).trans ( (show Xi T11 972 (q).toNat = Xi T10 972 (q).toNat from (w136.cx 972 rfl _).1).trans ((show Xi T10 972 (q).toNat = Xi T2 972 (q).toNat from (w124.cx 972 rfl _).1)))
            have w156 : Xi U13 974 (q).toNat = Xi T2 974 (q).toNat := (show Xi U13 974 (q).toNat = Xi T11 974 (q).toNat from by rw [eU13]; exact Xi_ne (by omega)).trans ( (show Xi T11 974 (q).toNat = Xi T10 974 (q).toNat from (w136.cx 974 rfl _).1).trans ((show Xi T10 974 (q).toNat = Xi T2 974 (q).toNat from (w124.cx 974 rfl _).1)))
            have w157 : Xi U13 975 (q).toNat = Xi T2 975 (q).toNat := (show Xi U13 975 (q).toNat = Xi T11 975 (q).toNat from by rw [eU13]; exact Xi_ne (by omega)).trans ( (show Xi T11 975 (q).toNat = Xi T10 975 (q).toNat from (w136.cx 975 rfl _).1).trans ((show Xi T10 975 (q).toNat = Xi T2 975 (q).toNat from (w124.cx 975 rfl _).1)))
            have w158 : Xi U13 904 106 = Xi T11 904 106 := (show Xi U13 904 106 = Xi T11 904 106 from by rw [eU13]; exact Xi_ne (by omega))
            have w159 : 0 ≤ Xi T11 904 106 ∧ Xi T11 904 106 ≤ 9 := hHT11.c _ _
            have w160 : Xi U13 904 113 = Xi T2 904 113 := (show Xi U13 904 113 = Xi T11 904 113 from by rw [eU13]; exact Xi_ne (by omega)).trans ( (show Xi T11 904 113 = Xi T10 904 113 from w136.x _ _ rfl).trans ((show Xi T10 904 113 = Xi T2 904 113 from w124.x _ _ rfl)))
            have w161 : -1 ≤ Xi T2 904 113 ∧ Xi T2 904 113 ≤ 6411 := hHT2.c _ _
            have w162 : Xi U13 904 69 = Xi T2 904 69 := (show Xi U13 904 69 = Xi T11 904 69 from by rw [eU13]; exact Xi_ne (by omega)).trans ( (show Xi T11 904 69 = Xi T10 904 69 from w136.x _ _ rfl).trans ((show Xi T10 904 69 = Xi T2 904 69 from w124.x _ _ rfl)))
            have w163 : 0 ≤ Xi T2 904 69 ∧ Xi T2 904 69 ≤ 2600 := hHT2.c _ _
            exact ⟨hHU13, hFU13, rfl, (by omega), (by first | exact (fun _ q => (by have s := f52 (by omega); exact tq_5 (by omega) (thk_c (b := 0 ≤ Xi S 904 115) (c := 0 ≤ Xi S 904 116) (S := S) (by have t := s.1; unfold thK at *; have a := h52; omega) (hFU13.x 904 19 rfl) (by omega)) (thk_c (S := S) (by have t := s.2.1; unfold thK at *; have a := h52; omega) (hFU13.x 904 19 rfl) (by omega)) (by have t := s.2.2; omega))) f52 | exact (fun _ q => tq_3 (by omega) (thk_c (H209) (hFU13.x 904 19 rfl) (by omega)) (adx_c (W209 (by omega)) (hFU13.x 904 23 rfl) (hFU13.x 904 32 rfl) (by omega))) W209 | exact (fun _ q => tq_4 (by omega) (thk_c (H277 (by omega)) (hFU13.x 904 19 rfl) (by omega))) q299 | exact (fun _ q => tq_2 (by omega) (thk_c (H328 (by omega)) (hFU13.x 904 19 rfl) (by omega)) (by have a := hFU13.x 904 32 rfl; omega) (fun _ => o386)) o386 | exact (fun _ q => tq_2 (by omega) (thk_c (H328 (by omega)) (hFU13.x 904 19 rfl) (by omega)) (by have a := hFU13.x 904 32 rfl; omega) (fun y => absurd y (by omega))) p337 | exact fun x => absurd x (by omega)), (by first | exact fun x y => ⟨by have t := hnf y; omega, fun z => absurd z (by omega)⟩ | exact (fun _ q => fun y => ⟨by omega, fun _ z => by rw [(hFU13.cx 922 rfl _).1, show Xi U13 973 (q).toNat = _ from by omega]; exact (W209 (by omega)).2 (by omega) (by omega)⟩) W209 | exact fun x => absurd x (by omega)), ((KQ.w (KQ_FR w136 rfl (KQ_FR w124 rfl (by assumption : KQ T2 S _))) eU13 (by omega)))⟩
        · refine l_iconst rfl ?_
          refine l_goto rfl rfl ?_
          refine l_bipush rfl rfl ?_
          refine l_aload_n rfl rfl ?_
          refine l_gfr rfl rfl rfl rfl rfl (hHT10.r 904 67 950 rfl) ?_
          refine l_iload rfl rfl ?_
          refine l_iaload (n := 2600) rfl rfl (by omega) (by omega) (by unfold rg; omega) ?_
          have w164 : (Xi T10 950 ((v5).toNat)) = (Xi T2 950 ((v5).toNat)) := (show Xi T10 950 ((v5).toNat) = Xi T2 950 ((v5).toNat) from w124.x _ _ rfl)
          rw [w164]
          have e251 : (Xi T2 950 ((v5).toNat)) = Xi S 950 (v5).toNat := by first | rfl | exact (hFT10.cx 950 rfl _).1
          have w165 : 0 ≤ Xi T10 904 106 ∧ Xi T10 904 106 ≤ 9 := hHT10.c _ _
          have w166 : Xi T10 904 113 = Xi T2 904 113 := (show Xi T10 904 113 = Xi T2 904 113 from w124.x _ _ rfl)
          have w167 : -1 ≤ Xi T2 904 113 ∧ Xi T2 904 113 ≤ 6411 := hHT2.c _ _
          have w168 : Xi T10 904 69 = Xi T2 904 69 := (show Xi T10 904 69 = Xi T2 904 69 from w124.x _ _ rfl)
          have w169 : 0 ≤ Xi T2 904 69 ∧ Xi T2 904 69 ≤ 2600 := hHT2.c _ _
          refine l_callV rfl rfl rfl (t_mo_need hHT10 1 7 (Xi T2 950 ((v5).toNat)) ⟨by omega, by omega⟩ ⟨by omega, by omega⟩ ⟨by omega, by omega⟩ _) ?_
          rintro _ T14 ⟨hHT14, w173, rfl, w170, w171⟩
          have hFT14 : FR md_mo_testMeant S T14 := FR.tr hFT10 w173 rfl
          show Rl _ _ _ _ _ [] _ _
          refine l_aload_n rfl rfl ?_
          refine l_gfr rfl rfl rfl rfl rfl (hHT14.r 904 122 973 rfl) ?_
          refine l_iload_n rfl rfl ?_
          refine l_iload rfl rfl ?_
          refine l_if_le rfl rfl (by unfold rg; omega) (fun w174 => ?_) (fun w175 => ?_)
          · refine l_iconst rfl ?_
            refine l_iastore (n := 2400) rfl rfl (by omega) (by omega) (by unfold rg; omega) ?_
            obtain ⟨U15, eU15⟩ : ∃ T : sS, T = uI T14 973 ((q).toNat) (Int32.ofInt 0) := ⟨_, rfl⟩
            rw [← eU15]
            have hHU15 : HI U15 := by rw [eU15]; exact HI_any hHT14 (rfl)
            have hFU15 : FR md_mo_testMeant S U15 := by rw [eU15]; exact FR.wI hFT14 (mdf_i (r := (973, 974, 0, 100000)) (List.mem_of_getElem? (i := 9) rfl) (inR_i (by omega) (by omega) (by omega) (by omega)))
            have w176 : Xi U15 973 ((q).toNat) = 0 := by rw [eU15]; exact Xi_same (by unfold rg; omega)
            refine l_goto rfl rfl ?_
            refine l_return rfl rfl ?_
            have w177 : Xi U15 969 (q).toNat = Xi T2 969 (q).toNat := (show Xi U15 969 (q).toNat = Xi T14 969 (q).toNat from by rw [eU15]; exact Xi_ne (by omega)).trans ( (show Xi T14 969 (q).toNat = Xi T10 969 (q).toNat from (w173.cx 969 rfl _).1).trans ((show Xi T10 969 (q).toNat = Xi T2 969 (q).toNat from (w124.cx 969 rfl _).1)))
            have w178 : Xi U15 971 (q).toNat = Xi T2 971 (q).toNat := (show Xi U15 971 (q).toNat = Xi T14 971 (q).toNat from by rw [eU15]; exact Xi_ne (by omega)).trans ( (show Xi T14 971 (q).toNat = Xi T10 971 (q).toNat from (w173.cx 971 rfl _).1).trans ((show Xi T10 971 (q).toNat = Xi T2 971 (q).toNat from (w124.cx 971 rfl _).1)))
            have w179 : Xi U15 972 (q).toNat = Xi T2 972 (q).toNat := (show Xi U15 972 (q).toNat = Xi T14 972 (q).toNat from by rw [eU15]; exact Xi_ne (by omega)).trans ( (show Xi T14 972 (q).toNat = Xi T10 972 (q).toNat from (w173.cx 972 rfl _).1).trans ((show Xi T10 972 (q).toNat = Xi T2 972 (q).toNat from (w124.cx 972 rfl _).1)))
            have w180 : Xi U15 974 (q).toNat = Xi T2 974 (q).toNat := (show Xi U15 974 (q).toNat = Xi T14 974 (q).toNat from by rw [eU15]; exact Xi_ne (by omega)).trans ( (show Xi T14 974 (q).toNat = Xi T10 974 (q).toNat from (w173.cx 974 rfl _).1).trans ((show Xi T10 974 (q).toNat = Xi T2 974 (q).toNat from (w124.cx 974 rfl _).1)))
            have w181 : Xi U15 975 (q).toNat = Xi T2 975 (q).toNat := (show Xi U15 975 (q).toNat = Xi T14 975 (q).toNat from by rw [eU15]; exact Xi_ne (by omega)).trans ( (show Xi T14 975 (q).toNat = Xi T10 975 (q).toNat from (w173.cx 975 rfl _).1).trans ((show Xi T10 975 (q).toNat = Xi T2 975 (q).toNat from (w124.cx 975 rfl _).1)))
            have w182 : Xi U15 904 106 = Xi T14 904 106 := (show Xi U15 904 106 = Xi T14 904 106 from by rw [eU15]; exact Xi_ne (by omega))
            have w183 : 0 ≤ Xi T14 904 106 ∧ Xi T14 904 106 ≤ 9 := hHT14.c _ _
            have w184 : Xi U15 904 113 = Xi T2 904 113 := (show Xi U15 904 113 = Xi T14 904 113 from by rw [eU15]; exact Xi_ne (by omega)).trans ( (show Xi T14 904 113 = Xi T10 904 113 from w173.x _ _ rfl).trans ((show Xi T10 904 113 = Xi T2 904 113 from w124.x _ _ rfl)))
            have w185 : -1 ≤ Xi T2 904 113 ∧ Xi T2 904 113 ≤ 6411 := hHT2.c _ _
            have w186 : Xi U15 904 69 = Xi T2 904 69 := (show Xi U15 904 69 = Xi T14 904 69 from by rw [eU15]; exact Xi_ne (by omega)).trans ( (show Xi T14 904 69 = Xi T10 904 69 from w173.x _ _ rfl).trans ((show Xi T10 904 69 = Xi T2 904 69 from w124.x _ _ rfl)))
            have w187 : 0 ≤ Xi T2 904 69 ∧ Xi T2 904 69 ≤ 2600 := hHT2.c _ _
            exact ⟨hHU15, hFU15, rfl, (by omega), (by first | exact (fun _ q => (by have s := f52 (by omega); exact tq_5 (by omega) (thk_c (b := 0 ≤ Xi S 904 115) (c := 0 ≤ Xi S 904 116) (S := S) (by have t := s.1; unfold thK at *; have a := h52; omega) (hFU15.x 904 19 rfl) (by omega)) (thk_c (S := S) (by have t := s.2.1; unfold thK at *; have a := h52; omega) (hFU15.x 904 19 rfl) (by omega)) (by have t := s.2.2; omega))) f52 | exact (fun _ q => tq_3 (by omega) (thk_c (H209) (hFU15.x 904 19 rfl) (by omega)) (adx_c (W209 (by omega)) (hFU15.x 904 23 rfl) (hFU15.x 904 32 rfl) (by omega))) W209 | exact (fun _ q => tq_4 (by omega) (thk_c (H277 (by omega)) (hFU15.x 904 19 rfl) (by omega))) q299 | exact (fun _ q => tq_2 (by omega) (thk_c (H328 (by omega)) (hFU15.x 904 19 rfl) (by omega)) (by have a := hFU15.x 904 32 rfl; omega) (fun _ => o386)) o386 | exact (fun _ q => tq_2 (by omega) (thk_c (H328 (by omega)) (hFU15.x 904 19 rfl) (by omega)) (by have a := hFU15.x 904 32 rfl; omega) (fun y => absurd y (by omega))) p337 | exact fun x => absurd x (by omega)), (by first | exact fun x y => ⟨by have t := hnf y; omega, fun z => absurd z (by omega)⟩ | exact (fun _ q => fun y => ⟨by omega, fun _ z => by rw [(hFU15.cx 922 rfl _).1, show Xi U15 973 (q).toNat = _ from by omega]; exact (W209 (by omega)).2 (by omega) (by omega)⟩) W209 | exact fun x => absurd x (by omega)), ((KQ.w (KQ_FR w173 rfl (KQ_FR w124 rfl (by assumption : KQ T2 S _))) eU15 (by omega)))⟩
          · refine l_aload_n rfl rfl ?_
            refine l_gfi rfl rfl rfl rfl rfl ?_
            have w188 : (Xi T14 904 113) = (Xi T2 904 113) := (show Xi T14 904 113 = Xi T10 904 113 from w173.x _ _ rfl).trans ((show Xi T10 904 113 = Xi T2 904 113 from w124.x _ _ rfl))
            rw [w188]
            refine l_goto rfl rfl ?_
            refine l_iastore (n := 2400) rfl rfl (by omega) (by omega) (by unfold rg; omega) ?_
            obtain ⟨U16, eU16⟩ : ∃ T : sS, T = uI T14 973 ((q).toNat) (Int32.ofInt (Xi T2 904 113)) := ⟨_, rfl⟩
            rw [← eU16]
            have hHU16 : HI U16 := by rw [eU16]; exact HI_any hHT14 (rfl)
            have hFU16 : FR md_mo_testMeant S U16 := by rw [eU16]; exact FR.wI hFT14 (mdf_i (r := (973, 974, 0, 100000)) (List.mem_of_getElem? (i := 9) rfl) (inR_i (by omega) (by omega) (by omega) (by omega)))
            have w189 : Xi U16 973 ((q).toNat) = (Xi T2 904 113) := by rw [eU16]; exact Xi_same (by unfold rg; omega)
            refine l_goto rfl rfl ?_
            refine l_return rfl rfl ?_
            have w190 : Xi U16 969 (q).toNat = Xi T2 969 (q).toNat := (show Xi U16 969 (q).toNat = Xi T14 969 (q).toNat from by rw [eU16]; exact Xi_ne (by omega)).trans ( (show Xi T14 969 (q).toNat = Xi T10 969 (q).toNat from (w173.cx 969 rfl _).1).trans ((show Xi T10 969 (q).toNat = Xi T2 969 (q).toNat from (w124.cx 969 rfl _).1)))
            have w191 : Xi U16 971 (q).toNat = Xi T2 971 (q).toNat := (show Xi U16 971 (q).toNat = Xi T14 971 (q).toNat from by rw [eU16]; exact Xi_ne (by omega)).trans ( (show Xi T14 971 (q).toNat = Xi T10 971 (q).toNat from (w173.cx 971 rfl _).1).trans ((show Xi T10 971 (q).toNat = Xi T2 971 (q).toNat from (w124.cx 971 rfl _).1)))
            have w192 : Xi U16 972 (q).toNat = Xi T2 972 (q).toNat := (show Xi U16 972 (q).toNat = Xi T14 972 (q).toNat from by rw [eU16]; exact Xi_ne (by omega)).trans ( (show Xi T14 972 (q).toNat = Xi T10 972 (q).toNat from (w173.cx 972 rfl _).1).trans ((show Xi T10 972 (q).toNat = Xi T2 972 (q).toNat from (w124.cx 972 rfl _).1)))
            have w193 : Xi U16 974 (q).toNat = Xi T2 974 (q).toNat := (show Xi U16 974 (q).toNat = Xi T14 974 (q).toNat from by rw [eU16]; exact Xi_ne (by omega)).trans ( (show Xi T14 974 (q).toNat = Xi T10 974 (q).toNat from (w173.cx 974 rfl _).1).trans ((show Xi T10 974 (q).toNat = Xi T2 974 (q).toNat from (w124.cx 974 rfl _).1)))
            have w194 : Xi U16 975 (q).toNat = Xi T2 975 (q).toNat := (show Xi U16 975 (q).toNat = Xi T14 975 (q).toNat from by rw [eU16]; exact Xi_ne (by omega)).trans ( (show Xi T14 975 (q).toNat = Xi T10 975 (q).toNat from (w173.cx 975 rfl _).1).trans ((show Xi T10 975 (q).toNat = Xi T2 975 (q).toNat from (w124.cx 975 rfl _).1)))
            have w195 : Xi U16 904 106 = Xi T14 904 106 := (show Xi U16 904 106 = Xi T14 904 106 from by rw [eU16]; exact Xi_ne (by omega))
            have w196 : 0 ≤ Xi T14 904 106 ∧ Xi T14 904 106 ≤ 9 := hHT14.c _ _
            have w197 : Xi U16 904 113 = Xi T2 904 113 := (show Xi U16 904 113 = Xi T14 904 113 from by rw [eU16]; exact Xi_ne (by omega)).trans ( (show Xi T14 904 113 = Xi T10 904 113 from w173.x _ _ rfl).trans ((show Xi T10 904 113 = Xi T2 904 113 from w124.x _ _ rfl)))
            have w198 : -1 ≤ Xi T2 904 113 ∧ Xi T2 904 113 ≤ 6411 := hHT2.c _ _
            have w199 : Xi U16 904 69 = Xi T2 904 69 := (show Xi U16 904 69 = Xi T14 904 69 from by rw [eU16]; exact Xi_ne (by omega)).trans ( (show Xi T14 904 69 = Xi T10 904 69 from w173.x _ _ rfl).trans ((show Xi T10 904 69 = Xi T2 904 69 from w124.x _ _ rfl)))
            have w200 : 0 ≤ Xi T2 904 69 ∧ Xi T2 904 69 ≤ 2600 := hHT2.c _ _
            exact ⟨hHU16, hFU16, rfl, (by omega), (by first | exact (fun _ q => (by have s := f52 (by omega); exact tq_5 (by omega) (thk_c (b := 0 ≤ Xi S 904 115) (c := 0 ≤ Xi S 904 116) (S := S) (by have t := s.1; unfold thK at *; have a := h52; omega) (hFU16.x 904 19 rfl) (by omega)) (thk_c (S := S) (by have t := s.2.1; unfold thK at *; have a := h52; omega) (hFU16.x 904 19 rfl) (by omega)) (by have t := s.2.2; omega))) f52 | exact (fun _ q => tq_3 (by omega) (thk_c (H209) (hFU16.x 904 19 rfl) (by omega)) (adx_c (W209 (by omega)) (hFU16.x 904 23 rfl) (hFU16.x 904 32 rfl) (by omega))) W209 | exact (fun _ q => tq_4 (by omega) (thk_c (H277 (by omega)) (hFU16.x 904 19 rfl) (by omega))) q299 | exact (fun _ q => tq_2 (by omega) (thk_c (H328 (by omega)) (hFU16.x 904 19 rfl) (by omega)) (by have a := hFU16.x 904 32 rfl; omega) (fun _ => o386)) o386 | exact (fun _ q => tq_2 (by omega) (thk_c (H328 (by omega)) (hFU16.x 904 19 rfl) (by omega)) (by have a := hFU16.x 904 32 rfl; omega) (fun y => absurd y (by omega))) p337 | exact fun x => absurd x (by omega)), (by first | exact fun x y => ⟨by have t := hnf y; omega, fun z => absurd z (by omega)⟩ | exact (fun _ q => fun y => ⟨by omega, fun _ z => by rw [(hFU16.cx 922 rfl _).1, show Xi U16 973 (q).toNat = _ from by omega]; exact (W209 (by omega)).2 (by omega) (by omega)⟩) W209 | exact fun x => absurd x (by omega)), ((KQ.w (KQ_FR w173 rfl (KQ_FR w124 rfl (by assumption : KQ T2 S _))) eU16 (by omega)))⟩
    have C277 : ∀  (T17 : sS) (_ : HI T17) (_ : FR md_mo_testMeant S T17) (v4 : Int), (-9 ≤ v4 ∧ v4 ≤ 23) → (Xi T17 969 (q).toNat = Xi S 952 i.toNat) → (Xi S 904 106 ≠ 0 → Xi T17 904 106 ≠ 0) → (Xi T17 904 69 = Xi S 904 69) → (KQ T17 S q) → (Xi T17 971 (q).toNat = v4) → (v4 = -9 → Xi T17 904 106 ≠ 0) → (v4 ≠ -9 → thK S (0 ≤ Xi S 904 115) (0 ≤ Xi S 904 116) v4) → (Xi S 952 i.toNat ≠ 5) → (Xi S 952 i.toNat ≠ 3) → Rl lay0 (d + 6) m_mo_testMeant 277 [(0, .ref 904), (1, iv i), (2, iv q), (4, iv v4)] [] T17 (Q_mo_testMeant S n i q isNow) := by
      intro T17 hHT17 hFT17 v4 w201 w202 w203 w204 K277 w205 w206 H277 w207 w208
      have w209 : Xi T17 904 115 = Xi S 904 115 := hFT17.x _ _ rfl
      have w210 : Xi T17 904 116 = Xi S 904 116 := hFT17.x _ _ rfl
      have w211 : Xi T17 904 19 = Xi S 904 19 := hFT17.x _ _ rfl
      have w212 : Xi T17 904 32 = Xi S 904 32 := hFT17.x _ _ rfl
      have w213 : Xi T17 904 69 = Xi S 904 69 := hFT17.x _ _ rfl
      have w214 : 0 ≤ Xi T17 904 106 ∧ Xi T17 904 106 ≤ 9 := hHT17.c _ _
      have w215 : 0 ≤ Xi T17 904 69 ∧ Xi T17 904 69 ≤ 2600 := hHT17.c _ _
      have C328 : ∀  (v4 : Int), (-9 ≤ v4 ∧ v4 ≤ 23) → (Xi T17 969 (q).toNat = Xi S 952 i.toNat) → (Xi S 904 106 ≠ 0 → Xi T17 904 106 ≠ 0) → (Xi T17 904 69 = Xi S 904 69) → (KQ T17 S q) → (Xi T17 971 (q).toNat = v4) → (v4 = -9 → Xi T17 904 106 ≠ 0) → (v4 ≠ -9 → thK S (0 ≤ Xi S 904 115) (0 ≤ Xi S 904 116) v4) → (Xi S 952 i.toNat ≤ 2) → Rl lay0 (d + 6) m_mo_testMeant 328 [(0, .ref 904), (1, iv i), (2, iv q), (4, iv v4)] [] T17 (Q_mo_testMeant S n i q isNow) := by
        intro v4 w216 w217 w218 w219 K328 w220 w221 H328 w222
        refine l_aload_n rfl rfl ?_
        refine l_aload_n rfl rfl ?_
        refine l_gfr rfl rfl rfl rfl rfl (hHT17.r 904 86 956 rfl) ?_
        refine l_iload_n rfl rfl ?_
        refine l_iaload (n := 1700) rfl rfl (by omega) (by omega) (by unfold rg; omega) ?_
        have w223 : 0 ≤ (Xi T17 956 ((i).toNat)) ∧ (Xi T17 956 ((i).toNat)) ≤ 2600 := hHT17.c _ _
        have e334 : (Xi T17 956 ((i).toNat)) = Xi S 956 (i).toNat := by first | rfl | exact (hFT17.cx 956 rfl _).1
        have t334 := htv.2.2.1 (by omega)
        refine l_iload rfl rfl ?_
        have w224 : 0 ≤ Xi T17 904 106 ∧ Xi T17 904 106 ≤ 9 := hHT17.c _ _
        have w225 : -1 ≤ Xi T17 904 113 ∧ Xi T17 904 113 ≤ 6411 := hHT17.c _ _
        have w226 : 0 ≤ Xi T17 904 32 ∧ Xi T17 904 32 ≤ 12 := hHT17.c _ _
        have w227 : 0 ≤ Xi T17 904 69 ∧ Xi T17 904 69 ≤ 2600 := hHT17.c _ _
        refine l_callV rfl rfl rfl (t_mo_propertyMeant__2 hHT17 n (Xi T17 956 ((i).toNat)) v4 ⟨by omega, by omega⟩ ⟨by omega, by omega⟩ (by first | assumption | exact (TK_FR hFT17 rfl (by assumption : TK S _))) (by first | assumption | exact (RNV_FR hFT17 rfl (by assumption : RNV S _))) (by first | assumption | omega) (by first | assumption | exact (LXM_FR hFT17 rfl (by assumption : LXM S))) (by first | assumption | exact (ABV_FR hFT17 rfl (by assumption : ABV S))) (by first | assumption | omega) _) ?_
        rintro _ T18 ⟨hHT18, w233, z232, rfl, w232, p337, w228, w229, w230, w231⟩
        have hFT18 : FR md_mo_testMeant S T18 := FR.tr hFT17 w233 rfl
        show Rl _ _ _ _ _ [iv z232] _ _
        refine l_istore rfl rfl rfl ?_
        refine l_aload_n rfl rfl ?_
        refine l_gfr rfl rfl rfl rfl rfl (hHT18.r 904 121 972 rfl) ?_
        refine l_iload_n rfl rfl ?_
        refine l_iload rfl rfl ?_
        refine l_iastore (n := 2400) rfl rfl (by omega) (by omega) (by unfold rg; omega) ?_
        obtain ⟨U19, eU19⟩ : ∃ T : sS, T = uI T18 972 ((q).toNat) (Int32.ofInt z232) := ⟨_, rfl⟩
        rw [← eU19]
        have hHU19 : HI U19 := by rw [eU19]; exact HI_w hHT18 (show -1 ≤ z232 by omega) (show z232 ≤ 11 by omega)
        have hFU19 : FR md_mo_testMeant S U19 := by rw [eU19]; exact FR.wI hFT18 (mdf_i (r := (972, 973, 0, 100000)) (List.mem_of_getElem? (i := 8) rfl) (inR_i (by omega) (by omega) (by omega) (by omega)))
        have w234 : Xi U19 972 ((q).toNat) = z232 := by rw [eU19]; exact Xi_same (by unfold rg; omega)
        refine l_iload rfl rfl ?_
        refine l_iconst rfl ?_
        refine l_icmp_eq rfl rfl (by unfold rg; omega) (by unfold rg; omega) (fun w235 => ?_) (fun w236 => ?_)
        · refine l_aload_n rfl rfl ?_
          refine l_gfr rfl rfl rfl rfl rfl (hHU19.r 904 82 952 rfl) ?_
          refine l_iload_n rfl rfl ?_
          refine l_iaload (n := 1700) rfl rfl (by omega) (by omega) (by unfold rg; omega) ?_
          have w237 : 0 ≤ (Xi U19 952 ((i).toNat)) ∧ (Xi U19 952 ((i).toNat)) ≤ 5 := hHU19.c _ _
          have e397 : (Xi U19 952 ((i).toNat)) = Xi S 952 (i).toNat := by first | rfl | exact (hFU19.cx 952 rfl _).1
          refine l_if_eq rfl rfl (by unfold rg; omega) (fun w238 => ?_) (fun w239 => ?_)
          · refine l_return rfl rfl ?_
            have w240 : Xi U19 969 (q).toNat = Xi T17 969 (q).toNat := (show Xi U19 969 (q).toNat = Xi T18 969 (q).toNat from by rw [eU19]; exact Xi_ne (by omega)).trans ((show Xi T18 969 (q).toNat = Xi T17 969 (q).toNat from (w233.cx 969 rfl _).1))
            have w241 : Xi U19 971 (q).toNat = Xi T17 971 (q).toNat := (show Xi U19 971 (q).toNat = Xi T18 971 (q).toNat from by rw [eU19]; exact Xi_ne (by omega)).trans ((show Xi T18 971 (q).toNat = Xi T17 971 (q).toNat from (w233.cx 971 rfl _).1))
            have w242 : Xi U19 973 (q).toNat = Xi T17 973 (q).toNat := (show Xi U19 973 (q).toNat = Xi T18 973 (q).toNat from by rw [eU19]; exact Xi_ne (by omega)).trans ((show Xi T18 973 (q).toNat = Xi T17 973 (q).toNat from (w233.cx 973 rfl _).1))
            have w243 : Xi U19 974 (q).toNat = Xi T17 974 (q).toNat := (show Xi U19 974 (q).toNat = Xi T18 974 (q).toNat from by rw [eU19]; exact Xi_ne (by omega)).trans ((show Xi T18 974 (q).toNat = Xi T17 974 (q).toNat from (w233.cx 974 rfl _).1))
            have w244 : Xi U19 975 (q).toNat = Xi T17 975 (q).toNat := (show Xi U19 975 (q).toNat = Xi T18 975 (q).toNat from by rw [eU19]; exact Xi_ne (by omega)).trans ((show Xi T18 975 (q).toNat = Xi T17 975 (q).toNat from (w233.cx 975 rfl _).1))
            have w245 : Xi U19 904 106 = Xi T18 904 106 := (show Xi U19 904 106 = Xi T18 904 106 from by rw [eU19]; exact Xi_ne (by omega))
            have w246 : 0 ≤ Xi T18 904 106 ∧ Xi T18 904 106 ≤ 9 := hHT18.c _ _
            have w247 : Xi U19 904 113 = Xi T17 904 113 := (show Xi U19 904 113 = Xi T18 904 113 from by rw [eU19]; exact Xi_ne (by omega)).trans ((show Xi T18 904 113 = Xi T17 904 113 from w233.x _ _ rfl))
            have w248 : -1 ≤ Xi T17 904 113 ∧ Xi T17 904 113 ≤ 6411 := hHT17.c _ _
            have w249 : Xi U19 904 69 = Xi T17 904 69 := (show Xi U19 904 69 = Xi T18 904 69 from by rw [eU19]; exact Xi_ne (by omega)).trans ((show Xi T18 904 69 = Xi T17 904 69 from w233.x _ _ rfl))
            have w250 : 0 ≤ Xi T17 904 69 ∧ Xi T17 904 69 ≤ 2600 := hHT17.c _ _
            exact ⟨hHU19, hFU19, rfl, (by omega), (by first | exact (fun _ q => (by have s := f52 (by omega); exact tq_5 (by omega) (thk_c (b := 0 ≤ Xi S 904 115) (c := 0 ≤ Xi S 904 116) (S := S) (by have t := s.1; unfold thK at *; have a := h52; omega) (hFU19.x 904 19 rfl) (by omega)) (thk_c (S := S) (by have t := s.2.1; unfold thK at *; have a := h52; omega) (hFU19.x 904 19 rfl) (by omega)) (by have t := s.2.2; omega))) f52 | exact (fun _ q => tq_3 (by omega) (thk_c (H209) (hFU19.x 904 19 rfl) (by omega)) (adx_c (W209 (by omega)) (hFU19.x 904 23 rfl) (hFU19.x 904 32 rfl) (by omega))) W209 | exact (fun _ q => tq_4 (by omega) (thk_c (H277 (by omega)) (hFU19.x 904 19 rfl) (by omega))) q299 | exact (fun _ q => tq_2 (by omega) (thk_c (H328 (by omega)) (hFU19.x 904 19 rfl) (by omega)) (by have a := hFU19.x 904 32 rfl; omega) (fun _ => o386)) o386 | exact (fun _ q => tq_2 (by omega) (thk_c (H328 (by omega)) (hFU19.x 904 19 rfl) (by omega)) (by have a := hFU19.x 904 32 rfl; omega) (fun y => absurd y (by omega))) p337 | exact fun x => absurd x (by omega)), (by first | exact fun x y => ⟨by have t := hnf y; omega, fun z => absurd z (by omega)⟩ | exact (fun _ q => fun y => ⟨by omega, fun _ z => by rw [(hFU19.cx 922 rfl _).1, show Xi U19 973 (q).toNat = _ from by omega]; exact (W209 (by omega)).2 (by omega) (by omega)⟩) W209 | exact fun x => absurd x (by omega)), ((KQ.w (KQ_FR w233 rfl (by assumption : KQ T17 S _)) eU19 (by omega)))⟩
          · refine l_aload_n rfl rfl ?_
            refine l_aload_n rfl rfl ?_
            refine l_gfr rfl rfl rfl rfl rfl (hHU19.r 904 86 956 rfl) ?_
            refine l_iload_n rfl rfl ?_
            refine l_iaload (n := 1700) rfl rfl (by omega) (by omega) (by unfold rg; omega) ?_
            have w251 : (Xi U19 956 ((i).toNat)) = (Xi T17 956 ((i).toNat)) := (show Xi U19 956 ((i).toNat) = Xi T18 956 ((i).toNat) from by rw [eU19]; exact Xi_ne (by omega)).trans ((show Xi T18 956 ((i).toNat) = Xi T17 956 ((i).toNat) from w233.x _ _ rfl))
            rw [w251]
            have e407 : (Xi T17 956 ((i).toNat)) = Xi S 956 (i).toNat := by first | rfl | exact (hFU19.cx 956 rfl _).1
            have t407 := htv.2.2.1 (by omega)
            have w252 : Xi U19 904 106 = Xi T18 904 106 := (show Xi U19 904 106 = Xi T18 904 106 from by rw [eU19]; exact Xi_ne (by omega))
            have w253 : 0 ≤ Xi T18 904 106 ∧ Xi T18 904 106 ≤ 9 := hHT18.c _ _
            have w254 : Xi U19 904 113 = Xi T17 904 113 := (show Xi U19 904 113 = Xi T18 904 113 from by rw [eU19]; exact Xi_ne (by omega)).trans ((show Xi T18 904 113 = Xi T17 904 113 from w233.x _ _ rfl))
            have w255 : -1 ≤ Xi T17 904 113 ∧ Xi T17 904 113 ≤ 6411 := hHT17.c _ _
            have w256 : Xi U19 904 69 = Xi T17 904 69 := (show Xi U19 904 69 = Xi T18 904 69 from by rw [eU19]; exact Xi_ne (by omega)).trans ((show Xi T18 904 69 = Xi T17 904 69 from w233.x _ _ rfl))
            have w257 : 0 ≤ Xi T17 904 69 ∧ Xi T17 904 69 ≤ 2600 := hHT17.c _ _
            refine l_callV rfl rfl rfl (t_mo_numberMeant__2 hHU19 n (Xi T17 956 ((i).toNat)) ⟨by omega, by omega⟩ (by first | assumption | exact (TK_FR hFU19 rfl (by assumption : TK S _))) (by first | assumption | exact (RNV_FR hFU19 rfl (by assumption : RNV S _))) (by first | assumption | omega) (by first | assumption | exact (LXM_FR hFU19 rfl (by assumption : LXM S))) _) ?_
            rintro _ T20 ⟨hHT20, w261, rfl, w258, w259⟩
            have hFT20 : FR md_mo_testMeant S T20 := FR.tr hFU19 w261 rfl
            show Rl _ _ _ _ _ [] _ _
            refine l_aload_n rfl rfl ?_
            refine l_gfr rfl rfl rfl rfl rfl (hHT20.r 904 122 973 rfl) ?_
            refine l_iload_n rfl rfl ?_
            refine l_aload_n rfl rfl ?_
            refine l_gfr rfl rfl rfl rfl rfl (hHT20.r 904 7 910 rfl) ?_
            refine l_aload_n rfl rfl ?_
            refine l_gfr rfl rfl rfl rfl rfl (hHT20.r 904 87 957 rfl) ?_
            refine l_iload_n rfl rfl ?_
            refine l_iaload (n := 1700) rfl rfl (by omega) (by omega) (by unfold rg; omega) ?_
            have w262 : 0 ≤ (Xi T20 957 ((i).toNat)) ∧ (Xi T20 957 ((i).toNat)) ≤ 5010 := hHT20.c _ _
            have e425 : (Xi T20 957 ((i).toNat)) = Xi S 957 (i).toNat := by first | rfl | exact (hFT20.cx 957 rfl _).1
            have t425 := htv.2.2.2.2.1 (by omega)
            refine l_laload (n := 5002) rfl rfl (by omega) (by omega) (by unfold rg; omega) ?_
            have w263 : -9223372036854775808 ≤ (Xj T20 910 (((Xi T20 957 ((i).toNat))).toNat)) ∧ (Xj T20 910 (((Xi T20 957 ((i).toNat))).toNat)) < 9223372036854775808 := Xj_rg
            refine l_l2iA rfl (fun c264 w264 => ?_)
            refine l_iastore (n := 2400) rfl rfl (by omega) (by omega) (by unfold rg; omega) ?_
            obtain ⟨U21, eU21⟩ : ∃ T : sS, T = uI T20 973 ((q).toNat) (Int32.ofInt c264) := ⟨_, rfl⟩
            rw [← eU21]
            have hHU21 : HI U21 := by rw [eU21]; exact HI_any hHT20 (rfl)
            have hFU21 : FR md_mo_testMeant S U21 := by rw [eU21]; exact FR.wI hFT20 (mdf_i (r := (973, 974, 0, 100000)) (List.mem_of_getElem? (i := 9) rfl) (inR_i (by omega) (by omega) (by omega) (by omega)))
            have w265 : Xi U21 973 ((q).toNat) = c264 := by rw [eU21]; exact Xi_same (by unfold rg; omega)
            refine l_return rfl rfl ?_
            have w266 : Xi U21 969 (q).toNat = Xi T17 969 (q).toNat := (show Xi U21 969 (q).toNat = Xi T20 969 (q).toNat from by rw [eU21]; exact Xi_ne (by omega)).trans ( (show Xi T20 969 (q).toNat = Xi U19 969 (q).toNat from (w261.cx 969 rfl _).1).trans ( (show Xi U19 969 (q).toNat = Xi T18 969 (q).toNat from by rw [eU19]; exact Xi_ne (by omega)).trans ((show Xi T18 969 (q).toNat = Xi T17 969 (q).toNat from (w233.cx 969 rfl _).1))))
            have w267 : Xi U21 971 (q).toNat = Xi T17 971 (q).toNat := (show Xi U21 971 (q).toNat = Xi T20 971 (q).toNat from by rw [eU21]; exact Xi_ne (by omega)).trans ( (show Xi T20 971 (q).toNat = Xi U19 971 (q).toNat from (w261.cx 971 rfl _).1).trans ( (show Xi U19 971 (q).toNat = Xi T18 971 (q).toNat from by rw [eU19]; exact Xi_ne (by omega)).trans ((show Xi T18 971 (q).toNat = Xi T17 971 (q).toNat from (w233.cx 971 rfl _).1))))
            have w268 : Xi U21 972 (q).toNat = Xi U19 972 (q).toNat := (show Xi U21 972 (q).toNat = Xi T20 972 (q).toNat from by rw [eU21]; exact Xi_ne (by omega)).trans ((show Xi T20 972 (q).toNat = Xi U19 972 (q).toNat from (w261.cx 972 rfl _).1))
            have w269 : Xi U21 974 (q).toNat = Xi T17 974 (q).toNat := (show Xi U21 974 (q).toNat = Xi T20 974 (q).toNat from by rw [eU21]; exact Xi_ne (by omega)).trans ( (show Xi T20 974 (q).toNat = Xi U19 974 (q).toNat from (w261.cx 974 rfl _).1).trans ( (show Xi U19 974 (q).toNat = Xi T18 974 (q).toNat from by rw [eU19]; exact Xi_ne (by omega)).trans ((show Xi T18 974 (q).toNat = Xi T17 974 (q).toNat from (w233.cx 974 rfl _).1))))
            have w270 : Xi U21 975 (q).toNat = Xi T17 975 (q).toNat := (show Xi U21 975 (q).toNat = Xi T20 975 (q).toNat from by rw [eU21]; exact Xi_ne (by omega)).trans ( (show Xi T20 975 (q).toNat = Xi U19 975 (q).toNat from (w261.cx 975 rfl _).1).trans ( (show Xi U19 975 (q).toNat = Xi T18 975 (q).toNat from by rw [eU19]; exact Xi_ne (by omega)).trans ((show Xi T18 975 (q).toNat = Xi T17 975 (q).toNat from (w233.cx 975 rfl _).1))))
            have w271 : Xi U21 904 106 = Xi T20 904 106 := (show Xi U21 904 106 = Xi T20 904 106 from by rw [eU21]; exact Xi_ne (by omega))
            have w272 : 0 ≤ Xi T20 904 106 ∧ Xi T20 904 106 ≤ 9 := hHT20.c _ _
            have w273 : Xi U21 904 113 = Xi T17 904 113 := (show Xi U21 904 113 = Xi T20 904 113 from by rw [eU21]; exact Xi_ne (by omega)).trans ( (show Xi T20 904 113 = Xi U19 904 113 from w261.x _ _ rfl).trans ( (show Xi U19 904 113 = Xi T18 904 113 from by rw [eU19]; exact Xi_ne (by omega)).trans ((show Xi T18 904 113 = Xi T17 904 113 from w233.x _ _ rfl))))
            have w274 : -1 ≤ Xi T17 904 113 ∧ Xi T17 904 113 ≤ 6411 := hHT17.c _ _
            have w275 : Xi U21 904 69 = Xi T17 904 69 := (show Xi U21 904 69 = Xi T20 904 69 from by rw [eU21]; exact Xi_ne (by omega)).trans ( (show Xi T20 904 69 = Xi U19 904 69 from w261.x _ _ rfl).trans ( (show Xi U19 904 69 = Xi T18 904 69 from by rw [eU19]; exact Xi_ne (by omega)).trans ((show Xi T18 904 69 = Xi T17 904 69 from w233.x _ _ rfl))))
            have w276 : 0 ≤ Xi T17 904 69 ∧ Xi T17 904 69 ≤ 2600 := hHT17.c _ _
            exact ⟨hHU21, hFU21, rfl, (by omega), (by first | exact (fun _ q => (by have s := f52 (by omega); exact tq_5 (by omega) (thk_c (b := 0 ≤ Xi S 904 115) (c := 0 ≤ Xi S 904 116) (S := S) (by have t := s.1; unfold thK at *; have a := h52; omega) (hFU21.x 904 19 rfl) (by omega)) (thk_c (S := S) (by have t := s.2.1; unfold thK at *; have a := h52; omega) (hFU21.x 904 19 rfl) (by omega)) (by have t := s.2.2; omega))) f52 | exact (fun _ q => tq_3 (by omega) (thk_c (H209) (hFU21.x 904 19 rfl) (by omega)) (adx_c (W209 (by omega)) (hFU21.x 904 23 rfl) (hFU21.x 904 32 rfl) (by omega))) W209 | exact (fun _ q => tq_4 (by omega) (thk_c (H277 (by omega)) (hFU21.x 904 19 rfl) (by omega))) q299 | exact (fun _ q => tq_2 (by omega) (thk_c (H328 (by omega)) (hFU21.x 904 19 rfl) (by omega)) (by have a := hFU21.x 904 32 rfl; omega) (fun _ => o386)) o386 | exact (fun _ q => tq_2 (by omega) (thk_c (H328 (by omega)) (hFU21.x 904 19 rfl) (by omega)) (by have a := hFU21.x 904 32 rfl; omega) (fun y => absurd y (by omega))) p337 | exact fun x => absurd x (by omega)), (by first | exact fun x y => ⟨by have t := hnf y; omega, fun z => absurd z (by omega)⟩ | exact (fun _ q => fun y => ⟨by omega, fun _ z => by rw [(hFU21.cx 922 rfl _).1, show Xi U21 973 (q).toNat = _ from by omega]; exact (W209 (by omega)).2 (by omega) (by omega)⟩) W209 | exact fun x => absurd x (by omega)), ((KQ.w (KQ_FR w261 rfl (KQ.w (KQ_FR w233 rfl (by assumption : KQ T17 S _)) eU19 (by omega))) eU21 (by omega)))⟩
        · refine l_aload_n rfl rfl ?_
          refine l_gfr rfl rfl rfl rfl rfl (hHU19.r 904 82 952 rfl) ?_
          refine l_iload_n rfl rfl ?_
          refine l_iaload (n := 1700) rfl rfl (by omega) (by omega) (by unfold rg; omega) ?_
          have w277 : 0 ≤ (Xi U19 952 ((i).toNat)) ∧ (Xi U19 952 ((i).toNat)) ≤ 5 := hHU19.c _ _
          have e361 : (Xi U19 952 ((i).toNat)) = Xi S 952 (i).toNat := by first | rfl | exact (hFU19.cx 952 rfl _).1
          refine l_if_ne rfl rfl (by unfold rg; omega) (fun w278 => ?_) (fun w279 => ?_)
          · refine l_aload_n rfl rfl ?_
            refine l_gfr rfl rfl rfl rfl rfl (hHU19.r 904 82 952 rfl) ?_
            refine l_iload_n rfl rfl ?_
            refine l_iaload (n := 1700) rfl rfl (by omega) (by omega) (by unfold rg; omega) ?_
            have e397 : (Xi U19 952 ((i).toNat)) = Xi S 952 (i).toNat := by first | rfl | exact (hFU19.cx 952 rfl _).1
            refine l_if_eq rfl rfl (by unfold rg; omega) (fun w280 => ?_) (fun w281 => ?_)
            · refine l_return rfl rfl ?_
              have w282 : Xi U19 969 (q).toNat = Xi T17 969 (q).toNat := (show Xi U19 969 (q).toNat = Xi T18 969 (q).toNat from by rw [eU19]; exact Xi_ne (by omega)).trans ((show Xi T18 969 (q).toNat = Xi T17 969 (q).toNat from (w233.cx 969 rfl _).1))
              have w283 : Xi U19 971 (q).toNat = Xi T17 971 (q).toNat := (show Xi U19 971 (q).toNat = Xi T18 971 (q).toNat from by rw [eU19]; exact Xi_ne (by omega)).trans ((show Xi T18 971 (q).toNat = Xi T17 971 (q).toNat from (w233.cx 971 rfl _).1))
              have w284 : Xi U19 973 (q).toNat = Xi T17 973 (q).toNat := (show Xi U19 973 (q).toNat = Xi T18 973 (q).toNat from by rw [eU19]; exact Xi_ne (by omega)).trans ((show Xi T18 973 (q).toNat = Xi T17 973 (q).toNat from (w233.cx 973 rfl _).1))
              have w285 : Xi U19 974 (q).toNat = Xi T17 974 (q).toNat := (show Xi U19 974 (q).toNat = Xi T18 974 (q).toNat from by rw [eU19]; exact Xi_ne (by omega)).trans ((show Xi T18 974 (q).toNat = Xi T17 974 (q).toNat from (w233.cx 974 rfl _).1))
              have w286 : Xi U19 975 (q).toNat = Xi T17 975 (q).toNat := (show Xi U19 975 (q).toNat = Xi T18 975 (q).toNat from by rw [eU19]; exact Xi_ne (by omega)).trans ((show Xi T18 975 (q).toNat = Xi T17 975 (q).toNat from (w233.cx 975 rfl _).1))
              have w287 : Xi U19 904 106 = Xi T18 904 106 := (show Xi U19 904 106 = Xi T18 904 106 from by rw [eU19]; exact Xi_ne (by omega))
              have w288 : 0 ≤ Xi T18 904 106 ∧ Xi T18 904 106 ≤ 9 := hHT18.c _ _
              have w289 : Xi U19 904 113 = Xi T17 904 113 := (show Xi U19 904 113 = Xi T18 904 113 from by rw [eU19]; exact Xi_ne (by omega)).trans ((show Xi T18 904 113 = Xi T17 904 113 from w233.x _ _ rfl))
              have w290 : -1 ≤ Xi T17 904 113 ∧ Xi T17 904 113 ≤ 6411 := hHT17.c _ _
              have w291 : Xi U19 904 69 = Xi T17 904 69 := (show Xi U19 904 69 = Xi T18 904 69 from by rw [eU19]; exact Xi_ne (by omega)).trans ((show Xi T18 904 69 = Xi T17 904 69 from w233.x _ _ rfl))
              have w292 : 0 ≤ Xi T17 904 69 ∧ Xi T17 904 69 ≤ 2600 := hHT17.c _ _
              exact ⟨hHU19, hFU19, rfl, (by omega), (by first | exact (fun _ q => (by have s := f52 (by omega); exact tq_5 (by omega) (thk_c (b := 0 ≤ Xi S 904 115) (c := 0 ≤ Xi S 904 116) (S := S) (by have t := s.1; unfold thK at *; have a := h52; omega) (hFU19.x 904 19 rfl) (by omega)) (thk_c (S := S) (by have t := s.2.1; unfold thK at *; have a := h52; omega) (hFU19.x 904 19 rfl) (by omega)) (by have t := s.2.2; omega))) f52 | exact (fun _ q => tq_3 (by omega) (thk_c (H209) (hFU19.x 904 19 rfl) (by omega)) (adx_c (W209 (by omega)) (hFU19.x 904 23 rfl) (hFU19.x 904 32 rfl) (by omega))) W209 | exact (fun _ q => tq_4 (by omega) (thk_c (H277 (by omega)) (hFU19.x 904 19 rfl) (by omega))) q299 | exact (fun _ q => tq_2 (by omega) (thk_c (H328 (by omega)) (hFU19.x 904 19 rfl) (by omega)) (by have a := hFU19.x 904 32 rfl; omega) (fun _ => o386)) o386 | exact (fun _ q => tq_2 (by omega) (thk_c (H328 (by omega)) (hFU19.x 904 19 rfl) (by omega)) (by have a := hFU19.x 904 32 rfl; omega) (fun y => absurd y (by omega))) p337 | exact fun x => absurd x (by omega)), (by first | exact fun x y => ⟨by have t := hnf y; omega, fun z => absurd z (by omega)⟩ | exact (fun _ q => fun y => ⟨by omega, fun _ z => by rw [(hFU19.cx 922 rfl _).1, show Xi U19 973 (q).toNat = _ from by omega]; exact (W209 (by omega)).2 (by omega) (by omega)⟩) W209 | exact fun x => absurd x (by omega)), ((KQ.w (KQ_FR w233 rfl (by assumption : KQ T17 S _)) eU19 (by omega)))⟩
            · refine l_aload_n rfl rfl ?_
              refine l_aload_n rfl rfl ?_
              refine l_gfr rfl rfl rfl rfl rfl (hHU19.r 904 86 956 rfl) ?_
              refine l_iload_n rfl rfl ?_
              refine l_iaload (n := 1700) rfl rfl (by omega) (by omega) (by unfold rg; omega) ?_
              have w293 : (Xi U19 956 ((i).toNat)) = (Xi T17 956 ((i).toNat)) := (show Xi U19 956 ((i).toNat) = Xi T18 956 ((i).toNat) from by rw [eU19]; exact Xi_ne (by omega)).trans ((show Xi T18 956 ((i).toNat) = Xi T17 956 ((i).toNat) from w233.x _ _ rfl))
              rw [w293]
              have e407 : (Xi T17 956 ((i).toNat)) = Xi S 956 (i).toNat := by first | rfl | exact (hFU19.cx 956 rfl _).1
              have t407 := htv.2.2.1 (by omega)
              have w294 : Xi U19 904 106 = Xi T18 904 106 := (show Xi U19 904 106 = Xi T18 904 106 from by rw [eU19]; exact Xi_ne (by omega))
              have w295 : 0 ≤ Xi T18 904 106 ∧ Xi T18 904 106 ≤ 9 := hHT18.c _ _
              have w296 : Xi U19 904 113 = Xi T17 904 113 := (show Xi U19 904 113 = Xi T18 904 113 from by rw [eU19]; exact Xi_ne (by omega)).trans ((show Xi T18 904 113 = Xi T17 904 113 from w233.x _ _ rfl))
              have w297 : -1 ≤ Xi T17 904 113 ∧ Xi T17 904 113 ≤ 6411 := hHT17.c _ _
              have w298 : Xi U19 904 69 = Xi T17 904 69 := (show Xi U19 904 69 = Xi T18 904 69 from by rw [eU19]; exact Xi_ne (by omega)).trans ((show Xi T18 904 69 = Xi T17 904 69 from w233.x _ _ rfl))
              have w299 : 0 ≤ Xi T17 904 69 ∧ Xi T17 904 69 ≤ 2600 := hHT17.c _ _
              refine l_callV rfl rfl rfl (t_mo_numberMeant__2 hHU19 n (Xi T17 956 ((i).toNat)) ⟨by omega, by omega⟩ (by first | assumption | exact (TK_FR hFU19 rfl (by assumption : TK S _))) (by first | assumption | exact (RNV_FR hFU19 rfl (by assumption : RNV S _))) (by first | assumption | omega) (by first | assumption | exact (LXM_FR hFU19 rfl (by assumption : LXM S))) _) ?_
              rintro _ T22 ⟨hHT22, w303, rfl, w300, w301⟩
              have hFT22 : FR md_mo_testMeant S T22 := FR.tr hFU19 w303 rfl
              show Rl _ _ _ _ _ [] _ _
              refine l_aload_n rfl rfl ?_
              refine l_gfr rfl rfl rfl rfl rfl (hHT22.r 904 122 973 rfl) ?_
              refine l_iload_n rfl rfl ?_
              refine l_aload_n rfl rfl ?_
              refine l_gfr rfl rfl rfl rfl rfl (hHT22.r 904 7 910 rfl) ?_
              refine l_aload_n rfl rfl ?_
              refine l_gfr rfl rfl rfl rfl rfl (hHT22.r 904 87 957 rfl) ?_
              refine l_iload_n rfl rfl ?_
              refine l_iaload (n := 1700) rfl rfl (by omega) (by omega) (by unfold rg; omega) ?_
              have w304 : 0 ≤ (Xi T22 957 ((i).toNat)) ∧ (Xi T22 957 ((i).toNat)) ≤ 5010 := hHT22.c _ _
              have e425 : (Xi T22 957 ((i).toNat)) = Xi S 957 (i).toNat := by first | rfl | exact (hFT22.cx 957 rfl _).1
              have t425 := htv.2.2.2.2.1 (by omega)
              refine l_laload (n := 5002) rfl rfl (by omega) (by omega) (by unfold rg; omega) ?_
              have w305 : -9223372036854775808 ≤ (Xj T22 910 (((Xi T22 957 ((i).toNat))).toNat)) ∧ (Xj T22 910 (((Xi T22 957 ((i).toNat))).toNat)) < 9223372036854775808 := Xj_rg
              refine l_l2iA rfl (fun c306 w306 => ?_)
              refine l_iastore (n := 2400) rfl rfl (by omega) (by omega) (by unfold rg; omega) ?_
              obtain ⟨U23, eU23⟩ : ∃ T : sS, T = uI T22 973 ((q).toNat) (Int32.ofInt c306) := ⟨_, rfl⟩
              rw [← eU23]
              have hHU23 : HI U23 := by rw [eU23]; exact HI_any hHT22 (rfl)
              have hFU23 : FR md_mo_testMeant S U23 := by rw [eU23]; exact FR.wI hFT22 (mdf_i (r := (973, 974, 0, 100000)) (List.mem_of_getElem? (i := 9) rfl) (inR_i (by omega) (by omega) (by omega) (by omega)))
              have w307 : Xi U23 973 ((q).toNat) = c306 := by rw [eU23]; exact Xi_same (by unfold rg; omega)
              refine l_return rfl rfl ?_
              have w308 : Xi U23 969 (q).toNat = Xi T17 969 (q).toNat := (show Xi U23 969 (q).toNat = Xi T22 969 (q).toNat from by rw [eU23]; exact Xi_ne (by omega)).trans ( (show Xi T22 969 (q).toNat = Xi U19 969 (q).toNat from (w303.cx 969 rfl _).1).trans ( (show Xi U19 969 (q).toNat = Xi T18 969 (q).toNat from by rw [eU19]; exact Xi_ne (by omega)).trans ((show Xi T18 969 (q).toNat = Xi T17 969 (q).toNat from (w233.cx 969 rfl _).1))))
              have w309 : Xi U23 971 (q).toNat = Xi T17 971 (q).toNat := (show Xi U23 971 (q).toNat = Xi T22 971 (q).toNat from by rw [eU23]; exact Xi_ne (by omega)).trans ( (show Xi T22 971 (q).toNat = Xi U19 971 (q).toNat from (w303.cx 971 rfl _).1).trans ( (show Xi U19 971 (q).toNat = Xi T18 971 (q).toNat from by rw [eU19]; exact Xi_ne (by omega)).trans ((show Xi T18 971 (q).toNat = Xi T17 971 (q).toNat from (w233.cx 971 rfl _).1))))
              have w310 : Xi U23 972 (q).toNat = Xi U19 972 (q).toNat := (show Xi U23 972 (q).toNat = Xi T22 972 (q).toNat from by rw [eU23]; exact Xi_ne (by omega)).trans ((show Xi T22 972 (q).toNat = Xi U19 972 (q).toNat from (w303.cx 972 rfl _).1))
              have w311 : Xi U23 974 (q).toNat = Xi T17 974 (q).toNat := (show Xi U23 974 (q).toNat = Xi T22 974 (q).toNat from by rw [eU23]; exact Xi_ne (by omega)).trans ( (show Xi T22 974 (q).toNat = Xi U19 974 (q).toNat from (w303.cx 974 rfl _).1).trans ( (show Xi U19 974 (q).toNat = Xi T18 974 (q).toNat from by rw [eU19]; exact Xi_ne (by omega)).trans ((show Xi T18 974 (q).toNat = Xi T17 974 (q).toNat from (w233.cx 974 rfl _).1))))
              have w312 : Xi U23 975 (q).toNat = Xi T17 975 (q).toNat := (show Xi U23 975 (q).toNat = Xi T22 975 (q).toNat from by rw [eU23]; exact Xi_ne (by omega)).trans ( (show Xi T22 975 (q).toNat = Xi U19 975 (q).toNat from (w303.cx 975 rfl _).1).trans ( (show Xi U19 975 (q).toNat = Xi T18 975 (q).toNat from by rw [eU19]; exact Xi_ne (by omega)).trans ((show Xi T18 975 (q).toNat = Xi T17 975 (q).toNat from (w233.cx 975 rfl _).1))))
              have w313 : Xi U23 904 106 = Xi T22 904 106 := (show Xi U23 904 106 = Xi T22 904 106 from by rw [eU23]; exact Xi_ne (by omega))
              have w314 : 0 ≤ Xi T22 904 106 ∧ Xi T22 904 106 ≤ 9 := hHT22.c _ _
              have w315 : Xi U23 904 113 = Xi T17 904 113 := (show Xi U23 904 113 = Xi T22 904 113 from by rw [eU23]; exact Xi_ne (by omega)).trans ( (show Xi T22 904 113 = Xi U19 904 113 from w303.x _ _ rfl).trans ( (show Xi U19 904 113 = Xi T18 904 113 from by rw [eU19]; exact Xi_ne (by omega)).trans ((show Xi T18 904 113 = Xi T17 904 113 from w233.x _ _ rfl))))
              have w316 : -1 ≤ Xi T17 904 113 ∧ Xi T17 904 113 ≤ 6411 := hHT17.c _ _
              have w317 : Xi U23 904 69 = Xi T17 904 69 := (show Xi U23 904 69 = Xi T22 904 69 from by rw [eU23]; exact Xi_ne (by omega)).trans ( (show Xi T22 904 69 = Xi U19 904 69 from w303.x _ _ rfl).trans ( (show Xi U19 904 69 = Xi T18 904 69 from by rw [eU19]; exact Xi_ne (by omega)).trans ((show Xi T18 904 69 = Xi T17 904 69 from w233.x _ _ rfl))))
              have w318 : 0 ≤ Xi T17 904 69 ∧ Xi T17 904 69 ≤ 2600 := hHT17.c _ _
              exact ⟨hHU23, hFU23, rfl, (by omega), (by first | exact (fun _ q => (by have s := f52 (by omega); exact tq_5 (by omega) (thk_c (b := 0 ≤ Xi S 904 115) (c := 0 ≤ Xi S 904 116) (S := S) (by have t := s.1; unfold thK at *; have a := h52; omega) (hFU23.x 904 19 rfl) (by omega)) (thk_c (S := S) (by have t := s.2.1; unfold thK at *; have a := h52; omega) (hFU23.x 904 19 rfl) (by omega)) (by have t := s.2.2; omega))) f52 | exact (fun _ q => tq_3 (by omega) (thk_c (H209) (hFU23.x 904 19 rfl) (by omega)) (adx_c (W209 (by omega)) (hFU23.x 904 23 rfl) (hFU23.x 904 32 rfl) (by omega))) W209 | exact (fun _ q => tq_4 (by omega) (thk_c (H277 (by omega)) (hFU23.x 904 19 rfl) (by omega))) q299 | exact (fun _ q => tq_2 (by omega) (thk_c (H328 (by omega)) (hFU23.x 904 19 rfl) (by omega)) (by have a := hFU23.x 904 32 rfl; omega) (fun _ => o386)) o386 | exact (fun _ q => tq_2 (by omega) (thk_c (H328 (by omega)) (hFU23.x 904 19 rfl) (by omega)) (by have a := hFU23.x 904 32 rfl; omega) (fun y => absurd y (by omega))) p337 | exact fun x => absurd x (by omega)), (by first | exact fun x y => ⟨by have t := hnf y; omega, fun z => absurd z (by omega)⟩ | exact (fun _ q => fun y => ⟨by omega, fun _ z => by rw [(hFU23.cx 922 rfl _).1, show Xi U23 973 (q).toNat = _ from by omega]; exact (W209 (by omega)).2 (by omega) (by omega)⟩) W209 | exact fun x => absurd x (by omega)), ((KQ.w (KQ_FR w303 rfl (KQ.w (KQ_FR w233 rfl (by assumption : KQ T17 S _)) eU19 (by omega))) eU23 (by omega)))⟩
          · refine l_aload_n rfl rfl ?_
            refine l_aload_n rfl rfl ?_
            refine l_gfr rfl rfl rfl rfl rfl (hHU19.r 904 87 957 rfl) ?_
            refine l_iload_n rfl rfl ?_
            refine l_iaload (n := 1700) rfl rfl (by omega) (by omega) (by unfold rg; omega) ?_
            have w319 : 0 ≤ (Xi U19 957 ((i).toNat)) ∧ (Xi U19 957 ((i).toNat)) ≤ 5010 := hHU19.c _ _
            have e371 : (Xi U19 957 ((i).toNat)) = Xi S 957 (i).toNat := by first | rfl | exact (hFU19.cx 957 rfl _).1
            have t371 := htv.2.2.2.2.1 (by omega)
            refine l_aload_n rfl rfl ?_
            refine l_gfr rfl rfl rfl rfl rfl (hHU19.r 904 90 960 rfl) ?_
            refine l_iload_n rfl rfl ?_
            refine l_iaload (n := 1700) rfl rfl (by omega) (by omega) (by unfold rg; omega) ?_
            have w320 : -1 ≤ (Xi U19 960 ((i).toNat)) ∧ (Xi U19 960 ((i).toNat)) ≤ 2600 := hHU19.c _ _
            have e377 : (Xi U19 960 ((i).toNat)) = Xi S 960 (i).toNat := by first | rfl | exact (hFU19.cx 960 rfl _).1
            refine l_aload_n rfl rfl ?_
            refine l_gfr rfl rfl rfl rfl rfl (hHU19.r 904 33 928 rfl) ?_
            refine l_iload rfl rfl ?_
            refine l_iaload (n := 12) rfl rfl (by omega) (by omega) (by unfold rg; omega) ?_
            have w321 : 0 ≤ (Xi U19 928 ((z232).toNat)) ∧ (Xi U19 928 ((z232).toNat)) ≤ 7 := hHU19.c _ _
            refine l_iload_n rfl rfl ?_
            have w322 : Xi U19 904 106 = Xi T18 904 106 := (show Xi U19 904 106 = Xi T18 904 106 from by rw [eU19]; exact Xi_ne (by omega))
            have w323 : 0 ≤ Xi T18 904 106 ∧ Xi T18 904 106 ≤ 9 := hHT18.c _ _
            have w324 : Xi U19 904 113 = Xi T17 904 113 := (show Xi U19 904 113 = Xi T18 904 113 from by rw [eU19]; exact Xi_ne (by omega)).trans ((show Xi T18 904 113 = Xi T17 904 113 from w233.x _ _ rfl))
            have w325 : -1 ≤ Xi T17 904 113 ∧ Xi T17 904 113 ≤ 6411 := hHT17.c _ _
            have w326 : Xi U19 904 69 = Xi T17 904 69 := (show Xi U19 904 69 = Xi T18 904 69 from by rw [eU19]; exact Xi_ne (by omega)).trans ((show Xi T18 904 69 = Xi T17 904 69 from w233.x _ _ rfl))
            have w327 : 0 ≤ Xi T17 904 69 ∧ Xi T17 904 69 ≤ 2600 := hHT17.c _ _
            refine l_callV rfl rfl rfl (t_mo_whatMeant hHU19 n (Xi U19 957 ((i).toNat)) (Xi U19 960 ((i).toNat)) (Xi U19 928 ((z232).toNat)) q ⟨by omega, by omega⟩ ⟨by omega, by omega⟩ ⟨by omega, by omega⟩ ⟨by omega, by omega⟩ (by first | assumption | exact (TK_FR hFU19 rfl (by assumption : TK S _))) (by first | assumption | exact (RNV_FR hFU19 rfl (by assumption : RNV S _))) (by first | assumption | exact (LXM_FR hFU19 rfl (by assumption : LXM S))) (by first | assumption | exact (TXK_FR hFU19 rfl (by assumption : TXK S _))) (by first | assumption | omega) (fun a b => by rw [(hFU19.cx 907 rfl _).1] at a b; have t := htv.2.2.2.2.2 (by omega) (by rw [← e371]; exact a) (by rw [← e371]; exact b); omega) _) ?_
            rintro _ T24 ⟨hHT24, w331, rfl, w328, o386, w329⟩
            have hFT24 : FR md_mo_testMeant S T24 := FR.tr hFU19 w331 rfl
            show Rl _ _ _ _ _ [] _ _
            refine l_goto rfl rfl ?_
            refine l_return rfl rfl ?_
            have w332 : Xi T24 969 (q).toNat = Xi T17 969 (q).toNat := (show Xi T24 969 (q).toNat = Xi U19 969 (q).toNat from (w331.cx 969 rfl _).1).trans ( (show Xi U19 969 (q).toNat = Xi T18 969 (q).toNat from by rw [eU19]; exact Xi_ne (by omega)).trans ((show Xi T18 969 (q).toNat = Xi T17 969 (q).toNat from (w233.cx 969 rfl _).1)))
            have w333 : Xi T24 971 (q).toNat = Xi T17 971 (q).toNat := (show Xi T24 971 (q).toNat = Xi U19 971 (q).toNat from (w331.cx 971 rfl _).1).trans ( (show Xi U19 971 (q).toNat = Xi T18 971 (q).toNat from by rw [eU19]; exact Xi_ne (by omega)).trans ((show Xi T18 971 (q).toNat = Xi T17 971 (q).toNat from (w233.cx 971 rfl _).1)))
            have w334 : Xi T24 972 (q).toNat = Xi U19 972 (q).toNat := (show Xi T24 972 (q).toNat = Xi U19 972 (q).toNat from (w331.cx 972 rfl _).1)
            have w335 : Xi T24 975 (q).toNat = Xi T17 975 (q).toNat := (show Xi T24 975 (q).toNat = Xi U19 975 (q).toNat from (w331.cx 975 rfl _).1).trans ( (show Xi U19 975 (q).toNat = Xi T18 975 (q).toNat from by rw [eU19]; exact Xi_ne (by omega)).trans ((show Xi T18 975 (q).toNat = Xi T17 975 (q).toNat from (w233.cx 975 rfl _).1)))
            have w336 : 0 ≤ Xi T24 904 106 ∧ Xi T24 904 106 ≤ 9 := hHT24.c _ _
            have w337 : Xi T24 904 113 = Xi T17 904 113 := (show Xi T24 904 113 = Xi U19 904 113 from w331.x _ _ rfl).trans ( (show Xi U19 904 113 = Xi T18 904 113 from by rw [eU19]; exact Xi_ne (by omega)).trans ((show Xi T18 904 113 = Xi T17 904 113 from w233.x _ _ rfl)))
            have w338 : -1 ≤ Xi T17 904 113 ∧ Xi T17 904 113 ≤ 6411 := hHT17.c _ _
            have w339 : Xi T24 904 69 = Xi T17 904 69 := (show Xi T24 904 69 = Xi U19 904 69 from w331.x _ _ rfl).trans ( (show Xi U19 904 69 = Xi T18 904 69 from by rw [eU19]; exact Xi_ne (by omega)).trans ((show Xi T18 904 69 = Xi T17 904 69 from w233.x _ _ rfl)))
            have w340 : 0 ≤ Xi T17 904 69 ∧ Xi T17 904 69 ≤ 2600 := hHT17.c _ _
            exact ⟨hHT24, hFT24, rfl, (by omega), (by first | exact (fun _ q => (by have s := f52 (by omega); exact tq_5 (by omega) (thk_c (b := 0 ≤ Xi S 904 115) (c := 0 ≤ Xi S 904 116) (S := S) (by have t := s.1; unfold thK at *; have a := h52; omega) (hFT24.x 904 19 rfl) (by omega)) (thk_c (S := S) (by have t := s.2.1; unfold thK at *; have a := h52; omega) (hFT24.x 904 19 rfl) (by omega)) (by have t := s.2.2; omega))) f52 | exact (fun _ q => tq_3 (by omega) (thk_c (H209) (hFT24.x 904 19 rfl) (by omega)) (adx_c (W209 (by omega)) (hFT24.x 904 23 rfl) (hFT24.x 904 32 rfl) (by omega))) W209 | exact (fun _ q => tq_4 (by omega) (thk_c (H277 (by omega)) (hFT24.x 904 19 rfl) (by omega))) q299 | exact (fun _ q => tq_2 (by omega) (thk_c (H328 (by omega)) (hFT24.x 904 19 rfl) (by omega)) (by have a := hFT24.x 904 32 rfl; omega) (fun _ => o386)) o386 | exact (fun _ q => tq_2 (by omega) (thk_c (H328 (by omega)) (hFT24.x 904 19 rfl) (by omega)) (by have a := hFT24.x 904 32 rfl; omega) (fun y => absurd y (by omega))) p337 | exact fun x => absurd x (by omega)), (by first | exact fun x y => ⟨by have t := hnf y; omega, fun z => absurd z (by omega)⟩ | exact (fun _ q => fun y => ⟨by omega, fun _ z => by rw [(hFT24.cx 922 rfl _).1, show Xi T24 973 (q).toNat = _ from by omega]; exact (W209 (by omega)).2 (by omega) (by omega)⟩) W209 | exact fun x => absurd x (by omega)), ((KQ.tr (KQ.w (KQ_FR w233 rfl (by assumption : KQ T17 S _)) eU19 (by omega)) (by assumption : KQ T24 U19 _)))⟩
      refine l_aload_n rfl rfl ?_
      refine l_gfr rfl rfl rfl rfl rfl (hHT17.r 904 82 952 rfl) ?_
      refine l_iload_n rfl rfl ?_
      refine l_iaload (n := 1700) rfl rfl (by omega) (by omega) (by unfold rg; omega) ?_
      have w341 : 0 ≤ (Xi T17 952 ((i).toNat)) ∧ (Xi T17 952 ((i).toNat)) ≤ 5 := hHT17.c _ _
      have e282 : (Xi T17 952 ((i).toNat)) = Xi S 952 (i).toNat := by first | rfl | exact (hFT17.cx 952 rfl _).1
      refine l_iconst rfl ?_
      refine l_icmp_ne rfl rfl (by unfold rg; omega) (by unfold rg; omega) (fun w342 => ?_) (fun w343 => ?_)
      · have w344 : 0 ≤ Xi T17 904 106 ∧ Xi T17 904 106 ≤ 9 := hHT17.c _ _
        have w345 : -1 ≤ Xi T17 904 113 ∧ Xi T17 904 113 ≤ 6411 := hHT17.c _ _
        have w346 : 0 ≤ Xi T17 904 69 ∧ Xi T17 904 69 ≤ 2600 := hHT17.c _ _
        exact Rl_weak (C328 (v4) (by omega) (by omega) (by omega) (by omega) ((by assumption : KQ T17 S _)) (by omega) (by omega) (H277) (by omega)) (And.intro rfl (And.intro rfl (And.intro rfl (And.intro rfl (True.intro)))))
      · refine l_aload_n rfl rfl ?_
        refine l_aload_n rfl rfl ?_
        refine l_gfr rfl rfl rfl rfl rfl (hHT17.r 904 89 959 rfl) ?_
        refine l_iload_n rfl rfl ?_
        refine l_iaload (n := 1700) rfl rfl (by omega) (by omega) (by unfold rg; omega) ?_
        have w347 : 0 ≤ (Xi T17 959 ((i).toNat)) ∧ (Xi T17 959 ((i).toNat)) ≤ 25010 := hHT17.c _ _
        have e293 : (Xi T17 959 ((i).toNat)) = Xi S 959 (i).toNat := by first | rfl | exact (hFT17.cx 959 rfl _).1
        refine l_aload_n rfl rfl ?_
        refine l_gfr rfl rfl rfl rfl rfl (hHT17.r 904 90 960 rfl) ?_
        refine l_iload_n rfl rfl ?_
        refine l_iaload (n := 1700) rfl rfl (by omega) (by omega) (by unfold rg; omega) ?_
        have w348 : -1 ≤ (Xi T17 960 ((i).toNat)) ∧ (Xi T17 960 ((i).toNat)) ≤ 2600 := hHT17.c _ _
        have e299 : (Xi T17 960 ((i).toNat)) = Xi S 960 (i).toNat := by first | rfl | exact (hFT17.cx 960 rfl _).1
        have q299 := q_thv (htv.2.2.2.1 (by omega)) e293 e299 (hFT17.x 904 69 rfl) hn5
        have w349 : 0 ≤ Xi T17 904 106 ∧ Xi T17 904 106 ≤ 9 := hHT17.c _ _
        have w350 : -1 ≤ Xi T17 904 113 ∧ Xi T17 904 113 ≤ 6411 := hHT17.c _ _
        have w351 : 0 ≤ Xi T17 904 19 ∧ Xi T17 904 19 ≤ 24 := hHT17.c _ _
        have w352 : 0 ≤ Xi T17 904 69 ∧ Xi T17 904 69 ≤ 2600 := hHT17.c _ _
        refine l_callV rfl rfl rfl (t_mo_meant hHT17 n (Xi T17 959 ((i).toNat)) (Xi T17 960 ((i).toNat)) ⟨by omega, by omega⟩ ⟨by omega, by omega⟩ (by first | assumption | exact (TK_FR hFT17 rfl (by assumption : TK S _))) (by first | assumption | exact (RNV_FR hFT17 rfl (by assumption : RNV S _))) (by first | exact q299.1 | exact q106.1) (by first | exact q299.2 | exact q106.2) (by first | assumption | exact (LXM_FR hFT17 rfl (by assumption : LXM S))) _) ?_
        rintro _ T25 ⟨hHT25, w356, z355, rfl, w355, p300, i300, j300, w353, w354⟩
        have hFT25 : FR md_mo_testMeant S T25 := FR.tr hFT17 w356 rfl
        show Rl _ _ _ _ _ [iv z355] _ _
        clear p300 i300 j300
        refine l_istore rfl rfl rfl ?_
        refine l_aload_n rfl rfl ?_
        refine l_gfr rfl rfl rfl rfl rfl (hHT25.r 904 124 975 rfl) ?_
        refine l_iload_n rfl rfl ?_
        refine l_iload rfl rfl ?_
        refine l_iastore (n := 2400) rfl rfl (by omega) (by omega) (by unfold rg; omega) ?_
        obtain ⟨U26, eU26⟩ : ∃ T : sS, T = uI T25 975 ((q).toNat) (Int32.ofInt z355) := ⟨_, rfl⟩
        rw [← eU26]
        have hHU26 : HI U26 := by rw [eU26]; exact HI_w hHT25 (show -9 ≤ z355 by omega) (show z355 ≤ 23 by omega)
        have hFU26 : FR md_mo_testMeant S U26 := by rw [eU26]; exact FR.wI hFT25 (mdf_i (r := (975, 976, 0, 100000)) (List.mem_of_getElem? (i := 11) rfl) (inR_i (by omega) (by omega) (by omega) (by omega)))
        have w357 : Xi U26 975 ((q).toNat) = z355 := by rw [eU26]; exact Xi_same (by unfold rg; omega)
        refine l_aload_n rfl rfl ?_
        refine l_gfr rfl rfl rfl rfl rfl (hHU26.r 904 122 973 rfl) ?_
        refine l_iload_n rfl rfl ?_
        refine l_aload_n rfl rfl ?_
        refine l_gfr rfl rfl rfl rfl rfl (hHU26.r 904 88 958 rfl) ?_
        refine l_iload_n rfl rfl ?_
        refine l_iaload (n := 1700) rfl rfl (by omega) (by omega) (by unfold rg; omega) ?_
        have w358 : 0 ≤ (Xi U26 958 ((i).toNat)) ∧ (Xi U26 958 ((i).toNat)) ≤ 5 := hHU26.c _ _
        refine l_iastore (n := 2400) rfl rfl (by omega) (by omega) (by unfold rg; omega) ?_
        obtain ⟨U27, eU27⟩ : ∃ T : sS, T = uI U26 973 ((q).toNat) (Int32.ofInt (Xi U26 958 ((i).toNat))) := ⟨_, rfl⟩
        rw [← eU27]
        have hHU27 : HI U27 := by rw [eU27]; exact HI_any hHU26 (rfl)
        have hFU27 : FR md_mo_testMeant S U27 := by rw [eU27]; exact FR.wI hFU26 (mdf_i (r := (973, 974, 0, 100000)) (List.mem_of_getElem? (i := 9) rfl) (inR_i (by omega) (by omega) (by omega) (by omega)))
        have w359 : Xi U27 973 ((q).toNat) = (Xi U26 958 ((i).toNat)) := by rw [eU27]; exact Xi_same (by unfold rg; omega)
        refine l_goto rfl rfl ?_
        refine l_return rfl rfl ?_
        have w360 : Xi U27 969 (q).toNat = Xi T17 969 (q).toNat := (show Xi U27 969 (q).toNat = Xi U26 969 (q).toNat from by rw [eU27]; exact Xi_ne (by omega)).trans ( (show Xi U26 969 (q).toNat = Xi T25 969 (q).toNat from by rw [eU26]; exact Xi_ne (by omega)).trans ((show Xi T25 969 (q).toNat = Xi T17 969 (q).toNat from (w356.cx 969 rfl _).1)))
        have w361 : Xi U27 971 (q).toNat = Xi T17 971 (q).toNat := (show Xi U27 971 (q).toNat = Xi U26 971 (q).toNat from by rw [eU27]; exact Xi_ne (by omega)).trans ( (show Xi U26 971 (q).toNat = Xi T25 971 (q).toNat from by rw [eU26]; exact Xi_ne (by omega)).trans ((show Xi T25 971 (q).toNat = Xi T17 971 (q).toNat from (w356.cx 971 rfl _).1)))
        have w362 : Xi U27 972 (q).toNat = Xi T17 972 (q).toNat := (show Xi U27 972 (q).toNat = Xi U26 972 (q).toNat from by rw [eU27]; exact Xi_ne (by omega)).trans ( (show Xi U26 972 (q).toNat = Xi T25 972 (q).toNat from by rw [eU26]; exact Xi_ne (by omega)).trans ((show Xi T25 972 (q).toNat = Xi T17 972 (q).toNat from (w356.cx 972 rfl _).1)))
        have w363 : Xi U27 974 (q).toNat = Xi T17 974 (q).toNat := (show Xi U27 974 (q).toNat = Xi U26 974 (q).toNat from by rw [eU27]; exact Xi_ne (by omega)).trans ( (show Xi U26 974 (q).toNat = Xi T25 974 (q).toNat from by rw [eU26]; exact Xi_ne (by omega)).trans ((show Xi T25 974 (q).toNat = Xi T17 974 (q).toNat from (w356.cx 974 rfl _).1)))
        have w364 : Xi U27 975 (q).toNat = Xi U26 975 (q).toNat := (show Xi U27 975 (q).toNat = Xi U26 975 (q).toNat from by rw [eU27]; exact Xi_ne (by omega))
        have w365 : Xi U27 904 106 = Xi T25 904 106 := (show Xi U27 904 106 = Xi U26 904 106 from by rw [eU27]; exact Xi_ne (by omega)).trans ((show Xi U26 904 106 = Xi T25 904 106 from by rw [eU26]; exact Xi_ne (by omega)))
        have w366 : 0 ≤ Xi T25 904 106 ∧ Xi T25 904 106 ≤ 9 := hHT25.c _ _
        have w367 : Xi U27 904 113 = Xi T17 904 113 := (show Xi U27 904 113 = Xi U26 904 113 from by rw [eU27]; exact Xi_ne (by omega)).trans ( (show Xi U26 904 113 = Xi T25 904 113 from by rw [eU26]; exact Xi_ne (by omega)).trans ((show Xi T25 904 113 = Xi T17 904 113 from w356.x _ _ rfl)))
        have w368 : -1 ≤ Xi T17 904 113 ∧ Xi T17 904 113 ≤ 6411 := hHT17.c _ _
        have w369 : Xi U27 904 69 = Xi T17 904 69 := (show Xi U27 904 69 = Xi U26 904 69 from by rw [eU27]; exact Xi_ne (by omega)).trans ( (show Xi U26 904 69 = Xi T25 904 69 from by rw [eU26]; exact Xi_ne (by omega)).trans ((show Xi T25 904 69 = Xi T17 904 69 from w356.x _ _ rfl)))
        have w370 : 0 ≤ Xi T17 904 69 ∧ Xi T17 904 69 ≤ 2600 := hHT17.c _ _
        exact ⟨hHU27, hFU27, rfl, (by omega), (by first | exact (fun _ q => (by have s := f52 (by omega); exact tq_5 (by omega) (thk_c (b := 0 ≤ Xi S 904 115) (c := 0 ≤ Xi S 904 116) (S := S) (by have t := s.1; unfold thK at *; have a := h52; omega) (hFU27.x 904 19 rfl) (by omega)) (thk_c (S := S) (by have t := s.2.1; unfold thK at *; have a := h52; omega) (hFU27.x 904 19 rfl) (by omega)) (by have t := s.2.2; omega))) f52 | exact (fun _ q => tq_3 (by omega) (thk_c (H209) (hFU27.x 904 19 rfl) (by omega)) (adx_c (W209 (by omega)) (hFU27.x 904 23 rfl) (hFU27.x 904 32 rfl) (by omega))) W209 | exact (fun _ q => tq_4 (by omega) (thk_c (H277 (by omega)) (hFU27.x 904 19 rfl) (by omega))) q299 | exact (fun _ q => tq_2 (by omega) (thk_c (H328 (by omega)) (hFU27.x 904 19 rfl) (by omega)) (by have a := hFU27.x 904 32 rfl; omega) (fun _ => o386)) o386 | exact (fun _ q => tq_2 (by omega) (thk_c (H328 (by omega)) (hFU27.x 904 19 rfl) (by omega)) (by have a := hFU27.x 904 32 rfl; omega) (fun y => absurd y (by omega))) p337 | exact fun x => absurd x (by omega)), (by first | exact fun x y => ⟨by have t := hnf y; omega, fun z => absurd z (by omega)⟩ | exact (fun _ q => fun y => ⟨by omega, fun _ z => by rw [(hFU27.cx 922 rfl _).1, show Xi U27 973 (q).toNat = _ from by omega]; exact (W209 (by omega)).2 (by omega) (by omega)⟩) W209 | exact fun x => absurd x (by omega)), ((KQ.w (KQ.w (KQ_FR w356 rfl (by assumption : KQ T17 S _)) eU26 (by omega)) eU27 (by omega)))⟩
    refine l_aload_n rfl rfl ?_
    refine l_aload_n rfl rfl ?_
    refine l_gfr rfl rfl rfl rfl rfl (hHT1.r 904 84 954 rfl) ?_
    refine l_iload_n rfl rfl ?_
    refine l_iaload (n := 1700) rfl rfl (by omega) (by omega) (by unfold rg; omega) ?_
    have w371 : 0 ≤ (Xi T1 954 ((i).toNat)) ∧ (Xi T1 954 ((i).toNat)) ≤ 25010 := hHT1.c _ _
    have e100 : (Xi T1 954 ((i).toNat)) = Xi S 954 (i).toNat := by first | rfl | exact (hFT1.cx 954 rfl _).1
    refine l_aload_n rfl rfl ?_
    refine l_gfr rfl rfl rfl rfl rfl (hHT1.r 904 85 955 rfl) ?_
    refine l_iload_n rfl rfl ?_
    refine l_iaload (n := 1700) rfl rfl (by omega) (by omega) (by unfold rg; omega) ?_
    have w372 : 0 ≤ (Xi T1 955 ((i).toNat)) ∧ (Xi T1 955 ((i).toNat)) ≤ 2600 := hHT1.c _ _
    have e106 : (Xi T1 955 ((i).toNat)) = Xi S 955 (i).toNat := by first | rfl | exact (hFT1.cx 955 rfl _).1
    have q106 := q_thv (htv.2.1 (by omega)) e100 e106 (hFT1.x 904 69 rfl) hn5
    have w373 : 0 ≤ Xi T1 904 106 ∧ Xi T1 904 106 ≤ 9 := hHT1.c _ _
    have w374 : -1 ≤ Xi T1 904 113 ∧ Xi T1 904 113 ≤ 6411 := hHT1.c _ _
    have w375 : 0 ≤ Xi T1 904 19 ∧ Xi T1 904 19 ≤ 24 := hHT1.c _ _
    have w376 : 0 ≤ Xi T1 904 69 ∧ Xi T1 904 69 ≤ 2600 := hHT1.c _ _
    refine l_callV rfl rfl rfl (t_mo_meant hHT1 n (Xi T1 954 ((i).toNat)) (Xi T1 955 ((i).toNat)) ⟨by omega, by omega⟩ ⟨by omega, by omega⟩ (by first | assumption | exact (TK_FR hFT1 rfl (by assumption : TK S _))) (by first | assumption | exact (RNV_FR hFT1 rfl (by assumption : RNV S _))) (by first | exact q299.1 | exact q106.1) (by first | exact q299.2 | exact q106.2) (by first | assumption | exact (LXM_FR hFT1 rfl (by assumption : LXM S))) _) ?_
    rintro _ T28 ⟨hHT28, w380, z379, rfl, w379, p107, i107, j107, w377, w378⟩
    have hFT28 : FR md_mo_testMeant S T28 := FR.tr hFT1 w380 rfl
    show Rl _ _ _ _ _ [iv z379] _ _
    have th107 : z379 ≠ -9 → thK S (0 ≤ Xi S 904 115) (0 ≤ Xi S 904 116) z379 := fun x => by unfold thK; have a := hFT1.x 904 19 rfl; have b := hFT28.x 904 115 rfl; have c := hFT28.x 904 116 rfl; omega
    clear p107 i107 j107
    refine l_istore rfl rfl rfl ?_
    refine l_aload_n rfl rfl ?_
    refine l_gfr rfl rfl rfl rfl rfl (hHT28.r 904 120 971 rfl) ?_
    refine l_iload_n rfl rfl ?_
    refine l_iload rfl rfl ?_
    refine l_iastore (n := 2400) rfl rfl (by omega) (by omega) (by unfold rg; omega) ?_
    obtain ⟨U29, eU29⟩ : ∃ T : sS, T = uI T28 971 ((q).toNat) (Int32.ofInt z379) := ⟨_, rfl⟩
    rw [← eU29]
    have hHU29 : HI U29 := by rw [eU29]; exact HI_w hHT28 (show -9 ≤ z379 by omega) (show z379 ≤ 23 by omega)
    have hFU29 : FR md_mo_testMeant S U29 := by rw [eU29]; exact FR.wI hFT28 (mdf_i (r := (971, 972, 0, 100000)) (List.mem_of_getElem? (i := 7) rfl) (inR_i (by omega) (by omega) (by omega) (by omega)))
    have w381 : Xi U29 971 ((q).toNat) = z379 := by rw [eU29]; exact Xi_same (by unfold rg; omega)
    refine l_aload_n rfl rfl ?_
    refine l_gfr rfl rfl rfl rfl rfl (hHU29.r 904 82 952 rfl) ?_
    refine l_iload_n rfl rfl ?_
    refine l_iaload (n := 1700) rfl rfl (by omega) (by omega) (by unfold rg; omega) ?_
    have w382 : 0 ≤ (Xi U29 952 ((i).toNat)) ∧ (Xi U29 952 ((i).toNat)) ≤ 5 := hHU29.c _ _
    have e125 : (Xi U29 952 ((i).toNat)) = Xi S 952 (i).toNat := by first | rfl | exact (hFU29.cx 952 rfl _).1
    refine l_iconst rfl ?_
    refine l_icmp_ne rfl rfl (by unfold rg; omega) (by unfold rg; omega) (fun w383 => ?_) (fun w384 => ?_)
    · have w385 : Xi U29 969 (q).toNat = Xi T1 969 (q).toNat := (show Xi U29 969 (q).toNat = Xi T28 969 (q).toNat from by rw [eU29]; exact Xi_ne (by omega)).trans ((show Xi T28 969 (q).toNat = Xi T1 969 (q).toNat from (w380.cx 969 rfl _).1))
      have w386 : Xi U29 972 (q).toNat = Xi T1 972 (q).toNat := (show Xi U29 972 (q).toNat = Xi T28 972 (q).toNat from by rw [eU29]; exact Xi_ne (by omega)).trans ((show Xi T28 972 (q).toNat = Xi T1 972 (q).toNat from (w380.cx 972 rfl _).1))
      have w387 : Xi U29 973 (q).toNat = Xi T1 973 (q).toNat := (show Xi U29 973 (q).toNat = Xi T28 973 (q).toNat from by rw [eU29]; exact Xi_ne (by omega)).trans ((show Xi T28 973 (q).toNat = Xi T1 973 (q).toNat from (w380.cx 973 rfl _).1))
      have w388 : Xi U29 974 (q).toNat = Xi T1 974 (q).toNat := (show Xi U29 974 (q).toNat = Xi T28 974 (q).toNat from by rw [eU29]; exact Xi_ne (by omega)).trans ((show Xi T28 974 (q).toNat = Xi T1 974 (q).toNat from (w380.cx 974 rfl _).1))
      have w389 : Xi U29 975 (q).toNat = Xi T1 975 (q).toNat := (show Xi U29 975 (q).toNat = Xi T28 975 (q).toNat from by rw [eU29]; exact Xi_ne (by omega)).trans ((show Xi T28 975 (q).toNat = Xi T1 975 (q).toNat from (w380.cx 975 rfl _).1))
      have w390 : Xi U29 904 106 = Xi T28 904 106 := (show Xi U29 904 106 = Xi T28 904 106 from by rw [eU29]; exact Xi_ne (by omega))
      have w391 : 0 ≤ Xi T28 904 106 ∧ Xi T28 904 106 ≤ 9 := hHT28.c _ _
      have w392 : Xi U29 904 113 = Xi T1 904 113 := (show Xi U29 904 113 = Xi T28 904 113 from by rw [eU29]; exact Xi_ne (by omega)).trans ((show Xi T28 904 113 = Xi T1 904 113 from w380.x _ _ rfl))
      have w393 : -1 ≤ Xi T1 904 113 ∧ Xi T1 904 113 ≤ 6411 := hHT1.c _ _
      have w394 : Xi U29 904 69 = Xi T1 904 69 := (show Xi U29 904 69 = Xi T28 904 69 from by rw [eU29]; exact Xi_ne (by omega)).trans ((show Xi T28 904 69 = Xi T1 904 69 from w380.x _ _ rfl))
      have w395 : 0 ≤ Xi T1 904 69 ∧ Xi T1 904 69 ≤ 2600 := hHT1.c _ _
      exact Rl_weak (C277 U29 hHU29 hFU29 (z379) (by omega) (by omega) (by omega) (by omega) ((KQ.w (KQ_FR w380 rfl (by assumption : KQ T1 S _)) eU29 (by omega))) (by omega) (by omega) (th107) (by omega) (by omega)) (And.intro rfl (And.intro rfl (And.intro rfl (And.intro rfl (True.intro)))))
    · refine l_iload rfl rfl ?_
      refine l_bipush rfl rfl ?_
      refine l_icmp_eq rfl rfl (by unfold rg; omega) (by unfold rg; omega) (fun w396 => ?_) (fun w397 => ?_)
      · refine l_return rfl rfl ?_
        have w398 : Xi U29 969 (q).toNat = Xi T1 969 (q).toNat := (show Xi U29 969 (q).toNat = Xi T28 969 (q).toNat from by rw [eU29]; exact Xi_ne (by omega)).trans ((show Xi T28 969 (q).toNat = Xi T1 969 (q).toNat from (w380.cx 969 rfl _).1))
        have w399 : Xi U29 972 (q).toNat = Xi T1 972 (q).toNat := (show Xi U29 972 (q).toNat = Xi T28 972 (q).toNat from by rw [eU29]; exact Xi_ne (by omega)).trans ((show Xi T28 972 (q).toNat = Xi T1 972 (q).toNat from (w380.cx 972 rfl _).1))
        have w400 : Xi U29 973 (q).toNat = Xi T1 973 (q).toNat := (show Xi U29 973 (q).toNat = Xi T28 973 (q).toNat from by rw [eU29]; exact Xi_ne (by omega)).trans ((show Xi T28 973 (q).toNat = Xi T1 973 (q).toNat from (w380.cx 973 rfl _).1))
        have w401 : Xi U29 974 (q).toNat = Xi T1 974 (q).toNat := (show Xi U29 974 (q).toNat = Xi T28 974 (q).toNat from by rw [eU29]; exact Xi_ne (by omega)).trans ((show Xi T28 974 (q).toNat = Xi T1 974 (q).toNat from (w380.cx 974 rfl _).1))
        have w402 : Xi U29 975 (q).toNat = Xi T1 975 (q).toNat := (show Xi U29 975 (q).toNat = Xi T28 975 (q).toNat from by rw [eU29]; exact Xi_ne (by omega)).trans ((show Xi T28 975 (q).toNat = Xi T1 975 (q).toNat from (w380.cx 975 rfl _).1))
        have w403 : Xi U29 904 106 = Xi T28 904 106 := (show Xi U29 904 106 = Xi T28 904 106 from by rw [eU29]; exact Xi_ne (by omega))
        have w404 : 0 ≤ Xi T28 904 106 ∧ Xi T28 904 106 ≤ 9 := hHT28.c _ _
        have w405 : Xi U29 904 113 = Xi T1 904 113 := (show Xi U29 904 113 = Xi T28 904 113 from by rw [eU29]; exact Xi_ne (by omega)).trans ((show Xi T28 904 113 = Xi T1 904 113 from w380.x _ _ rfl))
        have w406 : -1 ≤ Xi T1 904 113 ∧ Xi T1 904 113 ≤ 6411 := hHT1.c _ _
        have w407 : Xi U29 904 69 = Xi T1 904 69 := (show Xi U29 904 69 = Xi T28 904 69 from by rw [eU29]; exact Xi_ne (by omega)).trans ((show Xi T28 904 69 = Xi T1 904 69 from w380.x _ _ rfl))
        have w408 : 0 ≤ Xi T1 904 69 ∧ Xi T1 904 69 ≤ 2600 := hHT1.c _ _
        exact ⟨hHU29, hFU29, rfl, (by omega), (by first | exact (fun _ q => (by have s := f52 (by omega); exact tq_5 (by omega) (thk_c (b := 0 ≤ Xi S 904 115) (c := 0 ≤ Xi S 904 116) (S := S) (by have t := s.1; unfold thK at *; have a := h52; omega) (hFU29.x 904 19 rfl) (by omega)) (thk_c (S := S) (by have t := s.2.1; unfold thK at *; have a := h52; omega) (hFU29.x 904 19 rfl) (by omega)) (by have t := s.2.2; omega))) f52 | exact (fun _ q => tq_3 (by omega) (thk_c (H209) (hFU29.x 904 19 rfl) (by omega)) (adx_c (W209 (by omega)) (hFU29.x 904 23 rfl) (hFU29.x 904 32 rfl) (by omega))) W209 | exact (fun _ q => tq_4 (by omega) (thk_c (H277 (by omega)) (hFU29.x 904 19 rfl) (by omega))) q299 | exact (fun _ q => tq_2 (by omega) (thk_c (H328 (by omega)) (hFU29.x 904 19 rfl) (by omega)) (by have a := hFU29.x 904 32 rfl; omega) (fun _ => o386)) o386 | exact (fun _ q => tq_2 (by omega) (thk_c (H328 (by omega)) (hFU29.x 904 19 rfl) (by omega)) (by have a := hFU29.x 904 32 rfl; omega) (fun y => absurd y (by omega))) p337 | exact fun x => absurd x (by omega)), (by first | exact fun x y => ⟨by have t := hnf y; omega, fun z => absurd z (by omega)⟩ | exact (fun _ q => fun y => ⟨by omega, fun _ z => by rw [(hFU29.cx 922 rfl _).1, show Xi U29 973 (q).toNat = _ from by omega]; exact (W209 (by omega)).2 (by omega) (by omega)⟩) W209 | exact fun x => absurd x (by omega)), ((KQ.w (KQ_FR w380 rfl (by assumption : KQ T1 S _)) eU29 (by omega)))⟩
      · refine l_aload_n rfl rfl ?_
        refine l_gfr rfl rfl rfl rfl rfl (hHU29.r 904 86 956 rfl) ?_
        refine l_iload_n rfl rfl ?_
        refine l_iaload (n := 1700) rfl rfl (by omega) (by omega) (by unfold rg; omega) ?_
        have w409 : 0 ≤ (Xi U29 956 ((i).toNat)) ∧ (Xi U29 956 ((i).toNat)) ≤ 2600 := hHU29.c _ _
        have e142 : (Xi U29 956 ((i).toNat)) = Xi S 956 (i).toNat := by first | rfl | exact (hFU29.cx 956 rfl _).1
        have t142 := htv.2.2.1 (by omega)
        refine l_istore rfl rfl rfl ?_
        refine l_aload_n rfl rfl ?_
        refine l_gfr rfl rfl rfl rfl rfl (hHU29.r 904 68 951 rfl) ?_
        refine l_iload rfl rfl ?_
        refine l_iaload (n := 2600) rfl rfl (by omega) (by omega) (by unfold rg; omega) ?_
        have w410 : 0 ≤ (Xi U29 951 (((Xi U29 956 ((i).toNat))).toNat)) ∧ (Xi U29 951 (((Xi U29 956 ((i).toNat))).toNat)) ≤ 5010 := hHU29.c _ _
        have e151 : (Xi U29 951 (((Xi U29 956 ((i).toNat))).toNat)) = Xi S 951 ((Xi U29 956 ((i).toNat))).toNat := by first | rfl | exact (hFU29.cx 951 rfl _).1
        have g151 := hrf (Xi U29 956 ((i).toNat)) (by omega) (by omega)
        refine l_iconst rfl ?_
        refine l_icmp_le rfl rfl (by unfold rg; omega) (by unfold rg; omega) (fun w411 => ?_) (fun w412 => ?_)
        · refine l_aload_n rfl rfl ?_
          refine l_aload_n rfl rfl ?_
          refine l_gfr rfl rfl rfl rfl rfl (hHU29.r 904 67 950 rfl) ?_
          refine l_iload rfl rfl ?_
          refine l_iaload (n := 2600) rfl rfl (by omega) (by omega) (by unfold rg; omega) ?_
          have w413 : 0 ≤ (Xi U29 950 (((Xi U29 956 ((i).toNat))).toNat)) ∧ (Xi U29 950 (((Xi U29 956 ((i).toNat))).toNat)) ≤ 5010 := hHU29.c _ _
          have e167 : (Xi U29 950 (((Xi U29 956 ((i).toNat))).toNat)) = Xi S 950 ((Xi U29 956 ((i).toNat))).toNat := by first | rfl | exact (hFU29.cx 950 rfl _).1
          refine l_aload_n rfl rfl ?_
          refine l_gfr rfl rfl rfl rfl rfl (hHU29.r 904 68 951 rfl) ?_
          refine l_iload rfl rfl ?_
          refine l_iaload (n := 2600) rfl rfl (by omega) (by omega) (by unfold rg; omega) ?_
          refine l_aload_n rfl rfl ?_
          refine l_iload rfl rfl ?_
          have w414 : Xi U29 904 106 = Xi T28 904 106 := (show Xi U29 904 106 = Xi T28 904 106 from by rw [eU29]; exact Xi_ne (by omega))
          have w415 : 0 ≤ Xi T28 904 106 ∧ Xi T28 904 106 ≤ 9 := hHT28.c _ _
          have w416 : Xi U29 904 113 = Xi T1 904 113 := (show Xi U29 904 113 = Xi T28 904 113 from by rw [eU29]; exact Xi_ne (by omega)).trans ((show Xi T28 904 113 = Xi T1 904 113 from w380.x _ _ rfl))
          have w417 : -1 ≤ Xi T1 904 113 ∧ Xi T1 904 113 ≤ 6411 := hHT1.c _ _
          have w418 : Xi U29 904 69 = Xi T1 904 69 := (show Xi U29 904 69 = Xi T28 904 69 from by rw [eU29]; exact Xi_ne (by omega)).trans ((show Xi T28 904 69 = Xi T1 904 69 from w380.x _ _ rfl))
          have w419 : 0 ≤ Xi T1 904 69 ∧ Xi T1 904 69 ≤ 2600 := hHT1.c _ _
          refine l_callV rfl rfl rfl (t_mo_kindOfThing hHU29 z379 ⟨by omega, by omega⟩ (by first | assumption | omega) _) ?_
          rintro _ _ ⟨rfl, z420, rfl, w420⟩
          show Rl _ _ _ _ _ [iv z420, iv (Xi U29 951 (((Xi U29 956 ((i).toNat))).toNat)), iv (Xi U29 950 (((Xi U29 956 ((i).toNat))).toNat)), .ref 904] _ _
          refine l_iload_n rfl rfl ?_
          refine l_if_ne rfl rfl (by unfold rg; omega) (fun w421 => ?_) (fun w422 => ?_)
          · refine l_iconst rfl ?_
            refine l_aload_n rfl rfl ?_
            refine l_gfr rfl rfl rfl rfl rfl (hHU29.r 904 83 953 rfl) ?_
            refine l_iload_n rfl rfl ?_
            refine l_baload (n := 1700) rfl rfl rfl (by decide) (by omega) (by omega) (by unfold rg; omega) ?_
            have w423 : 0 ≤ (Xi U29 953 ((i).toNat)) ∧ (Xi U29 953 ((i).toNat)) ≤ 1 := hHU29.c _ _
            refine l_if_ne rfl rfl (by unfold rg; omega) (fun w424 => ?_) (fun w425 => ?_)
            · refine l_iconst rfl ?_
              have w426 : Xi U29 904 106 = Xi T28 904 106 := (show Xi U29 904 106 = Xi T28 904 106 from by rw [eU29]; exact Xi_ne (by omega))
              have w427 : 0 ≤ Xi T28 904 106 ∧ Xi T28 904 106 ≤ 9 := hHT28.c _ _
              have w428 : Xi U29 904 113 = Xi T1 904 113 := (show Xi U29 904 113 = Xi T28 904 113 from by rw [eU29]; exact Xi_ne (by omega)).trans ((show Xi T28 904 113 = Xi T1 904 113 from w380.x _ _ rfl))
              have w429 : -1 ≤ Xi T1 904 113 ∧ Xi T1 904 113 ≤ 6411 := hHT1.c _ _
              have w430 : Xi U29 904 69 = Xi T1 904 69 := (show Xi U29 904 69 = Xi T28 904 69 from by rw [eU29]; exact Xi_ne (by omega)).trans ((show Xi T28 904 69 = Xi T1 904 69 from w380.x _ _ rfl))
              have w431 : 0 ≤ Xi T1 904 69 ∧ Xi T1 904 69 ≤ 2600 := hHT1.c _ _
              refine l_callV rfl rfl rfl (t_mo_adjective__2 hHU29 (Xi U29 950 (((Xi U29 956 ((i).toNat))).toNat)) (Xi U29 951 (((Xi U29 956 ((i).toNat))).toNat)) z420 0 0 ⟨by omega, by omega⟩ ⟨by omega, by omega⟩ ⟨by omega, by omega⟩ ⟨by omega, by omega⟩ ⟨by omega, by omega⟩ (by first | assumption | omega) (by first | assumption | exact (LXM_FR hFU29 rfl (by assumption : LXM S))) (by first | assumption | exact (ABV_FR hFU29 rfl (by assumption : ABV S))) (by first | assumption | exact (DCM_FR hFU29 rfl (by assumption : DCM S))) _) ?_
              rintro _ T30 ⟨hHT30, w435, z434, rfl, w434, w432, e204x, w433⟩
              have hFT30 : FR md_mo_testMeant S T30 := FR.tr hFU29 w435 rfl
              show Rl _ _ _ _ _ [iv z434] _ _
              have A204 : 1 ≤ z434 → ADX S (1 - isNow) (Xi T30 904 113) := fun x => ⟨by have t := (by assumption : 1 ≤ z434 → ADM T30 (Xi T30 904 113)) x; unfold ADM at *; rw [hFT30.x 904 23 rfl, hFT30.x 904 32 rfl] at t; exact t, fun y z => by have t := (by assumption : 1 ≤ z434 → _ = 0 → Xi T30 904 113 < 100 → _) x (by omega) z; rw [(hFU29.cx 922 rfl _).1] at t; exact t⟩
              clear e204x
              refine l_istore rfl rfl rfl ?_
              have w436 : Xi T30 969 (q).toNat = Xi T1 969 (q).toNat := (show Xi T30 969 (q).toNat = Xi U29 969 (q).toNat from (w435.cx 969 rfl _).1).trans ( (show Xi U29 969 (q).toNat = Xi T28 969 (q).toNat from by rw [eU29]; exact Xi_ne (by omega)).trans ((show Xi T28 969 (q).toNat = Xi T1 969 (q).toNat from (w380.cx 969 rfl _).1)))
              have w437 : Xi T30 971 (q).toNat = Xi U29 971 (q).toNat := (show Xi T30 971 (q).toNat = Xi U29 971 (q).toNat from (w435.cx 971 rfl _).1)
              have w438 : Xi T30 972 (q).toNat = Xi T1 972 (q).toNat := (show Xi T30 972 (q).toNat = Xi U29 972 (q).toNat from (w435.cx 972 rfl _).1).trans ( (show Xi U29 972 (q).toNat = Xi T28 972 (q).toNat from by rw [eU29]; exact Xi_ne (by omega)).trans ((show Xi T28 972 (q).toNat = Xi T1 972 (q).toNat from (w380.cx 972 rfl _).1)))
              have w439 : Xi T30 973 (q).toNat = Xi T1 973 (q).toNat := (show Xi T30 973 (q).toNat = Xi U29 973 (q).toNat from (w435.cx 973 rfl _).1).trans ( (show Xi U29 973 (q).toNat = Xi T28 973 (q).toNat from by rw [eU29]; exact Xi_ne (by omega)).trans ((show Xi T28 973 (q).toNat = Xi T1 973 (q).toNat from (w380.cx 973 rfl _).1)))
              have w440 : Xi T30 974 (q).toNat = Xi T1 974 (q).toNat := (show Xi T30 974 (q).toNat = Xi U29 974 (q).toNat from (w435.cx 974 rfl _).1).trans ( (show Xi U29 974 (q).toNat = Xi T28 974 (q).toNat from by rw [eU29]; exact Xi_ne (by omega)).trans ((show Xi T28 974 (q).toNat = Xi T1 974 (q).toNat from (w380.cx 974 rfl _).1)))
              have w441 : Xi T30 975 (q).toNat = Xi T1 975 (q).toNat := (show Xi T30 975 (q).toNat = Xi U29 975 (q).toNat from (w435.cx 975 rfl _).1).trans ( (show Xi U29 975 (q).toNat = Xi T28 975 (q).toNat from by rw [eU29]; exact Xi_ne (by omega)).trans ((show Xi T28 975 (q).toNat = Xi T1 975 (q).toNat from (w380.cx 975 rfl _).1)))
              have w442 : Xi T30 904 106 = Xi T28 904 106 := (show Xi T30 904 106 = Xi U29 904 106 from w435.x _ _ rfl).trans ((show Xi U29 904 106 = Xi T28 904 106 from by rw [eU29]; exact Xi_ne (by omega)))
              have w443 : 0 ≤ Xi T28 904 106 ∧ Xi T28 904 106 ≤ 9 := hHT28.c _ _
              have w444 : -1 ≤ Xi T30 904 113 ∧ Xi T30 904 113 ≤ 6411 := hHT30.c _ _
              have w445 : Xi T30 904 69 = Xi T1 904 69 := (show Xi T30 904 69 = Xi U29 904 69 from w435.x _ _ rfl).trans ( (show Xi U29 904 69 = Xi T28 904 69 from by rw [eU29]; exact Xi_ne (by omega)).trans ((show Xi T28 904 69 = Xi T1 904 69 from w380.x _ _ rfl)))
              have w446 : 0 ≤ Xi T1 904 69 ∧ Xi T1 904 69 ≤ 2600 := hHT1.c _ _
              exact Rl_weak (C209 T30 hHT30 hFT30 ((Xi U29 956 ((i).toNat))) (z434) (by omega) (by omega) (by omega) (by omega) (by omega) (by omega) (by omega) (th107 (by omega)) (g151) (by first | exact A204 | exact fun x => absurd x (by omega)) ((KQ_FR w435 rfl (KQ.w (KQ_FR w380 rfl (by assumption : KQ T1 S _)) eU29 (by omega))))) (And.intro rfl (And.intro rfl (And.intro rfl (And.intro rfl (True.intro)))))
            · refine l_iconst rfl ?_
              refine l_goto rfl rfl ?_
              have w447 : Xi U29 904 106 = Xi T28 904 106 := (show Xi U29 904 106 = Xi T28 904 106 from by rw [eU29]; exact Xi_ne (by omega))
              have w448 : 0 ≤ Xi T28 904 106 ∧ Xi T28 904 106 ≤ 9 := hHT28.c _ _
              have w449 : Xi U29 904 113 = Xi T1 904 113 := (show Xi U29 904 113 = Xi T28 904 113 from by rw [eU29]; exact Xi_ne (by omega)).trans ((show Xi T28 904 113 = Xi T1 904 113 from w380.x _ _ rfl))
              have w450 : -1 ≤ Xi T1 904 113 ∧ Xi T1 904 113 ≤ 6411 := hHT1.c _ _
              have w451 : Xi U29 904 69 = Xi T1 904 69 := (show Xi U29 904 69 = Xi T28 904 69 from by rw [eU29]; exact Xi_ne (by omega)).trans ((show Xi T28 904 69 = Xi T1 904 69 from w380.x _ _ rfl))
              have w452 : 0 ≤ Xi T1 904 69 ∧ Xi T1 904 69 ≤ 2600 := hHT1.c _ _
              refine l_callV rfl rfl rfl (t_mo_adjective__2 hHU29 (Xi U29 950 (((Xi U29 956 ((i).toNat))).toNat)) (Xi U29 951 (((Xi U29 956 ((i).toNat))).toNat)) z420 0 1 ⟨by omega, by omega⟩ ⟨by omega, by omega⟩ ⟨by omega, by omega⟩ ⟨by omega, by omega⟩ ⟨by omega, by omega⟩ (by first | assumption | omega) (by first | assumption | exact (LXM_FR hFU29 rfl (by assumption : LXM S))) (by first | assumption | exact (ABV_FR hFU29 rfl (by assumption : ABV S))) (by first | assumption | exact (DCM_FR hFU29 rfl (by assumption : DCM S))) _) ?_
              rintro _ T31 ⟨hHT31, w456, z455, rfl, w455, w453, e204x, w454⟩
              have hFT31 : FR md_mo_testMeant S T31 := FR.tr hFU29 w456 rfl
              show Rl _ _ _ _ _ [iv z455] _ _
              have A204 : 1 ≤ z455 → ADX S (1 - isNow) (Xi T31 904 113) := fun x => ⟨by have t := (by assumption : 1 ≤ z455 → ADM T31 (Xi T31 904 113)) x; unfold ADM at *; rw [hFT31.x 904 23 rfl, hFT31.x 904 32 rfl] at t; exact t, fun y z => by have t := (by assumption : 1 ≤ z455 → _ = 0 → Xi T31 904 113 < 100 → _) x (by omega) z; rw [(hFU29.cx 922 rfl _).1] at t; exact t⟩
              clear e204x
              refine l_istore rfl rfl rfl ?_
              have w457 : Xi T31 969 (q).toNat = Xi T1 969 (q).toNat := (show Xi T31 969 (q).toNat = Xi U29 969 (q).toNat from (w456.cx 969 rfl _).1).trans ( (show Xi U29 969 (q).toNat = Xi T28 969 (q).toNat from by rw [eU29]; exact Xi_ne (by omega)).trans ((show Xi T28 969 (q).toNat = Xi T1 969 (q).toNat from (w380.cx 969 rfl _).1)))
              have w458 : Xi T31 971 (q).toNat = Xi U29 971 (q).toNat := (show Xi T31 971 (q).toNat = Xi U29 971 (q).toNat from (w456.cx 971 rfl _).1)
              have w459 : Xi T31 972 (q).toNat = Xi T1 972 (q).toNat := (show Xi T31 972 (q).toNat = Xi U29 972 (q).toNat from (w456.cx 972 rfl _).1).trans ( (show Xi U29 972 (q).toNat = Xi T28 972 (q).toNat from by rw [eU29]; exact Xi_ne (by omega)).trans ((show Xi T28 972 (q).toNat = Xi T1 972 (q).toNat from (w380.cx 972 rfl _).1)))
              have w460 : Xi T31 973 (q).toNat = Xi T1 973 (q).toNat := (show Xi T31 973 (q).toNat = Xi U29 973 (q).toNat from (w456.cx 973 rfl _).1).trans ( (show Xi U29 973 (q).toNat = Xi T28 973 (q).toNat from by rw [eU29]; exact Xi_ne (by omega)).trans ((show Xi T28 973 (q).toNat = Xi T1 973 (q).toNat from (w380.cx 973 rfl _).1)))
              have w461 : Xi T31 974 (q).toNat = Xi T1 974 (q).toNat := (show Xi T31 974 (q).toNat = Xi U29 974 (q).toNat from (w456.cx 974 rfl _).1).trans ( (show Xi U29 974 (q).toNat = Xi T28 974 (q).toNat from by rw [eU29]; exact Xi_ne (by omega)).trans ((show Xi T28 974 (q).toNat = Xi T1 974 (q).toNat from (w380.cx 974 rfl _).1)))
              have w462 : Xi T31 975 (q).toNat = Xi T1 975 (q).toNat := (show Xi T31 975 (q).toNat = Xi U29 975 (q).toNat from (w456.cx 975 rfl _).1).trans ( (show Xi U29 975 (q).toNat = Xi T28 975 (q).toNat from by rw [eU29]; exact Xi_ne (by omega)).trans ((show Xi T28 975 (q).toNat = Xi T1 975 (q).toNat from (w380.cx 975 rfl _).1)))
              have w463 : Xi T31 904 106 = Xi T28 904 106 := (show Xi T31 904 106 = Xi U29 904 106 from w456.x _ _ rfl).trans ((show Xi U29 904 106 = Xi T28 904 106 from by rw [eU29]; exact Xi_ne (by omega)))
              have w464 : 0 ≤ Xi T28 904 106 ∧ Xi T28 904 106 ≤ 9 := hHT28.c _ _
              have w465 : -1 ≤ Xi T31 904 113 ∧ Xi T31 904 113 ≤ 6411 := hHT31.c _ _
              have w466 : Xi T31 904 69 = Xi T1 904 69 := (show Xi T31 904 69 = Xi U29 904 69 from w456.x _ _ rfl).trans ( (show Xi U29 904 69 = Xi T28 904 69 from by rw [eU29]; exact Xi_ne (by omega)).trans ((show Xi T28 904 69 = Xi T1 904 69 from w380.x _ _ rfl)))
              have w467 : 0 ≤ Xi T1 904 69 ∧ Xi T1 904 69 ≤ 2600 := hHT1.c _ _
              exact Rl_weak (C209 T31 hHT31 hFT31 ((Xi U29 956 ((i).toNat))) (z455) (by omega) (by omega) (by omega) (by omega) (by omega) (by omega) (by omega) (th107 (by omega)) (g151) (by first | exact A204 | exact fun x => absurd x (by omega)) ((KQ_FR w456 rfl (KQ.w (KQ_FR w380 rfl (by assumption : KQ T1 S _)) eU29 (by omega))))) (And.intro rfl (And.intro rfl (And.intro rfl (And.intro rfl (True.intro)))))
          · refine l_iconst rfl ?_
            refine l_goto rfl rfl ?_
            refine l_aload_n rfl rfl ?_
            refine l_gfr rfl rfl rfl rfl rfl (hHU29.r 904 83 953 rfl) ?_
            refine l_iload_n rfl rfl ?_
            refine l_baload (n := 1700) rfl rfl rfl (by decide) (by omega) (by omega) (by unfold rg; omega) ?_
            have w468 : 0 ≤ (Xi U29 953 ((i).toNat)) ∧ (Xi U29 953 ((i).toNat)) ≤ 1 := hHU29.c _ _
            refine l_if_ne rfl rfl (by unfold rg; omega) (fun w469 => ?_) (fun w470 => ?_)
            · refine l_iconst rfl ?_
              have w471 : Xi U29 904 106 = Xi T28 904 106 := (show Xi U29 904 106 = Xi T28 904 106 from by rw [eU29]; exact Xi_ne (by omega))
              have w472 : 0 ≤ Xi T28 904 106 ∧ Xi T28 904 106 ≤ 9 := hHT28.c _ _
              have w473 : Xi U29 904 113 = Xi T1 904 113 := (show Xi U29 904 113 = Xi T28 904 113 from by rw [eU29]; exact Xi_ne (by omega)).trans ((show Xi T28 904 113 = Xi T1 904 113 from w380.x _ _ rfl))
              have w474 : -1 ≤ Xi T1 904 113 ∧ Xi T1 904 113 ≤ 6411 := hHT1.c _ _
              have w475 : Xi U29 904 69 = Xi T1 904 69 := (show Xi U29 904 69 = Xi T28 904 69 from by rw [eU29]; exact Xi_ne (by omega)).trans ((show Xi T28 904 69 = Xi T1 904 69 from w380.x _ _ rfl))
              have w476 : 0 ≤ Xi T1 904 69 ∧ Xi T1 904 69 ≤ 2600 := hHT1.c _ _
              refine l_callV rfl rfl rfl (t_mo_adjective__2 hHU29 (Xi U29 950 (((Xi U29 956 ((i).toNat))).toNat)) (Xi U29 951 (((Xi U29 956 ((i).toNat))).toNat)) z420 1 0 ⟨by omega, by omega⟩ ⟨by omega, by omega⟩ ⟨by omega, by omega⟩ ⟨by omega, by omega⟩ ⟨by omega, by omega⟩ (by first | assumption | omega) (by first | assumption | exact (LXM_FR hFU29 rfl (by assumption : LXM S))) (by first | assumption | exact (ABV_FR hFU29 rfl (by assumption : ABV S))) (by first | assumption | exact (DCM_FR hFU29 rfl (by assumption : DCM S))) _) ?_
              rintro _ T32 ⟨hHT32, w480, z479, rfl, w479, w477, e204x, w478⟩
              have hFT32 : FR md_mo_testMeant S T32 := FR.tr hFU29 w480 rfl
              show Rl _ _ _ _ _ [iv z479] _ _
              have A204 : 1 ≤ z479 → ADX S (1 - isNow) (Xi T32 904 113) := fun x => ⟨by have t := (by assumption : 1 ≤ z479 → ADM T32 (Xi T32 904 113)) x; unfold ADM at *; rw [hFT32.x 904 23 rfl, hFT32.x 904 32 rfl] at t; exact t, fun y z => by have t := (by assumption : 1 ≤ z479 → _ = 0 → Xi T32 904 113 < 100 → _) x (by omega) z; rw [(hFU29.cx 922 rfl _).1] at t; exact t⟩
              clear e204x
              refine l_istore rfl rfl rfl ?_
              have w481 : Xi T32 969 (q).toNat = Xi T1 969 (q).toNat := (show Xi T32 969 (q).toNat = Xi U29 969 (q).toNat from (w480.cx 969 rfl _).1).trans ( (show Xi U29 969 (q).toNat = Xi T28 969 (q).toNat from by rw [eU29]; exact Xi_ne (by omega)).trans ((show Xi T28 969 (q).toNat = Xi T1 969 (q).toNat from (w380.cx 969 rfl _).1)))
              have w482 : Xi T32 971 (q).toNat = Xi U29 971 (q).toNat := (show Xi T32 971 (q).toNat = Xi U29 971 (q).toNat from (w480.cx 971 rfl _).1)
              have w483 : Xi T32 972 (q).toNat = Xi T1 972 (q).toNat := (show Xi T32 972 (q).toNat = Xi U29 972 (q).toNat from (w480.cx 972 rfl _).1).trans ( (show Xi U29 972 (q).toNat = Xi T28 972 (q).toNat from by rw [eU29]; exact Xi_ne (by omega)).trans ((show Xi T28 972 (q).toNat = Xi T1 972 (q).toNat from (w380.cx 972 rfl _).1)))
              have w484 : Xi T32 973 (q).toNat = Xi T1 973 (q).toNat := (show Xi T32 973 (q).toNat = Xi U29 973 (q).toNat from (w480.cx 973 rfl _).1).trans ( (show Xi U29 973 (q).toNat = Xi T28 973 (q).toNat from by rw [eU29]; exact Xi_ne (by omega)).trans ((show Xi T28 973 (q).toNat = Xi T1 973 (q).toNat from (w380.cx 973 rfl _).1)))
              have w485 : Xi T32 974 (q).toNat = Xi T1 974 (q).toNat := (show Xi T32 974 (q).toNat = Xi U29 974 (q).toNat from (w480.cx 974 rfl _).1).trans ( (show Xi U29 974 (q).toNat = Xi T28 974 (q).toNat from by rw [eU29]; exact Xi_ne (by omega)).trans ((show Xi T28 974 (q).toNat = Xi T1 974 (q).toNat from (w380.cx 974 rfl _).1)))
              have w486 : Xi T32 975 (q).toNat = Xi T1 975 (q).toNat := (show Xi T32 975 (q).toNat = Xi U29 975 (q).toNat from (w480.cx 975 rfl _).1).trans ( (show Xi U29 975 (q).toNat = Xi T28 975 (q).toNat from by rw [eU29]; exact Xi_ne (by omega)).trans ((show Xi T28 975 (q).toNat = Xi T1 975 (q).toNat from (w380.cx 975 rfl _).1)))
              have w487 : Xi T32 904 106 = Xi T28 904 106 := (show Xi T32 904 106 = Xi U29 904 106 from w480.x _ _ rfl).trans ((show Xi U29 904 106 = Xi T28 904 106 from by rw [eU29]; exact Xi_ne (by omega)))
              have w488 : 0 ≤ Xi T28 904 106 ∧ Xi T28 904 106 ≤ 9 := hHT28.c _ _
              have w489 : -1 ≤ Xi T32 904 113 ∧ Xi T32 904 113 ≤ 6411 := hHT32.c _ _
              have w490 : Xi T32 904 69 = Xi T1 904 69 := (show Xi T32 904 69 = Xi U29 904 69 from w480.x _ _ rfl).trans ( (show Xi U29 904 69 = Xi T28 904 69 from by rw [eU29]; exact Xi_ne (by omega)).trans ((show Xi T28 904 69 = Xi T1 904 69 from w380.x _ _ rfl)))
              have w491 : 0 ≤ Xi T1 904 69 ∧ Xi T1 904 69 ≤ 2600 := hHT1.c _ _
              exact Rl_weak (C209 T32 hHT32 hFT32 ((Xi U29 956 ((i).toNat))) (z479) (by omega) (by omega) (by omega) (by omega) (by omega) (by omega) (by omega) (th107 (by omega)) (g151) (by first | exact A204 | exact fun x => absurd x (by omega)) ((KQ_FR w480 rfl (KQ.w (KQ_FR w380 rfl (by assumption : KQ T1 S _)) eU29 (by omega))))) (And.intro rfl (And.intro rfl (And.intro rfl (And.intro rfl (True.intro)))))
            · refine l_iconst rfl ?_
              refine l_goto rfl rfl ?_
              have w492 : Xi U29 904 106 = Xi T28 904 106 := (show Xi U29 904 106 = Xi T28 904 106 from by rw [eU29]; exact Xi_ne (by omega))
              have w493 : 0 ≤ Xi T28 904 106 ∧ Xi T28 904 106 ≤ 9 := hHT28.c _ _
              have w494 : Xi U29 904 113 = Xi T1 904 113 := (show Xi U29 904 113 = Xi T28 904 113 from by rw [eU29]; exact Xi_ne (by omega)).trans ((show Xi T28 904 113 = Xi T1 904 113 from w380.x _ _ rfl))
              have w495 : -1 ≤ Xi T1 904 113 ∧ Xi T1 904 113 ≤ 6411 := hHT1.c _ _
              have w496 : Xi U29 904 69 = Xi T1 904 69 := (show Xi U29 904 69 = Xi T28 904 69 from by rw [eU29]; exact Xi_ne (by omega)).trans ((show Xi T28 904 69 = Xi T1 904 69 from w380.x _ _ rfl))
              have w497 : 0 ≤ Xi T1 904 69 ∧ Xi T1 904 69 ≤ 2600 := hHT1.c _ _
              refine l_callV rfl rfl rfl (t_mo_adjective__2 hHU29 (Xi U29 950 (((Xi U29 956 ((i).toNat))).toNat)) (Xi U29 951 (((Xi U29 956 ((i).toNat))).toNat)) z420 1 1 ⟨by omega, by omega⟩ ⟨by omega, by omega⟩ ⟨by omega, by omega⟩ ⟨by omega, by omega⟩ ⟨by omega, by omega⟩ (by first | assumption | omega) (by first | assumption | exact (LXM_FR hFU29 rfl (by assumption : LXM S))) (by first | assumption | exact (ABV_FR hFU29 rfl (by assumption : ABV S))) (by first | assumption | exact (DCM_FR hFU29 rfl (by assumption : DCM S))) _) ?_
              rintro _ T33 ⟨hHT33, w501, z500, rfl, w500, w498, e204x, w499⟩
              have hFT33 : FR md_mo_testMeant S T33 := FR.tr hFU29 w501 rfl
              show Rl _ _ _ _ _ [iv z500] _ _
              have A204 : 1 ≤ z500 → ADX S (1 - isNow) (Xi T33 904 113) := fun x => ⟨by have t := (by assumption : 1 ≤ z500 → ADM T33 (Xi T33 904 113)) x; unfold ADM at *; rw [hFT33.x 904 23 rfl, hFT33.x 904 32 rfl] at t; exact t, fun y z => by have t := (by assumption : 1 ≤ z500 → _ = 0 → Xi T33 904 113 < 100 → _) x (by omega) z; rw [(hFU29.cx 922 rfl _).1] at t; exact t⟩
              clear e204x
              refine l_istore rfl rfl rfl ?_
              have w502 : Xi T33 969 (q).toNat = Xi T1 969 (q).toNat := (show Xi T33 969 (q).toNat = Xi U29 969 (q).toNat from (w501.cx 969 rfl _).1).trans ( (show Xi U29 969 (q).toNat = Xi T28 969 (q).toNat from by rw [eU29]; exact Xi_ne (by omega)).trans ((show Xi T28 969 (q).toNat = Xi T1 969 (q).toNat from (w380.cx 969 rfl _).1)))
              have w503 : Xi T33 971 (q).toNat = Xi U29 971 (q).toNat := (show Xi T33 971 (q).toNat = Xi U29 971 (q).toNat from (w501.cx 971 rfl _).1)
              have w504 : Xi T33 972 (q).toNat = Xi T1 972 (q).toNat := (show Xi T33 972 (q).toNat = Xi U29 972 (q).toNat from (w501.cx 972 rfl _).1).trans ( (show Xi U29 972 (q).toNat = Xi T28 972 (q).toNat from by rw [eU29]; exact Xi_ne (by omega)).trans ((show Xi T28 972 (q).toNat = Xi T1 972 (q).toNat from (w380.cx 972 rfl _).1)))
              have w505 : Xi T33 973 (q).toNat = Xi T1 973 (q).toNat := (show Xi T33 973 (q).toNat = Xi U29 973 (q).toNat from (w501.cx 973 rfl _).1).trans ( (show Xi U29 973 (q).toNat = Xi T28 973 (q).toNat from by rw [eU29]; exact Xi_ne (by omega)).trans ((show Xi T28 973 (q).toNat = Xi T1 973 (q).toNat from (w380.cx 973 rfl _).1)))
              have w506 : Xi T33 974 (q).toNat = Xi T1 974 (q).toNat := (show Xi T33 974 (q).toNat = Xi U29 974 (q).toNat from (w501.cx 974 rfl _).1).trans ( (show Xi U29 974 (q).toNat = Xi T28 974 (q).toNat from by rw [eU29]; exact Xi_ne (by omega)).trans ((show Xi T28 974 (q).toNat = Xi T1 974 (q).toNat from (w380.cx 974 rfl _).1)))
              have w507 : Xi T33 975 (q).toNat = Xi T1 975 (q).toNat := (show Xi T33 975 (q).toNat = Xi U29 975 (q).toNat from (w501.cx 975 rfl _).1).trans ( (show Xi U29 975 (q).toNat = Xi T28 975 (q).toNat from by rw [eU29]; exact Xi_ne (by omega)).trans ((show Xi T28 975 (q).toNat = Xi T1 975 (q).toNat from (w380.cx 975 rfl _).1)))
              have w508 : Xi T33 904 106 = Xi T28 904 106 := (show Xi T33 904 106 = Xi U29 904 106 from w501.x _ _ rfl).trans ((show Xi U29 904 106 = Xi T28 904 106 from by rw [eU29]; exact Xi_ne (by omega)))
              have w509 : 0 ≤ Xi T28 904 106 ∧ Xi T28 904 106 ≤ 9 := hHT28.c _ _
              have w510 : -1 ≤ Xi T33 904 113 ∧ Xi T33 904 113 ≤ 6411 := hHT33.c _ _
              have w511 : Xi T33 904 69 = Xi T1 904 69 := (show Xi T33 904 69 = Xi U29 904 69 from w501.x _ _ rfl).trans ( (show Xi U29 904 69 = Xi T28 904 69 from by rw [eU29]; exact Xi_ne (by omega)).trans ((show Xi T28 904 69 = Xi T1 904 69 from w380.x _ _ rfl)))
              have w512 : 0 ≤ Xi T1 904 69 ∧ Xi T1 904 69 ≤ 2600 := hHT1.c _ _
              exact Rl_weak (C209 T33 hHT33 hFT33 ((Xi U29 956 ((i).toNat))) (z500) (by omega) (by omega) (by omega) (by omega) (by omega) (by omega) (by omega) (th107 (by omega)) (g151) (by first | exact A204 | exact fun x => absurd x (by omega)) ((KQ_FR w501 rfl (KQ.w (KQ_FR w380 rfl (by assumption : KQ T1 S _)) eU29 (by omega))))) (And.intro rfl (And.intro rfl (And.intro rfl (And.intro rfl (True.intro)))))
        · refine l_iconst rfl ?_
          refine l_goto rfl rfl ?_
          refine l_istore rfl rfl rfl ?_
          have w513 : Xi U29 969 (q).toNat = Xi T1 969 (q).toNat := (show Xi U29 969 (q).toNat = Xi T28 969 (q).toNat from by rw [eU29]; exact Xi_ne (by omega)).trans ((show Xi T28 969 (q).toNat = Xi T1 969 (q).toNat from (w380.cx 969 rfl _).1))
          have w514 : Xi U29 972 (q).toNat = Xi T1 972 (q).toNat := (show Xi U29 972 (q).toNat = Xi T28 972 (q).toNat from by rw [eU29]; exact Xi_ne (by omega)).trans ((show Xi T28 972 (q).toNat = Xi T1 972 (q).toNat from (w380.cx 972 rfl _).1))
          have w515 : Xi U29 973 (q).toNat = Xi T1 973 (q).toNat := (show Xi U29 973 (q).toNat = Xi T28 973 (q).toNat from by rw [eU29]; exact Xi_ne (by omega)).trans ((show Xi T28 973 (q).toNat = Xi T1 973 (q).toNat from (w380.cx 973 rfl _).1))
          have w516 : Xi U29 974 (q).toNat = Xi T1 974 (q).toNat := (show Xi U29 974 (q).toNat = Xi T28 974 (q).toNat from by rw [eU29]; exact Xi_ne (by omega)).trans ((show Xi T28 974 (q).toNat = Xi T1 974 (q).toNat from (w380.cx 974 rfl _).1))
          have w517 : Xi U29 975 (q).toNat = Xi T1 975 (q).toNat := (show Xi U29 975 (q).toNat = Xi T28 975 (q).toNat from by rw [eU29]; exact Xi_ne (by omega)).trans ((show Xi T28 975 (q).toNat = Xi T1 975 (q).toNat from (w380.cx 975 rfl _).1))
          have w518 : Xi U29 904 106 = Xi T28 904 106 := (show Xi U29 904 106 = Xi T28 904 106 from by rw [eU29]; exact Xi_ne (by omega))
          have w519 : 0 ≤ Xi T28 904 106 ∧ Xi T28 904 106 ≤ 9 := hHT28.c _ _
          have w520 : Xi U29 904 113 = Xi T1 904 113 := (show Xi U29 904 113 = Xi T28 904 113 from by rw [eU29]; exact Xi_ne (by omega)).trans ((show Xi T28 904 113 = Xi T1 904 113 from w380.x _ _ rfl))
          have w521 : -1 ≤ Xi T1 904 113 ∧ Xi T1 904 113 ≤ 6411 := hHT1.c _ _
          have w522 : Xi U29 904 69 = Xi T1 904 69 := (show Xi U29 904 69 = Xi T28 904 69 from by rw [eU29]; exact Xi_ne (by omega)).trans ((show Xi T28 904 69 = Xi T1 904 69 from w380.x _ _ rfl))
          have w523 : 0 ≤ Xi T1 904 69 ∧ Xi T1 904 69 ≤ 2600 := hHT1.c _ _
          exact Rl_weak (C209 U29 hHU29 hFU29 ((Xi U29 956 ((i).toNat))) (0) (by omega) (by omega) (by omega) (by omega) (by omega) (by omega) (by omega) (th107 (by omega)) (g151) (by first | exact A204 | exact fun x => absurd x (by omega)) ((KQ.w (KQ_FR w380 rfl (by assumption : KQ T1 S _)) eU29 (by omega)))) (And.intro rfl (And.intro rfl (And.intro rfl (And.intro rfl (True.intro)))))
  refine l_aload_n rfl rfl ?_
  refine l_gfr rfl rfl rfl rfl rfl (hH.r 904 118 969 rfl) ?_
  refine l_iload_n rfl rfl ?_
  refine l_aload_n rfl rfl ?_
  refine l_gfr rfl rfl rfl rfl rfl (hH.r 904 82 952 rfl) ?_
  refine l_iload_n rfl rfl ?_
  refine l_iaload (n := 1700) rfl rfl (by omega) (by omega) (by unfold rg; omega) ?_
  have w524 : 0 ≤ (Xi S 952 ((i).toNat)) ∧ (Xi S 952 ((i).toNat)) ≤ 5 := hH.c _ _
  refine l_iastore (n := 2400) rfl rfl (by omega) (by omega) (by unfold rg; omega) ?_
  obtain ⟨U34, eU34⟩ : ∃ T : sS, T = uI S 969 ((q).toNat) (Int32.ofInt (Xi S 952 ((i).toNat))) := ⟨_, rfl⟩
  rw [← eU34]
  have hHU34 : HI U34 := by rw [eU34]; exact HI_w hH (show 0 ≤ (Xi S 952 ((i).toNat)) by omega) (show (Xi S 952 ((i).toNat)) ≤ 5 by omega)
  have hFU34 : FR md_mo_testMeant S U34 := by rw [eU34]; exact FR.wI hF (mdf_i (r := (969, 970, 0, 100000)) (List.mem_of_getElem? (i := 5) rfl) (inR_i (by omega) (by omega) (by omega) (by omega)))
  have w525 : Xi U34 969 ((q).toNat) = (Xi S 952 ((i).toNat)) := by rw [eU34]; exact Xi_same (by unfold rg; omega)
  refine l_aload_n rfl rfl ?_
  refine l_gfr rfl rfl rfl rfl rfl (hHU34.r 904 119 970 rfl) ?_
  refine l_iload_n rfl rfl ?_
  refine l_aload_n rfl rfl ?_
  refine l_gfr rfl rfl rfl rfl rfl (hHU34.r 904 83 953 rfl) ?_
  refine l_iload_n rfl rfl ?_
  refine l_baload (n := 1700) rfl rfl rfl (by decide) (by omega) (by omega) (by unfold rg; omega) ?_
  have w526 : 0 ≤ (Xi U34 953 ((i).toNat)) ∧ (Xi U34 953 ((i).toNat)) ≤ 1 := hHU34.c _ _
  refine l_bastoreZ1 (n := 2400) rfl rfl (by omega) (by omega) (by unfold rg; omega) ⟨by omega, by omega⟩ ?_
  obtain ⟨U35, eU35⟩ : ∃ T : sS, T = uI U34 970 ((q).toNat) (Int32.ofInt (Xi U34 953 ((i).toNat))) := ⟨_, rfl⟩
  rw [← eU35]
  have hHU35 : HI U35 := by rw [eU35]; exact HI_w hHU34 (show 0 ≤ (Xi U34 953 ((i).toNat)) by omega) (show (Xi U34 953 ((i).toNat)) ≤ 1 by omega)
  have hFU35 : FR md_mo_testMeant S U35 := by rw [eU35]; exact FR.wI hFU34 (mdf_i (r := (970, 971, 0, 100000)) (List.mem_of_getElem? (i := 6) rfl) (inR_i (by omega) (by omega) (by omega) (by omega)))
  have w527 : Xi U35 970 ((q).toNat) = (Xi U34 953 ((i).toNat)) := by rw [eU35]; exact Xi_same (by unfold rg; omega)
  refine l_aload_n rfl rfl ?_
  refine l_gfr rfl rfl rfl rfl rfl (hHU35.r 904 82 952 rfl) ?_
  refine l_iload_n rfl rfl ?_
  refine l_iaload (n := 1700) rfl rfl (by omega) (by omega) (by unfold rg; omega) ?_
  have w528 : (Xi U35 952 ((i).toNat)) = (Xi S 952 ((i).toNat)) := (show Xi U35 952 ((i).toNat) = Xi U34 952 ((i).toNat) from by rw [eU35]; exact Xi_ne (by omega)).trans ((show Xi U34 952 ((i).toNat) = Xi S 952 ((i).toNat) from by rw [eU34]; exact Xi_ne (by omega)))
  rw [w528]
  have e29 : (Xi S 952 ((i).toNat)) = Xi S 952 (i).toNat := by first | rfl | exact (hFU35.cx 952 rfl _).1
  refine l_iconst rfl ?_
  refine l_icmp_ne rfl rfl (by unfold rg; omega) (by unfold rg; omega) (fun w529 => ?_) (fun w530 => ?_)
  · have w531 : Xi U35 969 (q).toNat = Xi U34 969 (q).toNat := (show Xi U35 969 (q).toNat = Xi U34 969 (q).toNat from by rw [eU35]; exact Xi_ne (by omega))
    have w532 : Xi U35 971 (q).toNat = Xi S 971 (q).toNat := (show Xi U35 971 (q).toNat = Xi U34 971 (q).toNat from by rw [eU35]; exact Xi_ne (by omega)).trans ((show Xi U34 971 (q).toNat = Xi S 971 (q).toNat from by rw [eU34]; exact Xi_ne (by omega)))
    have w533 : Xi U35 972 (q).toNat = Xi S 972 (q).toNat := (show Xi U35 972 (q).toNat = Xi U34 972 (q).toNat from by rw [eU35]; exact Xi_ne (by omega)).trans ((show Xi U34 972 (q).toNat = Xi S 972 (q).toNat from by rw [eU34]; exact Xi_ne (by omega)))
    have w534 : Xi U35 973 (q).toNat = Xi S 973 (q).toNat := (show Xi U35 973 (q).toNat = Xi U34 973 (q).toNat from by rw [eU35]; exact Xi_ne (by omega)).trans ((show Xi U34 973 (q).toNat = Xi S 973 (q).toNat from by rw [eU34]; exact Xi_ne (by omega)))
    have w535 : Xi U35 974 (q).toNat = Xi S 974 (q).toNat := (show Xi U35 974 (q).toNat = Xi U34 974 (q).toNat from by rw [eU35]; exact Xi_ne (by omega)).trans ((show Xi U34 974 (q).toNat = Xi S 974 (q).toNat from by rw [eU34]; exact Xi_ne (by omega)))
    have w536 : Xi U35 975 (q).toNat = Xi S 975 (q).toNat := (show Xi U35 975 (q).toNat = Xi U34 975 (q).toNat from by rw [eU35]; exact Xi_ne (by omega)).trans ((show Xi U34 975 (q).toNat = Xi S 975 (q).toNat from by rw [eU34]; exact Xi_ne (by omega)))
    have w537 : Xi U35 904 106 = Xi S 904 106 := (show Xi U35 904 106 = Xi U34 904 106 from by rw [eU35]; exact Xi_ne (by omega)).trans ((show Xi U34 904 106 = Xi S 904 106 from by rw [eU34]; exact Xi_ne (by omega)))
    have w538 : 0 ≤ Xi S 904 106 ∧ Xi S 904 106 ≤ 9 := hH.c _ _
    have w539 : Xi U35 904 113 = Xi S 904 113 := (show Xi U35 904 113 = Xi U34 904 113 from by rw [eU35]; exact Xi_ne (by omega)).trans ((show Xi U34 904 113 = Xi S 904 113 from by rw [eU34]; exact Xi_ne (by omega)))
    have w540 : -1 ≤ Xi S 904 113 ∧ Xi S 904 113 ≤ 6411 := hH.c _ _
    have w541 : Xi U35 904 69 = Xi S 904 69 := (show Xi U35 904 69 = Xi U34 904 69 from by rw [eU35]; exact Xi_ne (by omega)).trans ((show Xi U34 904 69 = Xi S 904 69 from by rw [eU34]; exact Xi_ne (by omega)))
    have w542 : 0 ≤ Xi S 904 69 ∧ Xi S 904 69 ≤ 2600 := hH.c _ _
    exact Rl_weak (C94 U35 hHU35 hFU35  (by omega) (by omega) (by omega) ((KQ.w (KQ.w KQ.rf eU34 (by omega)) eU35 (by omega))) (by omega)) (And.intro rfl (And.intro rfl (And.intro rfl (And.intro rfl (True.intro)))))
  · refine l_aload_n rfl rfl ?_
    refine l_gfr rfl rfl rfl rfl rfl (hHU35.r 904 91 961 rfl) ?_
    refine l_iload_n rfl rfl ?_
    refine l_iaload (n := 1700) rfl rfl (by omega) (by omega) (by unfold rg; omega) ?_
    have w543 : 0 ≤ (Xi U35 961 ((i).toNat)) ∧ (Xi U35 961 ((i).toNat)) ≤ 5010 := hHU35.c _ _
    have e39 : (Xi U35 961 ((i).toNat)) = Xi S 961 (i).toNat := by first | rfl | exact (hFU35.cx 961 rfl _).1
    refine l_istore rfl rfl rfl ?_
    refine l_aload_n rfl rfl ?_
    refine l_iload rfl rfl ?_
    refine l_aload_n rfl rfl ?_
    refine l_gfr rfl rfl rfl rfl rfl (hHU35.r 904 92 962 rfl) ?_
    refine l_iload_n rfl rfl ?_
    refine l_iaload (n := 1700) rfl rfl (by omega) (by omega) (by unfold rg; omega) ?_
    have w544 : 0 ≤ (Xi U35 962 ((i).toNat)) ∧ (Xi U35 962 ((i).toNat)) ≤ 5010 := hHU35.c _ _
    have e50 : (Xi U35 962 ((i).toNat)) = Xi S 962 (i).toNat := by first | rfl | exact (hFU35.cx 962 rfl _).1
    refine l_iload_n rfl rfl ?_
    have w545 : Xi U35 904 106 = Xi S 904 106 := (show Xi U35 904 106 = Xi U34 904 106 from by rw [eU35]; exact Xi_ne (by omega)).trans ((show Xi U34 904 106 = Xi S 904 106 from by rw [eU34]; exact Xi_ne (by omega)))
    have w546 : 0 ≤ Xi S 904 106 ∧ Xi S 904 106 ≤ 9 := hH.c _ _
    have w547 : Xi U35 904 113 = Xi S 904 113 := (show Xi U35 904 113 = Xi U34 904 113 from by rw [eU35]; exact Xi_ne (by omega)).trans ((show Xi U34 904 113 = Xi S 904 113 from by rw [eU34]; exact Xi_ne (by omega)))
    have w548 : -1 ≤ Xi S 904 113 ∧ Xi S 904 113 ≤ 6411 := hH.c _ _
    have w549 : Xi U35 904 69 = Xi S 904 69 := (show Xi U35 904 69 = Xi U34 904 69 from by rw [eU35]; exact Xi_ne (by omega)).trans ((show Xi U34 904 69 = Xi S 904 69 from by rw [eU34]; exact Xi_ne (by omega)))
    have w550 : 0 ≤ Xi S 904 69 ∧ Xi S 904 69 ≤ 2600 := hH.c _ _
    refine l_callV rfl rfl rfl (t_mo_sayings hHU35 (Xi U35 961 ((i).toNat)) (Xi U35 962 ((i).toNat)) q ⟨by omega, by omega⟩ ⟨by omega, by omega⟩ ⟨by omega, by omega⟩ (by first | assumption | exact (LXM_FR hFU35 rfl (by assumption : LXM S))) (by first | assumption | exact (ABV_FR hFU35 rfl (by assumption : ABV S))) (by first | assumption | omega) _) ?_
    rintro _ T36 ⟨hHT36, w553, z552, rfl, w552, f52, w551⟩
    have hFT36 : FR md_mo_testMeant S T36 := FR.tr hFU35 w553 rfl
    show Rl _ _ _ _ _ [iv z552] _ _
    have h52 : Xi T36 904 19 = Xi S 904 19 ∧ Xi T36 904 115 = Xi S 904 115 ∧ Xi T36 904 116 = Xi S 904 116 := ⟨hFT36.x 904 19 rfl, hFT36.x 904 115 rfl, hFT36.x 904 116 rfl⟩
    refine l_istore rfl rfl rfl ?_
    refine l_aload_n rfl rfl ?_
    refine l_iload rfl rfl ?_
    refine l_if_le rfl rfl (by unfold rg; omega) (fun w554 => ?_) (fun w555 => ?_)
    · refine l_iconst rfl ?_
      refine l_iconst rfl ?_
      refine l_iload rfl rfl ?_
      have w556 : Xi T36 904 106 = Xi S 904 106 := (show Xi T36 904 106 = Xi U35 904 106 from w553.x _ _ rfl).trans ( (show Xi U35 904 106 = Xi U34 904 106 from by rw [eU35]; exact Xi_ne (by omega)).trans ((show Xi U34 904 106 = Xi S 904 106 from by rw [eU34]; exact Xi_ne (by omega))))
      have w557 : 0 ≤ Xi S 904 106 ∧ Xi S 904 106 ≤ 9 := hH.c _ _
      have w558 : Xi T36 904 113 = Xi S 904 113 := (show Xi T36 904 113 = Xi U35 904 113 from w553.x _ _ rfl).trans ( (show Xi U35 904 113 = Xi U34 904 113 from by rw [eU35]; exact Xi_ne (by omega)).trans ((show Xi U34 904 113 = Xi S 904 113 from by rw [eU34]; exact Xi_ne (by omega))))
      have w559 : -1 ≤ Xi S 904 113 ∧ Xi S 904 113 ≤ 6411 := hH.c _ _
      have w560 : Xi T36 904 69 = Xi S 904 69 := (show Xi T36 904 69 = Xi U35 904 69 from w553.x _ _ rfl).trans ( (show Xi U35 904 69 = Xi U34 904 69 from by rw [eU35]; exact Xi_ne (by omega)).trans ((show Xi U34 904 69 = Xi S 904 69 from by rw [eU34]; exact Xi_ne (by omega))))
      have w561 : 0 ≤ Xi S 904 69 ∧ Xi S 904 69 ≤ 2600 := hH.c _ _
      refine l_callV rfl rfl rfl (t_mo_need hHT36 0 4 (Xi U35 961 ((i).toNat)) ⟨by omega, by omega⟩ ⟨by omega, by omega⟩ ⟨by omega, by omega⟩ _) ?_
      rintro _ T37 ⟨hHT37, w565, rfl, w562, w563⟩
      have hFT37 : FR md_mo_testMeant S T37 := FR.tr hFT36 w565 rfl
      show Rl _ _ _ _ _ [] _ _
      refine l_aload_n rfl rfl ?_
      refine l_iload rfl rfl ?_
      refine l_iconst rfl ?_
      refine l_icmp_ge rfl rfl (by unfold rg; omega) (by unfold rg; omega) (fun w566 => ?_) (fun w567 => ?_)
      · refine l_iconst rfl ?_
        refine l_bipush rfl rfl ?_
        refine l_iload rfl rfl ?_
        have w568 : 0 ≤ Xi T37 904 106 ∧ Xi T37 904 106 ≤ 9 := hHT37.c _ _
        have w569 : Xi T37 904 113 = Xi S 904 113 := (show Xi T37 904 113 = Xi T36 904 113 from w565.x _ _ rfl).trans ( (show Xi T36 904 113 = Xi U35 904 113 from w553.x _ _ rfl).trans ( (show Xi U35 904 113 = Xi U34 904 113 from by rw [eU35]; exact Xi_ne (by omega)).trans ((show Xi U34 904 113 = Xi S 904 113 from by rw [eU34]; exact Xi_ne (by omega)))))
        have w570 : -1 ≤ Xi S 904 113 ∧ Xi S 904 113 ≤ 6411 := hH.c _ _
        have w571 : Xi T37 904 69 = Xi S 904 69 := (show Xi T37 904 69 = Xi T36 904 69 from w565.x _ _ rfl).trans ( (show Xi T36 904 69 = Xi U35 904 69 from w553.x _ _ rfl).trans ( (show Xi U35 904 69 = Xi U34 904 69 from by rw [eU35]; exact Xi_ne (by omega)).trans ((show Xi U34 904 69 = Xi S 904 69 from by rw [eU34]; exact Xi_ne (by omega)))))
        have w572 : 0 ≤ Xi S 904 69 ∧ Xi S 904 69 ≤ 2600 := hH.c _ _
        refine l_callV rfl rfl rfl (t_mo_need hHT37 0 7 (Xi U35 961 ((i).toNat)) ⟨by omega, by omega⟩ ⟨by omega, by omega⟩ ⟨by omega, by omega⟩ _) ?_
        rintro _ T38 ⟨hHT38, w576, rfl, w573, w574⟩
        have hFT38 : FR md_mo_testMeant S T38 := FR.tr hFT37 w576 rfl
        show Rl _ _ _ _ _ [] _ _
        refine l_return rfl rfl ?_
        have w577 : Xi T38 969 (q).toNat = Xi U34 969 (q).toNat := (show Xi T38 969 (q).toNat = Xi T37 969 (q).toNat from (w576.cx 969 rfl _).1).trans ( (show Xi T37 969 (q).toNat = Xi T36 969 (q).toNat from (w565.cx 969 rfl _).1).trans ( (show Xi T36 969 (q).toNat = Xi U35 969 (q).toNat from (w553.cx 969 rfl _).1).trans ((show Xi U35 969 (q).toNat = Xi U34 969 (q).toNat from by rw [eU35]; exact Xi_ne (by omega)))))
        have w578 : Xi T38 971 (q).toNat = Xi T36 971 (q).toNat := (show Xi T38 971 (q).toNat = Xi T37 971 (q).toNat from (w576.cx 971 rfl _).1).trans ((show Xi T37 971 (q).toNat = Xi T36 971 (q).toNat from (w565.cx 971 rfl _).1))
        have w579 : Xi T38 972 (q).toNat = Xi T36 972 (q).toNat := (show Xi T38 972 (q).toNat = Xi T37 972 (q).toNat from (w576.cx 972 rfl _).1).trans ((show Xi T37 972 (q).toNat = Xi T36 972 (q).toNat from (w565.cx 972 rfl _).1))
        have w580 : Xi T38 973 (q).toNat = Xi S 973 (q).toNat := (show Xi T38 973 (q).toNat = Xi T37 973 (q).toNat from (w576.cx 973 rfl _).1).trans ( (show Xi T37 973 (q).toNat = Xi T36 973 (q).toNat from (w565.cx 973 rfl _).1).trans ( (show Xi T36 973 (q).toNat = Xi U35 973 (q).toNat from (w553.cx 973 rfl _).1).trans ( (show Xi U35 973 (q).toNat = Xi U34 973 (q).toNat from by rw [eU35]; exact Xi_ne (by omega)).trans ((show Xi U34 973 (q).toNat = Xi S 973 (q).toNat from by rw [eU34]; exact Xi_ne (by omega))))))
        have w581 : Xi T38 974 (q).toNat = Xi S 974 (q).toNat := (show Xi T38 974 (q).toNat = Xi T37 974 (q).toNat from (w576.cx 974 rfl _).1).trans ( (show Xi T37 974 (q).toNat = Xi T36 974 (q).toNat from (w565.cx 974 rfl _).1).trans ( (show Xi T36 974 (q).toNat = Xi U35 974 (q).toNat from (w553.cx 974 rfl _).1).trans ( (show Xi U35 974 (q).toNat = Xi U34 974 (q).toNat from by rw [eU35]; exact Xi_ne (by omega)).trans ((show Xi U34 974 (q).toNat = Xi S 974 (q).toNat from by rw [eU34]; exact Xi_ne (by omega))))))
        have w582 : Xi T38 975 (q).toNat = Xi T36 975 (q).toNat := (show Xi T38 975 (q).toNat = Xi T37 975 (q).toNat from (w576.cx 975 rfl _).1).trans ((show Xi T37 975 (q).toNat = Xi T36 975 (q).toNat from (w565.cx 975 rfl _).1))
        have w583 : 0 ≤ Xi T38 904 106 ∧ Xi T38 904 106 ≤ 9 := hHT38.c _ _
        have w584 : Xi T38 904 113 = Xi S 904 113 := (show Xi T38 904 113 = Xi T37 904 113 from w576.x _ _ rfl).trans ( (show Xi T37 904 113 = Xi T36 904 113 from w565.x _ _ rfl).trans ( (show Xi T36 904 113 = Xi U35 904 113 from w553.x _ _ rfl).trans ( (show Xi U35 904 113 = Xi U34 904 113 from by rw [eU35]; exact Xi_ne (by omega)).trans ((show Xi U34 904 113 = Xi S 904 113 from by rw [eU34]; exact Xi_ne (by omega))))))
        have w585 : -1 ≤ Xi S 904 113 ∧ Xi S 904 113 ≤ 6411 := hH.c _ _
        have w586 : Xi T38 904 69 = Xi S 904 69 := (show Xi T38 904 69 = Xi T37 904 69 from w576.x _ _ rfl).trans ( (show Xi T37 904 69 = Xi T36 904 69 from w565.x _ _ rfl).trans ( (show Xi T36 904 69 = Xi U35 904 69 from w553.x _ _ rfl).trans ( (show Xi U35 904 69 = Xi U34 904 69 from by rw [eU35]; exact Xi_ne (by omega)).trans ((show Xi U34 904 69 = Xi S 904 69 from by rw [eU34]; exact Xi_ne (by omega))))))
        have w587 : 0 ≤ Xi S 904 69 ∧ Xi S 904 69 ≤ 2600 := hH.c _ _
        exact ⟨hHT38, hFT38, rfl, (by omega), (by first | exact (fun _ q => (by have s := f52 (by omega); exact tq_5 (by omega) (thk_c (b := 0 ≤ Xi S 904 115) (c := 0 ≤ Xi S 904 116) (S := S) (by have t := s.1; unfold thK at *; have a := h52; omega) (hFT38.x 904 19 rfl) (by omega)) (thk_c (S := S) (by have t := s.2.1; unfold thK at *; have a := h52; omega) (hFT38.x 904 19 rfl) (by omega)) (by have t := s.2.2; omega))) f52 | exact (fun _ q => tq_3 (by omega) (thk_c (H209) (hFT38.x 904 19 rfl) (by omega)) (adx_c (W209 (by omega)) (hFT38.x 904 23 rfl) (hFT38.x 904 32 rfl) (by omega))) W209 | exact (fun _ q => tq_4 (by omega) (thk_c (H277 (by omega)) (hFT38.x 904 19 rfl) (by omega))) q299 | exact (fun _ q => tq_2 (by omega) (thk_c (H328 (by omega)) (hFT38.x 904 19 rfl) (by omega)) (by have a := hFT38.x 904 32 rfl; omega) (fun _ => o386)) o386 | exact (fun _ q => tq_2 (by omega) (thk_c (H328 (by omega)) (hFT38.x 904 19 rfl) (by omega)) (by have a := hFT38.x 904 32 rfl; omega) (fun y => absurd y (by omega))) p337 | exact fun x => absurd x (by omega)), (by first | exact fun x y => ⟨by have t := hnf y; omega, fun z => absurd z (by omega)⟩ | exact (fun _ q => fun y => ⟨by omega, fun _ z => by rw [(hFT38.cx 922 rfl _).1, show Xi T38 973 (q).toNat = _ from by omega]; exact (W209 (by omega)).2 (by omega) (by omega)⟩) W209 | exact fun x => absurd x (by omega)), ((KQ_FR w576 rfl (KQ_FR w565 rfl (KQ.tr (KQ.w (KQ.w KQ.rf eU34 (by omega)) eU35 (by omega)) (by assumption : KQ T36 U35 _)))))⟩
      · refine l_iconst rfl ?_
        refine l_goto rfl rfl ?_
        refine l_bipush rfl rfl ?_
        refine l_iload rfl rfl ?_
        have w588 : 0 ≤ Xi T37 904 106 ∧ Xi T37 904 106 ≤ 9 := hHT37.c _ _
        have w589 : Xi T37 904 113 = Xi S 904 113 := (show Xi T37 904 113 = Xi T36 904 113 from w565.x _ _ rfl).trans ( (show Xi T36 904 113 = Xi U35 904 113 from w553.x _ _ rfl).trans ( (show Xi U35 904 113 = Xi U34 904 113 from by rw [eU35]; exact Xi_ne (by omega)).trans ((show Xi U34 904 113 = Xi S 904 113 from by rw [eU34]; exact Xi_ne (by omega)))))
        have w590 : -1 ≤ Xi S 904 113 ∧ Xi S 904 113 ≤ 6411 := hH.c _ _
        have w591 : Xi T37 904 69 = Xi S 904 69 := (show Xi T37 904 69 = Xi T36 904 69 from w565.x _ _ rfl).trans ( (show Xi T36 904 69 = Xi U35 904 69 from w553.x _ _ rfl).trans ( (show Xi U35 904 69 = Xi U34 904 69 from by rw [eU35]; exact Xi_ne (by omega)).trans ((show Xi U34 904 69 = Xi S 904 69 from by rw [eU34]; exact Xi_ne (by omega)))))
        have w592 : 0 ≤ Xi S 904 69 ∧ Xi S 904 69 ≤ 2600 := hH.c _ _
        refine l_callV rfl rfl rfl (t_mo_need hHT37 1 7 (Xi U35 961 ((i).toNat)) ⟨by omega, by omega⟩ ⟨by omega, by omega⟩ ⟨by omega, by omega⟩ _) ?_
        rintro _ T39 ⟨hHT39, w596, rfl, w593, w594⟩
        have hFT39 : FR md_mo_testMeant S T39 := FR.tr hFT37 w596 rfl
        show Rl _ _ _ _ _ [] _ _
        refine l_return rfl rfl ?_
        have w597 : Xi T39 969 (q).toNat = Xi U34 969 (q).toNat := (show Xi T39 969 (q).toNat = Xi T37 969 (q).toNat from (w596.cx 969 rfl _).1).trans ( (show Xi T37 969 (q).toNat = Xi T36 969 (q).toNat from (w565.cx 969 rfl _).1).trans ( (show Xi T36 969 (q).toNat = Xi U35 969 (q).toNat from (w553.cx 969 rfl _).1).trans ((show Xi U35 969 (q).toNat = Xi U34 969 (q).toNat from by rw [eU35]; exact Xi_ne (by omega)))))
        have w598 : Xi T39 971 (q).toNat = Xi T36 971 (q).toNat := (show Xi T39 971 (q).toNat = Xi T37 971 (q).toNat from (w596.cx 971 rfl _).1).trans ((show Xi T37 971 (q).toNat = Xi T36 971 (q).toNat from (w565.cx 971 rfl _).1))
        have w599 : Xi T39 972 (q).toNat = Xi T36 972 (q).toNat := (show Xi T39 972 (q).toNat = Xi T37 972 (q).toNat from (w596.cx 972 rfl _).1).trans ((show Xi T37 972 (q).toNat = Xi T36 972 (q).toNat from (w565.cx 972 rfl _).1))
        have w600 : Xi T39 973 (q).toNat = Xi S 973 (q).toNat := (show Xi T39 973 (q).toNat = Xi T37 973 (q).toNat from (w596.cx 973 rfl _).1).trans ( (show Xi T37 973 (q).toNat = Xi T36 973 (q).toNat from (w565.cx 973 rfl _).1).trans ( (show Xi T36 973 (q).toNat = Xi U35 973 (q).toNat from (w553.cx 973 rfl _).1).trans ( (show Xi U35 973 (q).toNat = Xi U34 973 (q).toNat from by rw [eU35]; exact Xi_ne (by omega)).trans ((show Xi U34 973 (q).toNat = Xi S 973 (q).toNat from by rw [eU34]; exact Xi_ne (by omega))))))
        have w601 : Xi T39 974 (q).toNat = Xi S 974 (q).toNat := (show Xi T39 974 (q).toNat = Xi T37 974 (q).toNat from (w596.cx 974 rfl _).1).trans ( (show Xi T37 974 (q).toNat = Xi T36 974 (q).toNat from (w565.cx 974 rfl _).1).trans ( (show Xi T36 974 (q).toNat = Xi U35 974 (q).toNat from (w553.cx 974 rfl _).1).trans ( (show Xi U35 974 (q).toNat = Xi U34 974 (q).toNat from by rw [eU35]; exact Xi_ne (by omega)).trans ((show Xi U34 974 (q).toNat = Xi S 974 (q).toNat from by rw [eU34]; exact Xi_ne (by omega))))))
        have w602 : Xi T39 975 (q).toNat = Xi T36 975 (q).toNat := (show Xi T39 975 (q).toNat = Xi T37 975 (q).toNat from (w596.cx 975 rfl _).1).trans ((show Xi T37 975 (q).toNat = Xi T36 975 (q).toNat from (w565.cx 975 rfl _).1))
        have w603 : 0 ≤ Xi T39 904 106 ∧ Xi T39 904 106 ≤ 9 := hHT39.c _ _
        have w604 : Xi T39 904 113 = Xi S 904 113 := (show Xi T39 904 113 = Xi T37 904 113 from w596.x _ _ rfl).trans ( (show Xi T37 904 113 = Xi T36 904 113 from w565.x _ _ rfl).trans ( (show Xi T36 904 113 = Xi U35 904 113 from w553.x _ _ rfl).trans ( (show Xi U35 904 113 = Xi U34 904 113 from by rw [eU35]; exact Xi_ne (by omega)).trans ((show Xi U34 904 113 = Xi S 904 113 from by rw [eU34]; exact Xi_ne (by omega))))))
        have w605 : -1 ≤ Xi S 904 113 ∧ Xi S 904 113 ≤ 6411 := hH.c _ _
        have w606 : Xi T39 904 69 = Xi S 904 69 := (show Xi T39 904 69 = Xi T37 904 69 from w596.x _ _ rfl).trans ( (show Xi T37 904 69 = Xi T36 904 69 from w565.x _ _ rfl).trans ( (show Xi T36 904 69 = Xi U35 904 69 from w553.x _ _ rfl).trans ( (show Xi U35 904 69 = Xi U34 904 69 from by rw [eU35]; exact Xi_ne (by omega)).trans ((show Xi U34 904 69 = Xi S 904 69 from by rw [eU34]; exact Xi_ne (by omega))))))
        have w607 : 0 ≤ Xi S 904 69 ∧ Xi S 904 69 ≤ 2600 := hH.c _ _
        exact ⟨hHT39, hFT39, rfl, (by omega), (by first | exact (fun _ q => (by have s := f52 (by omega); exact tq_5 (by omega) (thk_c (b := 0 ≤ Xi S 904 115) (c := 0 ≤ Xi S 904 116) (S := S) (by have t := s.1; unfold thK at *; have a := h52; omega) (hFT39.x 904 19 rfl) (by omega)) (thk_c (S := S) (by have t := s.2.1; unfold thK at *; have a := h52; omega) (hFT39.x 904 19 rfl) (by omega)) (by have t := s.2.2; omega))) f52 | exact (fun _ q => tq_3 (by omega) (thk_c (H209) (hFT39.x 904 19 rfl) (by omega)) (adx_c (W209 (by omega)) (hFT39.x 904 23 rfl) (hFT39.x 904 32 rfl) (by omega))) W209 | exact (fun _ q => tq_4 (by omega) (thk_c (H277 (by omega)) (hFT39.x 904 19 rfl) (by omega))) q299 | exact (fun _ q => tq_2 (by omega) (thk_c (H328 (by omega)) (hFT39.x 904 19 rfl) (by omega)) (by have a := hFT39.x 904 32 rfl; omega) (fun _ => o386)) o386 | exact (fun _ q => tq_2 (by omega) (thk_c (H328 (by omega)) (hFT39.x 904 19 rfl) (by omega)) (by have a := hFT39.x 904 32 rfl; omega) (fun y => absurd y (by omega))) p337 | exact fun x => absurd x (by omega)), (by first | exact fun x y => ⟨by have t := hnf y; omega, fun z => absurd z (by omega)⟩ | exact (fun _ q => fun y => ⟨by omega, fun _ z => by rw [(hFT39.cx 922 rfl _).1, show Xi T39 973 (q).toNat = _ from by omega]; exact (W209 (by omega)).2 (by omega) (by omega)⟩) W209 | exact fun x => absurd x (by omega)), ((KQ_FR w596 rfl (KQ_FR w565 rfl (KQ.tr (KQ.w (KQ.w KQ.rf eU34 (by omega)) eU35 (by omega)) (by assumption : KQ T36 U35 _)))))⟩
    · refine l_iconst rfl ?_
      refine l_goto rfl rfl ?_
      refine l_iconst rfl ?_
      refine l_iload rfl rfl ?_
      have w608 : Xi T36 904 106 = Xi S 904 106 := (show Xi T36 904 106 = Xi U35 904 106 from w553.x _ _ rfl).trans ( (show Xi U35 904 106 = Xi U34 904 106 from by rw [eU35]; exact Xi_ne (by omega)).trans ((show Xi U34 904 106 = Xi S 904 106 from by rw [eU34]; exact Xi_ne (by omega))))
      have w609 : 0 ≤ Xi S 904 106 ∧ Xi S 904 106 ≤ 9 := hH.c _ _
      have w610 : Xi T36 904 113 = Xi S 904 113 := (show Xi T36 904 113 = Xi U35 904 113 from w553.x _ _ rfl).trans ( (show Xi U35 904 113 = Xi U34 904 113 from by rw [eU35]; exact Xi_ne (by omega)).trans ((show Xi U34 904 113 = Xi S 904 113 from by rw [eU34]; exact Xi_ne (by omega))))
      have w611 : -1 ≤ Xi S 904 113 ∧ Xi S 904 113 ≤ 6411 := hH.c _ _
      have w612 : Xi T36 904 69 = Xi S 904 69 := (show Xi T36 904 69 = Xi U35 904 69 from w553.x _ _ rfl).trans ( (show Xi U35 904 69 = Xi U34 904 69 from by rw [eU35]; exact Xi_ne (by omega)).trans ((show Xi U34 904 69 = Xi S 904 69 from by rw [eU34]; exact Xi_ne (by omega))))
      have w613 : 0 ≤ Xi S 904 69 ∧ Xi S 904 69 ≤ 2600 := hH.c _ _
      refine l_callV rfl rfl rfl (t_mo_need hHT36 1 4 (Xi U35 961 ((i).toNat)) ⟨by omega, by omega⟩ ⟨by omega, by omega⟩ ⟨by omega, by omega⟩ _) ?_
      rintro _ T40 ⟨hHT40, w617, rfl, w614, w615⟩
      have hFT40 : FR md_mo_testMeant S T40 := FR.tr hFT36 w617 rfl
      show Rl _ _ _ _ _ [] _ _
      refine l_aload_n rfl rfl ?_
      refine l_iload rfl rfl ?_
      refine l_iconst rfl ?_
      refine l_icmp_ge rfl rfl (by unfold rg; omega) (by unfold rg; omega) (fun w618 => ?_) (fun w619 => ?_)
      · refine l_iconst rfl ?_
        refine l_bipush rfl rfl ?_
        refine l_iload rfl rfl ?_
        have w620 : 0 ≤ Xi T40 904 106 ∧ Xi T40 904 106 ≤ 9 := hHT40.c _ _
        have w621 : Xi T40 904 113 = Xi S 904 113 := (show Xi T40 904 113 = Xi T36 904 113 from w617.x _ _ rfl).trans ( (show Xi T36 904 113 = Xi U35 904 113 from w553.x _ _ rfl).trans ( (show Xi U35 904 113 = Xi U34 904 113 from by rw [eU35]; exact Xi_ne (by omega)).trans ((show Xi U34 904 113 = Xi S 904 113 from by rw [eU34]; exact Xi_ne (by omega)))))
        have w622 : -1 ≤ Xi S 904 113 ∧ Xi S 904 113 ≤ 6411 := hH.c _ _
        have w623 : Xi T40 904 69 = Xi S 904 69 := (show Xi T40 904 69 = Xi T36 904 69 from w617.x _ _ rfl).trans ( (show Xi T36 904 69 = Xi U35 904 69 from w553.x _ _ rfl).trans ( (show Xi U35 904 69 = Xi U34 904 69 from by rw [eU35]; exact Xi_ne (by omega)).trans ((show Xi U34 904 69 = Xi S 904 69 from by rw [eU34]; exact Xi_ne (by omega)))))
        have w624 : 0 ≤ Xi S 904 69 ∧ Xi S 904 69 ≤ 2600 := hH.c _ _
        refine l_callV rfl rfl rfl (t_mo_need hHT40 0 7 (Xi U35 961 ((i).toNat)) ⟨by omega, by omega⟩ ⟨by omega, by omega⟩ ⟨by omega, by omega⟩ _) ?_
        rintro _ T41 ⟨hHT41, w628, rfl, w625, w626⟩
        have hFT41 : FR md_mo_testMeant S T41 := FR.tr hFT40 w628 rfl
        show Rl _ _ _ _ _ [] _ _
        refine l_return rfl rfl ?_
        have w629 : Xi T41 969 (q).toNat = Xi U34 969 (q).toNat := (show Xi T41 969 (q).toNat = Xi T40 969 (q).toNat from (w628.cx 969 rfl _).1).trans ( (show Xi T40 969 (q).toNat = Xi T36 969 (q).toNat from (w617.cx 969 rfl _).1).trans ( (show Xi T36 969 (q).toNat = Xi U35 969 (q).toNat from (w553.cx 969 rfl _).1).trans ((show Xi U35 969 (q).toNat = Xi U34 969 (q).toNat from by rw [eU35]; exact Xi_ne (by omega)))))
        have w630 : Xi T41 971 (q).toNat = Xi T36 971 (q).toNat := (show Xi T41 971 (q).toNat = Xi T40 971 (q).toNat from (w628.cx 971 rfl _).1).trans ((show Xi T40 971 (q).toNat = Xi T36 971 (q).toNat from (w617.cx 971 rfl _).1))
        have w631 : Xi T41 972 (q).toNat = Xi T36 972 (q).toNat := (show Xi T41 972 (q).toNat = Xi T40 972 (q).toNat from (w628.cx 972 rfl _).1).trans ((show Xi T40 972 (q).toNat = Xi T36 972 (q).toNat from (w617.cx 972 rfl _).1))
        have w632 : Xi T41 973 (q).toNat = Xi S 973 (q).toNat := (show Xi T41 973 (q).toNat = Xi T40 973 (q).toNat from (w628.cx 973 rfl _).1).trans ( (show Xi T40 973 (q).toNat = Xi T36 973 (q).toNat from (w617.cx 973 rfl _).1).trans ( (show Xi T36 973 (q).toNat = Xi U35 973 (q).toNat from (w553.cx 973 rfl _).1).trans ( (show Xi U35 973 (q).toNat = Xi U34 973 (q).toNat from by rw [eU35]; exact Xi_ne (by omega)).trans ((show Xi U34 973 (q).toNat = Xi S 973 (q).toNat from by rw [eU34]; exact Xi_ne (by omega))))))
        have w633 : Xi T41 974 (q).toNat = Xi S 974 (q).toNat := (show Xi T41 974 (q).toNat = Xi T40 974 (q).toNat from (w628.cx 974 rfl _).1).trans ( (show Xi T40 974 (q).toNat = Xi T36 974 (q).toNat from (w617.cx 974 rfl _).1).trans ( (show Xi T36 974 (q).toNat = Xi U35 974 (q).toNat from (w553.cx 974 rfl _).1).trans ( (show Xi U35 974 (q).toNat = Xi U34 974 (q).toNat from by rw [eU35]; exact Xi_ne (by omega)).trans ((show Xi U34 974 (q).toNat = Xi S 974 (q).toNat from by rw [eU34]; exact Xi_ne (by omega))))))
        have w634 : Xi T41 975 (q).toNat = Xi T36 975 (q).toNat := (show Xi T41 975 (q).toNat = Xi T40 975 (q).toNat from (w628.cx 975 rfl _).1).trans ((show Xi T40 975 (q).toNat = Xi T36 975 (q).toNat from (w617.cx 975 rfl _).1))
        have w635 : 0 ≤ Xi T41 904 106 ∧ Xi T41 904 106 ≤ 9 := hHT41.c _ _
        have w636 : Xi T41 904 113 = Xi S 904 113 := (show Xi T41 904 113 = Xi T40 904 113 from w628.x _ _ rfl).trans ( (show Xi T40 904 113 = Xi T36 904 113 from w617.x _ _ rfl).trans ( (show Xi T36 904 113 = Xi U35 904 113 from w553.x _ _ rfl).trans ( (show Xi U35 904 113 = Xi U34 904 113 from by rw [eU35]; exact Xi_ne (by omega)).trans ((show Xi U34 904 113 = Xi S 904 113 from by rw [eU34]; exact Xi_ne (by omega))))))
        have w637 : -1 ≤ Xi S 904 113 ∧ Xi S 904 113 ≤ 6411 := hH.c _ _
        have w638 : Xi T41 904 69 = Xi S 904 69 := (show Xi T41 904 69 = Xi T40 904 69 from w628.x _ _ rfl).trans ( (show Xi T40 904 69 = Xi T36 904 69 from w617.x _ _ rfl).trans ( (show Xi T36 904 69 = Xi U35 904 69 from w553.x _ _ rfl).trans ( (show Xi U35 904 69 = Xi U34 904 69 from by rw [eU35]; exact Xi_ne (by omega)).trans ((show Xi U34 904 69 = Xi S 904 69 from by rw [eU34]; exact Xi_ne (by omega))))))
        have w639 : 0 ≤ Xi S 904 69 ∧ Xi S 904 69 ≤ 2600 := hH.c _ _
        exact ⟨hHT41, hFT41, rfl, (by omega), (by first | exact (fun _ q => (by have s := f52 (by omega); exact tq_5 (by omega) (thk_c (b := 0 ≤ Xi S 904 115) (c := 0 ≤ Xi S 904 116) (S := S) (by have t := s.1; unfold thK at *; have a := h52; omega) (hFT41.x 904 19 rfl) (by omega)) (thk_c (S := S) (by have t := s.2.1; unfold thK at *; have a := h52; omega) (hFT41.x 904 19 rfl) (by omega)) (by have t := s.2.2; omega))) f52 | exact (fun _ q => tq_3 (by omega) (thk_c (H209) (hFT41.x 904 19 rfl) (by omega)) (adx_c (W209 (by omega)) (hFT41.x 904 23 rfl) (hFT41.x 904 32 rfl) (by omega))) W209 | exact (fun _ q => tq_4 (by omega) (thk_c (H277 (by omega)) (hFT41.x 904 19 rfl) (by omega))) q299 | exact (fun _ q => tq_2 (by omega) (thk_c (H328 (by omega)) (hFT41.x 904 19 rfl) (by omega)) (by have a := hFT41.x 904 32 rfl; omega) (fun _ => o386)) o386 | exact (fun _ q => tq_2 (by omega) (thk_c (H328 (by omega)) (hFT41.x 904 19 rfl) (by omega)) (by have a := hFT41.x 904 32 rfl; omega) (fun y => absurd y (by omega))) p337 | exact fun x => absurd x (by omega)), (by first | exact fun x y => ⟨by have t := hnf y; omega, fun z => absurd z (by omega)⟩ | exact (fun _ q => fun y => ⟨by omega, fun _ z => by rw [(hFT41.cx 922 rfl _).1, show Xi T41 973 (q).toNat = _ from by omega]; exact (W209 (by omega)).2 (by omega) (by omega)⟩) W209 | exact fun x => absurd x (by omega)), ((KQ_FR w628 rfl (KQ_FR w617 rfl (KQ.tr (KQ.w (KQ.w KQ.rf eU34 (by omega)) eU35 (by omega)) (by assumption : KQ T36 U35 _)))))⟩
      · refine l_iconst rfl ?_
        refine l_goto rfl rfl ?_
        refine l_bipush rfl rfl ?_
        refine l_iload rfl rfl ?_
        have w640 : 0 ≤ Xi T40 904 106 ∧ Xi T40 904 106 ≤ 9 := hHT40.c _ _
        have w641 : Xi T40 904 113 = Xi S 904 113 := (show Xi T40 904 113 = Xi T36 904 113 from w617.x _ _ rfl).trans ( (show Xi T36 904 113 = Xi U35 904 113 from w553.x _ _ rfl).trans ( (show Xi U35 904 113 = Xi U34 904 113 from by rw [eU35]; exact Xi_ne (by omega)).trans ((show Xi U34 904 113 = Xi S 904 113 from by rw [eU34]; exact Xi_ne (by omega)))))
        have w642 : -1 ≤ Xi S 904 113 ∧ Xi S 904 113 ≤ 6411 := hH.c _ _
        have w643 : Xi T40 904 69 = Xi S 904 69 := (show Xi T40 904 69 = Xi T36 904 69 from w617.x _ _ rfl).trans ( (show Xi T36 904 69 = Xi U35 904 69 from w553.x _ _ rfl).trans ( (show Xi U35 904 69 = Xi U34 904 69 from by rw [eU35]; exact Xi_ne (by omega)).trans ((show Xi U34 904 69 = Xi S 904 69 from by rw [eU34]; exact Xi_ne (by omega)))))
        have w644 : 0 ≤ Xi S 904 69 ∧ Xi S 904 69 ≤ 2600 := hH.c _ _
        refine l_callV rfl rfl rfl (t_mo_need hHT40 1 7 (Xi U35 961 ((i).toNat)) ⟨by omega, by omega⟩ ⟨by omega, by omega⟩ ⟨by omega, by omega⟩ _) ?_
        rintro _ T42 ⟨hHT42, w648, rfl, w645, w646⟩
        have hFT42 : FR md_mo_testMeant S T42 := FR.tr hFT40 w648 rfl
        show Rl _ _ _ _ _ [] _ _
        refine l_return rfl rfl ?_
        have w649 : Xi T42 969 (q).toNat = Xi U34 969 (q).toNat := (show Xi T42 969 (q).toNat = Xi T40 969 (q).toNat from (w648.cx 969 rfl _).1).trans ( (show Xi T40 969 (q).toNat = Xi T36 969 (q).toNat from (w617.cx 969 rfl _).1).trans ( (show Xi T36 969 (q).toNat = Xi U35 969 (q).toNat from (w553.cx 969 rfl _).1).trans ((show Xi U35 969 (q).toNat = Xi U34 969 (q).toNat from by rw [eU35]; exact Xi_ne (by omega)))))
        have w650 : Xi T42 971 (q).toNat = Xi T36 971 (q).toNat := (show Xi T42 971 (q).toNat = Xi T40 971 (q).toNat from (w648.cx 971 rfl _).1).trans ((show Xi T40 971 (q).toNat = Xi T36 971 (q).toNat from (w617.cx 971 rfl _).1))
        have w651 : Xi T42 972 (q).toNat = Xi T36 972 (q).toNat := (show Xi T42 972 (q).toNat = Xi T40 972 (q).toNat from (w648.cx 972 rfl _).1).trans ((show Xi T40 972 (q).toNat = Xi T36 972 (q).toNat from (w617.cx 972 rfl _).1))
        have w652 : Xi T42 973 (q).toNat = Xi S 973 (q).toNat := (show Xi T42 973 (q).toNat = Xi T40 973 (q).toNat from (w648.cx 973 rfl _).1).trans ( (show Xi T40 973 (q).toNat = Xi T36 973 (q).toNat from (w617.cx 973 rfl _).1).trans ( (show Xi T36 973 (q).toNat = Xi U35 973 (q).toNat from (w553.cx 973 rfl _).1).trans ( (show Xi U35 973 (q).toNat = Xi U34 973 (q).toNat from by rw [eU35]; exact Xi_ne (by omega)).trans ((show Xi U34 973 (q).toNat = Xi S 973 (q).toNat from by rw [eU34]; exact Xi_ne (by omega))))))
        have w653 : Xi T42 974 (q).toNat = Xi S 974 (q).toNat := (show Xi T42 974 (q).toNat = Xi T40 974 (q).toNat from (w648.cx 974 rfl _).1).trans ( (show Xi T40 974 (q).toNat = Xi T36 974 (q).toNat from (w617.cx 974 rfl _).1).trans ( (show Xi T36 974 (q).toNat = Xi U35 974 (q).toNat from (w553.cx 974 rfl _).1).trans ( (show Xi U35 974 (q).toNat = Xi U34 974 (q).toNat from by rw [eU35]; exact Xi_ne (by omega)).trans ((show Xi U34 974 (q).toNat = Xi S 974 (q).toNat from by rw [eU34]; exact Xi_ne (by omega))))))
        have w654 : Xi T42 975 (q).toNat = Xi T36 975 (q).toNat := (show Xi T42 975 (q).toNat = Xi T40 975 (q).toNat from (w648.cx 975 rfl _).1).trans ((show Xi T40 975 (q).toNat = Xi T36 975 (q).toNat from (w617.cx 975 rfl _).1))
        have w655 : 0 ≤ Xi T42 904 106 ∧ Xi T42 904 106 ≤ 9 := hHT42.c _ _
        have w656 : Xi T42 904 113 = Xi S 904 113 := (show Xi T42 904 113 = Xi T40 904 113 from w648.x _ _ rfl).trans ( (show Xi T40 904 113 = Xi T36 904 113 from w617.x _ _ rfl).trans ( (show Xi T36 904 113 = Xi U35 904 113 from w553.x _ _ rfl).trans ( (show Xi U35 904 113 = Xi U34 904 113 from by rw [eU35]; exact Xi_ne (by omega)).trans ((show Xi U34 904 113 = Xi S 904 113 from by rw [eU34]; exact Xi_ne (by omega))))))
        have w657 : -1 ≤ Xi S 904 113 ∧ Xi S 904 113 ≤ 6411 := hH.c _ _
        have w658 : Xi T42 904 69 = Xi S 904 69 := (show Xi T42 904 69 = Xi T40 904 69 from w648.x _ _ rfl).trans ( (show Xi T40 904 69 = Xi T36 904 69 from w617.x _ _ rfl).trans ( (show Xi T36 904 69 = Xi U35 904 69 from w553.x _ _ rfl).trans ( (show Xi U35 904 69 = Xi U34 904 69 from by rw [eU35]; exact Xi_ne (by omega)).trans ((show Xi U34 904 69 = Xi S 904 69 from by rw [eU34]; exact Xi_ne (by omega))))))
        have w659 : 0 ≤ Xi S 904 69 ∧ Xi S 904 69 ≤ 2600 := hH.c _ _
        exact ⟨hHT42, hFT42, rfl, (by omega), (by first | exact (fun _ q => (by have s := f52 (by omega); exact tq_5 (by omega) (thk_c (b := 0 ≤ Xi S 904 115) (c := 0 ≤ Xi S 904 116) (S := S) (by have t := s.1; unfold thK at *; have a := h52; omega) (hFT42.x 904 19 rfl) (by omega)) (thk_c (S := S) (by have t := s.2.1; unfold thK at *; have a := h52; omega) (hFT42.x 904 19 rfl) (by omega)) (by have t := s.2.2; omega))) f52 | exact (fun _ q => tq_3 (by omega) (thk_c (H209) (hFT42.x 904 19 rfl) (by omega)) (adx_c (W209 (by omega)) (hFT42.x 904 23 rfl) (hFT42.x 904 32 rfl) (by omega))) W209 | exact (fun _ q => tq_4 (by omega) (thk_c (H277 (by omega)) (hFT42.x 904 19 rfl) (by omega))) q299 | exact (fun _ q => tq_2 (by omega) (thk_c (H328 (by omega)) (hFT42.x 904 19 rfl) (by omega)) (by have a := hFT42.x 904 32 rfl; omega) (fun _ => o386)) o386 | exact (fun _ q => tq_2 (by omega) (thk_c (H328 (by omega)) (hFT42.x 904 19 rfl) (by omega)) (by have a := hFT42.x 904 32 rfl; omega) (fun y => absurd y (by omega))) p337 | exact fun x => absurd x (by omega)), (by first | exact fun x y => ⟨by have t := hnf y; omega, fun z => absurd z (by omega)⟩ | exact (fun _ q => fun y => ⟨by omega, fun _ z => by rw [(hFT42.cx 922 rfl _).1, show Xi T42 973 (q).toNat = _ from by omega]; exact (W209 (by omega)).2 (by omega) (by omega)⟩) W209 | exact fun x => absurd x (by omega)), ((KQ_FR w648 rfl (KQ_FR w617 rfl (KQ.tr (KQ.w (KQ.w KQ.rf eU34 (by omega)) eU35 (by omega)) (by assumption : KQ T36 U35 _)))))⟩
/-! SAFETY of the reference: tests and phrases of a sentence, meant -/
/-- entries of meant tests below m stay -/
def KQL (T S : sS) (m : Int) : Prop := ∀ i : Nat, (i : Int) < m → ∀ k : Nat, 969 ≤ k → k ≤ 975 → Xi T k i = Xi S k i
theorem KQL.rf {S : sS} {m : Int} : KQL S S m := fun _ _ _ _ _ => rfl
theorem KQL.tr {S T U : sS} {m m2 : Int} (h : KQL T S m) (g : KQL U T m2) (e : m ≤ m2) : KQL U S m := fun i hi k a b => (g i (by omega) k a b).trans (h i hi k a b)
theorem KQL.q {S T U : sS} {m q : Int} (h : KQL T S m) (g : KQ U T q) (e : m ≤ q) : KQL U S m := fun i hi k a b => (g i (by omega) k a b).trans (h i hi k a b)
theorem KQL_FR {l : List rec} {T U S : sS} {m : Int} (f : FR l T U) (e : kdis l [(969, 976)] = true) (h : KQL T S m) : KQL U S m := fun i hi k a b => (kdis_q f e k a b i).trans (h i hi k a b)
theorem tq_k {S T : sS} {b c : Prop} {q : Nat} (h : TQ S b c q) (hk : ∀ k : Nat, 969 ≤ k → k ≤ 975 → Xi T k q = Xi S k q) (e1 : Xi T 904 19 = Xi S 904 19) (e2 : Xi T 904 23 = Xi S 904 23) (e3 : Xi T 904 32 = Xi S 904 32) : TQ T b c q := by
  unfold TQ ADM thK at *
  rw [e1, e2, e3, hk 969 (by omega) (by omega), hk 971 (by omega) (by omega), hk 972 (by omega) (by omega), hk 973 (by omega) (by omega), hk 974 (by omega) (by omega), hk 975 (by omega) (by omega)]
  exact h
/-- the tests from f on, so many of them, are meant -/
def TQA (S : sS) (b c : Prop) (f v : Int) : Prop := ∀ j : Int, 0 ≤ j → j < v → TQ S b c (f + j).toNat
theorem TQA.mv {S T : sS} {b c : Prop} {f v : Int} (h : TQA S b c f v) (hk : ∀ j : Int, 0 ≤ j → j < v → ∀ k : Nat, 969 ≤ k → k ≤ 975 → Xi T k (f + j).toNat = Xi S k (f + j).toNat) (e1 : Xi T 904 19 = Xi S 904 19) (e2 : Xi T 904 23 = Xi S 904 23) (e3 : Xi T 904 32 = Xi S 904 32) : TQA T b c f v := fun j a d => tq_k (h j a d) (hk j a d) e1 e2 e3
theorem TQA.add {S : sS} {b c : Prop} {f v : Int} (h : TQA S b c f v) (g : TQ S b c (f + v).toNat) : TQA S b c f (v + 1) := fun j a d => by
  rcases (by omega : j < v ∨ j = v) with q | q
  · exact h j a q
  · rw [q]; exact g
theorem TQA.b {S : sS} {b c b2 c2 : Prop} {f v : Int} (h : TQA S b c f v) (hb : b → b2) (hc : c → c2) : TQA S b2 c2 f v := fun j a d => (h j a d).mono hb hc
def PQt (S : sS) (c : Prop) (w : Int) (q : Nat) : Prop := (w = 0 → 0 ≤ Xi S 973 q ∧ 0 ≤ Xi S 974 q ∧ Xi S 973 q + Xi S 974 q ≤ 5000) ∧ (w = 1 → NQ S c q) ∧ (w = 2 → thK S False c (Xi S 971 q) ∧ thK S False c (Xi S 975 q)) ∧ (w = 3 ∨ w = 4 → thK S False c (Xi S 971 q) ∧ 0 ≤ Xi S 972 q ∧ Xi S 972 q < Xi S 904 32 ∧ Xi S 928 (Xi S 972 q).toNat ≠ 1) ∧
  (w = 5 → (0 ≤ Xi S 972 q ∧ Xi S 972 q < Xi S 904 49) ∧ (Xi S 970 q = 0 → thK S False c (Xi S 971 q)) ∧ (Xi S 970 q ≠ 0 → Xi S 942 (Xi S 972 q).toNat < 0))
theorem pq_i {S : sS} {c : Prop} {i q : Nat} {w : Int} (h : PQt S c w q) (e1 : Xi S 976 i = w) (e2 : Xi S 977 i = q) (h4 : q < 2400) : PQ S c i := by
  unfold PQ
  rw [e1, e2]
  exact ⟨by omega, h⟩
theorem pqt_0 {S : sS} {c : Prop} {q : Nat} (h : 0 ≤ Xi S 973 q ∧ 0 ≤ Xi S 974 q ∧ Xi S 973 q + Xi S 974 q ≤ 5000) : PQt S c 0 q := ⟨fun _ => h, fun e => absurd e (by decide), fun e => absurd e (by decide), fun e => absurd e (by decide), fun e => absurd e (by decide)⟩
theorem pqt_1 {S : sS} {c : Prop} {q : Nat} (h : NQ S c q) : PQt S c 1 q := ⟨fun e => absurd e (by decide), fun _ => h, fun e => absurd e (by decide), fun e => absurd e (by decide), fun e => absurd e (by decide)⟩
theorem pqt_2 {S : sS} {c : Prop} {q : Nat} (h : thK S False c (Xi S 971 q)) (h2 : thK S False c (Xi S 975 q)) : PQt S c 2 q := ⟨fun e => absurd e (by decide), fun e => absurd e (by decide), fun _ => ⟨h, h2⟩, fun e => absurd e (by decide), fun e => absurd e (by decide)⟩
theorem pqt_3 {S : sS} {c : Prop} {q : Nat} {w : Int} (hw : w = 3 ∨ w = 4) (h : thK S False c (Xi S 971 q)) (h2 : 0 ≤ Xi S 972 q ∧ Xi S 972 q < Xi S 904 32) (h3 : Xi S 928 (Xi S 972 q).toNat ≠ 1) : PQt S c w q := ⟨fun e => by omega, fun e => by omega, fun e => by omega, fun _ => ⟨h, h2.1, h2.2, h3⟩, fun e => by omega⟩
theorem pqt_5 {S : sS} {c : Prop} {q : Nat} (h : 0 ≤ Xi S 972 q ∧ Xi S 972 q < Xi S 904 49) (h2 : Xi S 970 q = 0 → thK S False c (Xi S 971 q)) (h3 : Xi S 970 q ≠ 0 → Xi S 942 (Xi S 972 q).toNat < 0) : PQt S c 5 q := ⟨fun e => absurd e (by decide), fun e => absurd e (by decide), fun e => absurd e (by decide), fun e => absurd e (by decide), fun _ => ⟨h, h2, h3⟩⟩
theorem pqt_6 {S : sS} {c : Prop} {q : Nat} : PQt S c 6 q := ⟨fun e => absurd e (by decide), fun e => absurd e (by decide), fun e => absurd e (by decide), fun e => absurd e (by decide), fun e => absurd e (by decide)⟩
/-- other phrases than p stay -/
def KH (T S : sS) (p : Int) : Prop := ∀ i : Nat, (i : Int) ≠ p → Xi T 976 i = Xi S 976 i ∧ Xi T 977 i = Xi S 977 i
theorem KH.w2 {S U1 U2 : sS} {p : Int} {j : Nat} {v w : Int32} (e1 : U1 = uI S 976 j v) (e2 : U2 = uI U1 977 j w) (hj : (j : Int) = p) : KH U2 S p := fun i hi => by
  rw [e2, Xi_ne (by omega), Xi_ne (by omega), e1, Xi_ne (by omega), Xi_ne (by omega)]
  exact ⟨rfl, rfl⟩
theorem KH_FR {l : List rec} {T U S : sS} {p : Int} (f : FR l T U) (e : kdis l [(976, 978)] = true) (h : KH T S p) : KH U S p := fun i hi => by
  have q := f.smk e
  rw [q.x 976 rfl, q.x 977 rfl]
  exact h i hi
theorem TV_FR {l : List rec} {S T : sS} {n i : Nat} (h : FR l S T) (e : (kdis l [(907, 908), (952, 963)] && mD l [69]) = true) (hq : TV S n i) : TV T n i := (TVA_FR (m := (i : Int) + 1) h e (S := S) (T := T) (n := n) |> fun f => by
  rw [Bool.and_eq_true] at e
  have k := h.smk e.1
  refine hq.mv (fun k2 a b => ?_) (by rw [mD_x h e.2 69 (by decide)]; exact Int.le_refl _) (fun j => k.x 907 rfl j)
  rcases (by omega : k2 = 952 ∨ k2 = 953 ∨ k2 = 954 ∨ k2 = 955 ∨ k2 = 956 ∨ k2 = 957 ∨ k2 = 958 ∨ k2 = 959 ∨ k2 = 960 ∨ k2 = 961 ∨ k2 = 962) with h | h | h | h | h | h | h | h | h | h | h <;> subst h <;> exact k.x _ rfl i)
def md_mo_testsMeant : List rec := [(904, 905, 64, 65), (904, 905, 104, 105), (904, 905, 105, 106), (904, 905, 106, 107), (904, 905, 113, 114), (969, 970, 0, 100000), (970, 971, 0, 100000), (971, 972, 0, 100000), (972, 973, 0, 100000), (973, 974, 0, 100000), (974, 975, 0, 100000), (975, 976, 0, 100000)]
abbrev Q_mo_testsMeant (S : sS) (n : Nat) : pst := fun r S1 => HI S1 ∧ FR md_mo_testsMeant S S1 ∧ (r = none ∧ (Xi S 904 106 ≠ 0 → Xi S1 904 106 ≠ 0) ∧ (Xi S1 904 106 = 0 → Xi S 904 94 ≤ 6 ∧ TQA S1 (0 ≤ Xi S 904 115) (0 ≤ Xi S 904 116) (Xi S 904 117) (Xi S 904 94)) ∧ (KQL S1 S (Xi S 904 117)))
set_option maxRecDepth 100000 in
theorem t_mo_testsMeant {S : sS} (hH : HI S) (n : Nat) (hT : TK S n) (hv : RNV S n) (hM : LXM S) (hB : ABV S) (hC : DCM S) (hK : TXK S n) (htv : TVA S n (Xi S 904 94)) (h94 : Xi S 904 94 ≤ 1668) (d : Nat) : Mt lay0 (d + 8) m_mo_testsMeant [.ref 904] S (Q_mo_testsMeant S n) := by
  refine Mt_R rfl rfl ?_
  have hF : FR md_mo_testsMeant S S := FR.rf
  have w1 : 0 ≤ Xi S 904 106 ∧ Xi S 904 106 ≤ 9 := hH.c _ _
  have w2 : -1 ≤ Xi S 904 115 ∧ Xi S 904 115 ≤ 15 := hH.c _ _
  have w3 : -1 ≤ Xi S 904 116 ∧ Xi S 904 116 ≤ 15 := hH.c _ _
  have w4 : 0 ≤ Xi S 904 117 ∧ Xi S 904 117 ≤ 480 := hH.c _ _
  have w5 : 0 ≤ Xi S 904 94 ∧ Xi S 904 94 ≤ 1700 := hH.c _ _
  have hn5 := hT.1
  have hc94 : 0 ≤ Xi S 904 94 := (hH.c 904 94).1
  have hc117 : 0 ≤ Xi S 904 117 ∧ Xi S 904 117 ≤ 480 := hH.c _ _
  have hfi : ∀ j : Int, 0 ≤ j → j < Xi S 904 94 → Xi S 961 j.toNat ≤ n := fun j a b => by have t := (htv j.toNat (by omega)).1; omega
  have C2 : ∀ (n2 : Nat) (T1 : sS) (_ : HI T1) (_ : FR md_mo_testsMeant S T1) (v1 : Int), (0 ≤ v1 ∧ v1 ≤ 1700) → (Xi T1 904 94 = Xi S 904 94) → (Xi T1 904 117 = Xi S 904 117) → (v1 ≤ Xi S 904 94) → (Xi S 904 106 ≠ 0 → Xi T1 904 106 ≠ 0) → (Xi T1 904 106 = 0 → v1 ≤ 6 ∧ TQA T1 (0 ≤ Xi S 904 115) (0 ≤ Xi S 904 116) (Xi S 904 117) v1) → (KQL T1 S (Xi S 904 117)) → n2 = (1701 - v1).toNat → Rl lay0 (d + 7) m_mo_testsMeant 2 [(0, .ref 904), (1, iv v1)] [] T1 (Q_mo_testsMeant S n) := by
    intro n2
    induction n2 using Nat.strongRecOn with
    | ind n2 ih2 =>
      intro T1 hHT1 hFT1 v1 w6 w7 w8 w9 w10 E2 K2 hm2
      have w11 : Xi T1 904 115 = Xi S 904 115 := hFT1.x _ _ rfl
      have w12 : Xi T1 904 116 = Xi S 904 116 := hFT1.x _ _ rfl
      have w13 : Xi T1 904 117 = Xi S 904 117 := hFT1.x _ _ rfl
      have w14 : Xi T1 904 94 = Xi S 904 94 := hFT1.x _ _ rfl
      have w15 : 0 ≤ Xi T1 904 106 ∧ Xi T1 904 106 ≤ 9 := hHT1.c _ _
      have w16 : 0 ≤ Xi T1 904 117 ∧ Xi T1 904 117 ≤ 480 := hHT1.c _ _
      have w17 : 0 ≤ Xi T1 904 94 ∧ Xi T1 904 94 ≤ 1700 := hHT1.c _ _
      refine l_iload_n rfl rfl ?_
      refine l_aload_n rfl rfl ?_
      refine l_gfi rfl rfl rfl rfl rfl ?_
      refine l_icmp_ge rfl rfl (by unfold rg; omega) (by unfold rg; omega) (fun w18 => ?_) (fun w19 => ?_)
      · refine l_return rfl rfl ?_
        have w20 : 0 ≤ Xi T1 904 106 ∧ Xi T1 904 106 ≤ 9 := hHT1.c _ _
        have w21 : 0 ≤ Xi T1 904 117 ∧ Xi T1 904 117 ≤ 480 := hHT1.c _ _
        have w22 : 0 ≤ Xi T1 904 94 ∧ Xi T1 904 94 ≤ 1700 := hHT1.c _ _
        exact ⟨hHT1, hFT1, rfl, (by omega), (fun x => by rw [show Xi S 904 94 = v1 by omega]; exact E2 x), (K2)⟩
      · refine l_aload_n rfl rfl ?_
        refine l_iload_n rfl rfl ?_
        refine l_bipush rfl rfl ?_
        refine l_icmp_ge rfl rfl (by unfold rg; omega) (by unfold rg; omega) (fun w23 => ?_) (fun w24 => ?_)
        · refine l_iconst rfl ?_
          refine l_bipush rfl rfl ?_
          refine l_aload_n rfl rfl ?_
          refine l_gfr rfl rfl rfl rfl rfl (hHT1.r 904 91 961 rfl) ?_
          refine l_iload_n rfl rfl ?_
          refine l_iaload (n := 1700) rfl rfl (by omega) (by omega) (by unfold rg; omega) ?_
          have w25 : 0 ≤ (Xi T1 961 ((v1).toNat)) ∧ (Xi T1 961 ((v1).toNat)) ≤ 5010 := hHT1.c _ _
          have e29 : (Xi T1 961 ((v1).toNat)) = Xi S 961 (v1).toNat := by first | rfl | exact (hFT1.cx 961 rfl _).1
          have f29 := hfi v1 (by omega) (by omega)
          have w26 : 0 ≤ Xi T1 904 106 ∧ Xi T1 904 106 ≤ 9 := hHT1.c _ _
          have w27 : 0 ≤ Xi T1 904 117 ∧ Xi T1 904 117 ≤ 480 := hHT1.c _ _
          have w28 : 0 ≤ Xi T1 904 94 ∧ Xi T1 904 94 ≤ 1700 := hHT1.c _ _
          refine l_callV rfl rfl rfl (t_mo_need hHT1 0 9 (Xi T1 961 ((v1).toNat)) ⟨by omega, by omega⟩ ⟨by omega, by omega⟩ ⟨by omega, by omega⟩ _) ?_
          rintro _ T2 ⟨hHT2, w32, rfl, w29, w30⟩
          have hFT2 : FR md_mo_testsMeant S T2 := FR.tr hFT1 w32 rfl
          show Rl _ _ _ _ _ [] _ _
          have k30 : KQL T2 S (Xi S 904 117) := KQL_FR (by assumption : FR md_mo_need T1 T2) rfl K2
          have T30 : Xi T2 904 106 = 0 → TQA T2 (0 ≤ Xi S 904 115) (0 ≤ Xi S 904 116) (Xi S 904 117) v1 := fun x => (E2 (by omega)).2.mv (fun j _ _ k a b => kdis_q (by assumption : FR md_mo_need T1 T2) rfl k a b _) ((by assumption : FR md_mo_need T1 T2).x 904 19 rfl) ((by assumption : FR md_mo_need T1 T2).x 904 23 rfl) ((by assumption : FR md_mo_need T1 T2).x 904 32 rfl)
          refine l_aload_n rfl rfl ?_
          refine l_iload_n rfl rfl ?_
          refine l_aload_n rfl rfl ?_
          refine l_gfi rfl rfl rfl rfl rfl ?_
          have w33 : (Xi T2 904 117) = (Xi T1 904 117) := (show Xi T2 904 117 = Xi T1 904 117 from w32.x _ _ rfl)
          rw [w33]
          refine l_iload_n rfl rfl ?_
          refine l_iadd rfl ?_
          refine l_iconst rfl ?_
          have w34 : 0 ≤ Xi T2 904 106 ∧ Xi T2 904 106 ≤ 9 := hHT2.c _ _
          have w35 : Xi T2 904 115 = Xi T1 904 115 := (show Xi T2 904 115 = Xi T1 904 115 from w32.x _ _ rfl)
          have w36 : -1 ≤ Xi T1 904 115 ∧ Xi T1 904 115 ≤ 15 := hHT1.c _ _
          have w37 : Xi T2 904 116 = Xi T1 904 116 := (show Xi T2 904 116 = Xi T1 904 116 from w32.x _ _ rfl)
          have w38 : -1 ≤ Xi T1 904 116 ∧ Xi T1 904 116 ≤ 15 := hHT1.c _ _
          have w39 : Xi T2 904 117 = Xi T1 904 117 := (show Xi T2 904 117 = Xi T1 904 117 from w32.x _ _ rfl)
          have w40 : 0 ≤ Xi T1 904 117 ∧ Xi T1 904 117 ≤ 480 := hHT1.c _ _
          have w41 : Xi T2 904 94 = Xi T1 904 94 := (show Xi T2 904 94 = Xi T1 904 94 from w32.x _ _ rfl)
          have w42 : 0 ≤ Xi T1 904 94 ∧ Xi T1 904 94 ≤ 1700 := hHT1.c _ _
          refine l_callV rfl rfl rfl (t_mo_testMeant hHT2 n v1 ((Xi T1 904 117) + v1) 0 ⟨by omega, by omega⟩ ⟨by omega, by omega⟩ ⟨by omega, by omega⟩ (by first | assumption | exact (TK_FR hFT2 rfl (by assumption : TK S _))) (by first | assumption | exact (RNV_FR hFT2 rfl (by assumption : RNV S _))) (by first | assumption | exact (LXM_FR hFT2 rfl (by assumption : LXM S))) (by first | assumption | exact (ABV_FR hFT2 rfl (by assumption : ABV S))) (by first | assumption | exact (DCM_FR hFT2 rfl (by assumption : DCM S))) (by first | assumption | exact (TXK_FR hFT2 rfl (by assumption : TXK S _))) ((TVA_FR hFT2 rfl htv) (v1).toNat (by omega)) (fun x => absurd x (by decide)) _) ?_
          rintro _ T3 ⟨hHT3, w46, rfl, w43, tq42, w44, kq42⟩
          have hFT3 : FR md_mo_testsMeant S T3 := FR.tr hFT2 w46 rfl
          show Rl _ _ _ _ _ [] _ _
          have k42 : KQL T3 S (Xi S 904 117) := KQL.q k30 kq42 (by omega)
          have T42 : Xi T3 904 106 = 0 → TQA T3 (0 ≤ Xi S 904 115) (0 ≤ Xi S 904 116) (Xi S 904 117) (v1 + 1) := fun x => (TQA.mv (T30 (by omega)) (fun j a1 b1 k a b => kq42 _ (by omega) k a b) ((by assumption : FR md_mo_testMeant T2 T3).x 904 19 rfl) ((by assumption : FR md_mo_testMeant T2 T3).x 904 23 rfl) ((by assumption : FR md_mo_testMeant T2 T3).x 904 32 rfl)).add (by have t := tq42 x; rw [hFT2.x 904 115 rfl, hFT2.x 904 116 rfl] at t; rw [show (Xi S 904 117 + v1 : Int) = Xi T2 904 117 + v1 by omega]; exact t)
          refine l_iinc rfl rfl rfl rfl ?_
          refine l_goto rfl rfl ?_
          have w47 : 0 ≤ Xi T3 904 106 ∧ Xi T3 904 106 ≤ 9 := hHT3.c _ _
          have w48 : Xi T3 904 117 = Xi T1 904 117 := (show Xi T3 904 117 = Xi T2 904 117 from w46.x _ _ rfl).trans ((show Xi T2 904 117 = Xi T1 904 117 from w32.x _ _ rfl))
          have w49 : 0 ≤ Xi T1 904 117 ∧ Xi T1 904 117 ≤ 480 := hHT1.c _ _
          have w50 : Xi T3 904 94 = Xi T1 904 94 := (show Xi T3 904 94 = Xi T2 904 94 from w46.x _ _ rfl).trans ((show Xi T2 904 94 = Xi T1 904 94 from w32.x _ _ rfl))
          have w51 : 0 ≤ Xi T1 904 94 ∧ Xi T1 904 94 ≤ 1700 := hHT1.c _ _
          exact Rl_weak (ih2 _ (by omega) T3 hHT3 hFT3 ((v1 + 1)) (by omega) (by omega) (by omega) (by omega) (by omega) (by first | exact fun x => ⟨by omega, T42 x⟩ | exact fun x => ⟨by omega, fun j a b => absurd b (by omega)⟩) (by first | exact k42 | exact KQL.rf) rfl) (And.intro rfl (And.intro rfl (True.intro)))
        · refine l_iconst rfl ?_
          refine l_goto rfl rfl ?_
          refine l_bipush rfl rfl ?_
          refine l_aload_n rfl rfl ?_
          refine l_gfr rfl rfl rfl rfl rfl (hHT1.r 904 91 961 rfl) ?_
          refine l_iload_n rfl rfl ?_
          refine l_iaload (n := 1700) rfl rfl (by omega) (by omega) (by unfold rg; omega) ?_
          have w52 : 0 ≤ (Xi T1 961 ((v1).toNat)) ∧ (Xi T1 961 ((v1).toNat)) ≤ 5010 := hHT1.c _ _
          have e29 : (Xi T1 961 ((v1).toNat)) = Xi S 961 (v1).toNat := by first | rfl | exact (hFT1.cx 961 rfl _).1
          have f29 := hfi v1 (by omega) (by omega)
          have w53 : 0 ≤ Xi T1 904 106 ∧ Xi T1 904 106 ≤ 9 := hHT1.c _ _
          have w54 : 0 ≤ Xi T1 904 117 ∧ Xi T1 904 117 ≤ 480 := hHT1.c _ _
          have w55 : 0 ≤ Xi T1 904 94 ∧ Xi T1 904 94 ≤ 1700 := hHT1.c _ _
          refine l_callV rfl rfl rfl (t_mo_need hHT1 1 9 (Xi T1 961 ((v1).toNat)) ⟨by omega, by omega⟩ ⟨by omega, by omega⟩ ⟨by omega, by omega⟩ _) ?_
          rintro _ T4 ⟨hHT4, w59, rfl, w56, w57⟩
          have hFT4 : FR md_mo_testsMeant S T4 := FR.tr hFT1 w59 rfl
          show Rl _ _ _ _ _ [] _ _
          have k30 : KQL T4 S (Xi S 904 117) := KQL_FR (by assumption : FR md_mo_need T1 T4) rfl K2
          have T30 : Xi T4 904 106 = 0 → TQA T4 (0 ≤ Xi S 904 115) (0 ≤ Xi S 904 116) (Xi S 904 117) v1 := fun x => (E2 (by omega)).2.mv (fun j _ _ k a b => kdis_q (by assumption : FR md_mo_need T1 T4) rfl k a b _) ((by assumption : FR md_mo_need T1 T4).x 904 19 rfl) ((by assumption : FR md_mo_need T1 T4).x 904 23 rfl) ((by assumption : FR md_mo_need T1 T4).x 904 32 rfl)
          refine l_aload_n rfl rfl ?_
          refine l_iload_n rfl rfl ?_
          refine l_aload_n rfl rfl ?_
          refine l_gfi rfl rfl rfl rfl rfl ?_
          have w60 : (Xi T4 904 117) = (Xi T1 904 117) := (show Xi T4 904 117 = Xi T1 904 117 from w59.x _ _ rfl)
          rw [w60]
          refine l_iload_n rfl rfl ?_
          refine l_iadd rfl ?_
          refine l_iconst rfl ?_
          have w61 : 0 ≤ Xi T4 904 106 ∧ Xi T4 904 106 ≤ 9 := hHT4.c _ _
          have w62 : Xi T4 904 115 = Xi T1 904 115 := (show Xi T4 904 115 = Xi T1 904 115 from w59.x _ _ rfl)
          have w63 : -1 ≤ Xi T1 904 115 ∧ Xi T1 904 115 ≤ 15 := hHT1.c _ _
          have w64 : Xi T4 904 116 = Xi T1 904 116 := (show Xi T4 904 116 = Xi T1 904 116 from w59.x _ _ rfl)
          have w65 : -1 ≤ Xi T1 904 116 ∧ Xi T1 904 116 ≤ 15 := hHT1.c _ _
          have w66 : Xi T4 904 117 = Xi T1 904 117 := (show Xi T4 904 117 = Xi T1 904 117 from w59.x _ _ rfl)
          have w67 : 0 ≤ Xi T1 904 117 ∧ Xi T1 904 117 ≤ 480 := hHT1.c _ _
          have w68 : Xi T4 904 94 = Xi T1 904 94 := (show Xi T4 904 94 = Xi T1 904 94 from w59.x _ _ rfl)
          have w69 : 0 ≤ Xi T1 904 94 ∧ Xi T1 904 94 ≤ 1700 := hHT1.c _ _
          refine l_callV rfl rfl rfl (t_mo_testMeant hHT4 n v1 ((Xi T1 904 117) + v1) 0 ⟨by omega, by omega⟩ ⟨by omega, by omega⟩ ⟨by omega, by omega⟩ (by first | assumption | exact (TK_FR hFT4 rfl (by assumption : TK S _))) (by first | assumption | exact (RNV_FR hFT4 rfl (by assumption : RNV S _))) (by first | assumption | exact (LXM_FR hFT4 rfl (by assumption : LXM S))) (by first | assumption | exact (ABV_FR hFT4 rfl (by assumption : ABV S))) (by first | assumption | exact (DCM_FR hFT4 rfl (by assumption : DCM S))) (by first | assumption | exact (TXK_FR hFT4 rfl (by assumption : TXK S _))) ((TVA_FR hFT4 rfl htv) (v1).toNat (by omega)) (fun x => absurd x (by decide)) _) ?_
          rintro _ T5 ⟨hHT5, w73, rfl, w70, tq42, w71, kq42⟩
          have hFT5 : FR md_mo_testsMeant S T5 := FR.tr hFT4 w73 rfl
          show Rl _ _ _ _ _ [] _ _
          have k42 : KQL T5 S (Xi S 904 117) := KQL.q k30 kq42 (by omega)
          have T42 : Xi T5 904 106 = 0 → TQA T5 (0 ≤ Xi S 904 115) (0 ≤ Xi S 904 116) (Xi S 904 117) (v1 + 1) := fun x => (TQA.mv (T30 (by omega)) (fun j a1 b1 k a b => kq42 _ (by omega) k a b) ((by assumption : FR md_mo_testMeant T4 T5).x 904 19 rfl) ((by assumption : FR md_mo_testMeant T4 T5).x 904 23 rfl) ((by assumption : FR md_mo_testMeant T4 T5).x 904 32 rfl)).add (by have t := tq42 x; rw [hFT4.x 904 115 rfl, hFT4.x 904 116 rfl] at t; rw [show (Xi S 904 117 + v1 : Int) = Xi T4 904 117 + v1 by omega]; exact t)
          refine l_iinc rfl rfl rfl rfl ?_
          refine l_goto rfl rfl ?_
          have w74 : 0 ≤ Xi T5 904 106 ∧ Xi T5 904 106 ≤ 9 := hHT5.c _ _
          have w75 : Xi T5 904 117 = Xi T1 904 117 := (show Xi T5 904 117 = Xi T4 904 117 from w73.x _ _ rfl).trans ((show Xi T4 904 117 = Xi T1 904 117 from w59.x _ _ rfl))
          have w76 : 0 ≤ Xi T1 904 117 ∧ Xi T1 904 117 ≤ 480 := hHT1.c _ _
          have w77 : Xi T5 904 94 = Xi T1 904 94 := (show Xi T5 904 94 = Xi T4 904 94 from w73.x _ _ rfl).trans ((show Xi T4 904 94 = Xi T1 904 94 from w59.x _ _ rfl))
          have w78 : 0 ≤ Xi T1 904 94 ∧ Xi T1 904 94 ≤ 1700 := hHT1.c _ _
          exact Rl_weak (ih2 _ (by omega) T5 hHT5 hFT5 ((v1 + 1)) (by omega) (by omega) (by omega) (by omega) (by omega) (by first | exact fun x => ⟨by omega, T42 x⟩ | exact fun x => ⟨by omega, fun j a b => absurd b (by omega)⟩) (by first | exact k42 | exact KQL.rf) rfl) (And.intro rfl (And.intro rfl (True.intro)))
  refine l_iconst rfl ?_
  refine l_istore_n rfl rfl rfl ?_
  have w79 : 0 ≤ Xi S 904 106 ∧ Xi S 904 106 ≤ 9 := hH.c _ _
  have w80 : 0 ≤ Xi S 904 117 ∧ Xi S 904 117 ≤ 480 := hH.c _ _
  have w81 : 0 ≤ Xi S 904 94 ∧ Xi S 904 94 ≤ 1700 := hH.c _ _
  exact Rl_weak (C2 _ S hH hF (0) (by omega) (by omega) (by omega) (by omega) (by omega) (by first | exact fun x => ⟨by omega, T42 x⟩ | exact fun x => ⟨by omega, fun j a b => absurd b (by omega)⟩) (by first | exact k42 | exact KQL.rf) rfl) (And.intro rfl (And.intro rfl (True.intro)))
def md_mo_doDefined : List rec := [(904, 905, 15, 16), (904, 905, 23, 24), (904, 905, 117, 118), (912, 913, 0, 100000), (913, 914, 0, 100000), (914, 915, 0, 100000), (915, 916, 0, 100000), (916, 917, 0, 100000), (921, 922, 0, 100000), (922, 923, 0, 100000), (923, 924, 0, 100000), (924, 925, 0, 100000)]
abbrev Q_mo_doDefined (S : sS) (n : Nat) : pst := fun r S1 => HI S1 ∧ FR md_mo_doDefined S S1 ∧ (r = none ∧ (LXM S1) ∧ (LCN S1) ∧ (GR S1 S) ∧ (DEFM S1) ∧ (DCM S1) ∧ (Xi S1 904 117 = Xi S 904 117 + Xi S 904 94) ∧ (Xi S1 904 23 = Xi S 904 23 + 1) ∧ (Xi S1 923 (Xi S 904 23).toNat + Xi S1 924 (Xi S 904 23).toNat ≤ Xi S1 904 117))
set_option maxRecDepth 100000 in
theorem t_mo_doDefined {S : sS} (hH : HI S) (n : Nat) (hT : TK S n) (hv : RNV S n) (hM : LXM S) (hLC : LCN S) (hC : DCM S) (hD : DEFM S) (h : Xi S 904 23 ≤ 23) (h2 : 2 ≤ Xi S 904 69) (hs : Xi S 951 1 ≤ 3) (hk : rnR S 0 0 ≠ -1) (ht : 1 ≤ Xi S 904 94 ∧ Xi S 904 94 ≤ 6) (hq : TQA S True False (Xi S 904 117) (Xi S 904 94)) (hb : Xi S 904 117 ≤ 474) (d : Nat) : Mt lay0 (d + 5) m_mo_doDefined [.ref 904] S (Q_mo_doDefined S n) := by
  refine Mt_R rfl rfl ?_
  have hF : FR md_mo_doDefined S S := FR.rf
  have w1 : 0 ≤ Xi S 904 117 ∧ Xi S 904 117 ≤ 480 := hH.c _ _
  have w2 : 0 ≤ Xi S 904 23 ∧ Xi S 904 23 ≤ 24 := hH.c _ _
  have w3 : 0 ≤ Xi S 904 69 ∧ Xi S 904 69 ≤ 2600 := hH.c _ _
  have w4 : 0 ≤ Xi S 904 94 ∧ Xi S 904 94 ≤ 1700 := hH.c _ _
  have w5 : 0 ≤ Xi S 951 1 ∧ Xi S 951 1 ≤ 5010 := hH.c _ _
  have hn5 := hT.1
  have hc69 : 0 ≤ Xi S 904 69 ∧ Xi S 904 69 ≤ 2600 := hH.c _ _
  have q0 := hv 0 (by omega)
  have q1 := hv 1 (by omega)
  have g0 : 0 ≤ Xi S 950 0 ∧ Xi S 950 0 ≤ 5010 := hH.c 950 0
  have g1 : 0 ≤ Xi S 950 1 ∧ Xi S 950 1 ≤ 5010 := hH.c 950 1
  have hc15 : 0 ≤ Xi S 904 15 ∧ Xi S 904 15 ≤ 300 := hH.c _ _
  have hl9 := lcn_le hH hLC
  have hc23 : 0 ≤ Xi S 904 23 := (hH.c 904 23).1
  have hc117 : 0 ≤ Xi S 904 117 := (hH.c 904 117).1
  refine l_aload_n rfl rfl ?_
  refine l_aload_n rfl rfl ?_
  refine l_iconst rfl ?_
  refine l_iconst rfl ?_
  have w6 : 0 ≤ Xi S 904 117 ∧ Xi S 904 117 ≤ 480 := hH.c _ _
  have w7 : 0 ≤ Xi S 904 15 ∧ Xi S 904 15 ≤ 300 := hH.c _ _
  have w8 : 0 ≤ Xi S 904 23 ∧ Xi S 904 23 ≤ 24 := hH.c _ _
  have w9 : 0 ≤ Xi S 904 69 ∧ Xi S 904 69 ≤ 2600 := hH.c _ _
  have w10 : 0 ≤ Xi S 904 94 ∧ Xi S 904 94 ≤ 1700 := hH.c _ _
  refine l_callV rfl rfl rfl (t_mo_meansRun__2 hH n 0 0 ⟨by omega, by omega⟩ ⟨by omega, by omega⟩ (by first | assumption | exact (TK_FR hF rfl (by assumption : TK S _))) (by first | assumption | exact (RNV_FR hF rfl (by assumption : RNV S _))) (by first | assumption | omega) (by first | assumption | exact (by assumption : LXM S)) _) ?_
  rintro _ _ ⟨rfl, z13, rfl, w13, w11, w12⟩
  show Rl _ _ _ _ _ [iv z13, .ref 904] _ _
  have x4 : z13 ≠ -1 → z13 < Xi S 904 16 := fun q => by have t := (by assumption : z13 ≠ -1 → z13 < cM S 0) q; rw [cM0] at t; exact t
  have r4 : z13 = rnR S 0 0 := by assumption
  refine l_iconst rfl ?_
  have w14 : 0 ≤ Xi S 904 117 ∧ Xi S 904 117 ≤ 480 := hH.c _ _
  have w15 : 0 ≤ Xi S 904 15 ∧ Xi S 904 15 ≤ 300 := hH.c _ _
  have w16 : 0 ≤ Xi S 904 23 ∧ Xi S 904 23 ≤ 24 := hH.c _ _
  have w17 : 0 ≤ Xi S 904 69 ∧ Xi S 904 69 ≤ 2600 := hH.c _ _
  have w18 : 0 ≤ Xi S 904 94 ∧ Xi S 904 94 ≤ 1700 := hH.c _ _
  refine l_callV rfl rfl rfl (t_mo_addAdjective hH z13 (-1) ⟨by omega, by omega⟩ ⟨by omega, by omega⟩ (by first | assumption | omega) _) ?_
  rintro _ T1 ⟨hHT1, w22, z21, rfl, w21, w19, w20, e8, k8⟩
  have hFT1 : FR md_mo_doDefined S T1 := FR.tr hF w22 rfl
  show Rl _ _ _ _ _ [iv z21] _ _
  have g8 : GR T1 S := gr_m GR.rf (Int.le_of_eq ((by assumption : FR md_mo_addAdjective S T1).x 904 16 rfl).symm) (Int.le_of_eq ((by assumption : FR md_mo_addAdjective S T1).x 904 18 rfl).symm) (Int.le_of_eq ((by assumption : FR md_mo_addAdjective S T1).x 904 19 rfl).symm) (by omega) (Int.le_of_eq ((by assumption : FR md_mo_addAdjective S T1).x 904 30 rfl).symm) (Int.le_of_eq ((by assumption : FR md_mo_addAdjective S T1).x 904 32 rfl).symm) (Int.le_of_eq ((by assumption : FR md_mo_addAdjective S T1).x 904 41 rfl).symm) (Int.le_of_eq ((by assumption : FR md_mo_addAdjective S T1).x 904 47 rfl).symm) (Int.le_of_eq ((by assumption : FR md_mo_addAdjective S T1).x 904 49 rfl).symm) (fun i hi => ⟨(k8 i hi).2.1, ((by assumption : FR md_mo_addAdjective S T1).cx 923 rfl i).1, (k8 i hi).2.2⟩) (fun i _ => ((by assumption : FR md_mo_addAdjective S T1).cx 928 rfl i).1) (fun i _ => ((by assumption : FR md_mo_addAdjective S T1).cx 942 rfl i).1)
  refine l_istore_n rfl rfl rfl ?_
  refine l_aload_n rfl rfl ?_
  refine l_gfr rfl rfl rfl rfl rfl (hHT1.r 904 26 923 rfl) ?_
  refine l_iload_n rfl rfl ?_
  refine l_aload_n rfl rfl ?_
  refine l_gfi rfl rfl rfl rfl rfl ?_
  have w23 : (Xi T1 904 117) = (Xi S 904 117) := (show Xi T1 904 117 = Xi S 904 117 from w22.x _ _ rfl)
  rw [w23]
  refine l_iastore (n := 24) rfl rfl (by omega) (by omega) (by unfold rg; omega) ?_
  obtain ⟨U2, eU2⟩ : ∃ T : sS, T = uI T1 923 ((z21).toNat) (Int32.ofInt (Xi S 904 117)) := ⟨_, rfl⟩
  rw [← eU2]
  have hHU2 : HI U2 := by rw [eU2]; exact HI_w hHT1 (show 0 ≤ (Xi S 904 117) by omega) (show (Xi S 904 117) ≤ 480 by omega)
  have hFU2 : FR md_mo_doDefined S U2 := by rw [eU2]; exact FR.wI hFT1 (mdf_i (r := (923, 924, 0, 100000)) (List.mem_of_getElem? (i := 10) rfl) (inR_i (by omega) (by omega) (by omega) (by omega)))
  have w24 : Xi U2 923 ((z21).toNat) = (Xi S 904 117) := by rw [eU2]; exact Xi_same (by unfold rg; omega)
  have g21 : GR U2 S := GR.w g8 eU2 (by unfold rg; omega) (by omega)
  refine l_aload_n rfl rfl ?_
  refine l_gfr rfl rfl rfl rfl rfl (hHU2.r 904 27 924 rfl) ?_
  refine l_iload_n rfl rfl ?_
  refine l_aload_n rfl rfl ?_
  refine l_gfi rfl rfl rfl rfl rfl ?_
  have w25 : (Xi U2 904 94) = (Xi S 904 94) := (show Xi U2 904 94 = Xi T1 904 94 from by rw [eU2]; exact Xi_ne (by omega)).trans ((show Xi T1 904 94 = Xi S 904 94 from w22.x _ _ rfl))
  rw [w25]
  refine l_iastore (n := 24) rfl rfl (by omega) (by omega) (by unfold rg; omega) ?_
  obtain ⟨U3, eU3⟩ : ∃ T : sS, T = uI U2 924 ((z21).toNat) (Int32.ofInt (Xi S 904 94)) := ⟨_, rfl⟩
  rw [← eU3]
  have hHU3 : HI U3 := by rw [eU3]; exact HI_w hHU2 (show 0 ≤ (Xi S 904 94) by omega) (show (Xi S 904 94) ≤ 6 by omega)
  have hFU3 : FR md_mo_doDefined S U3 := by rw [eU3]; exact FR.wI hFU2 (mdf_i (r := (924, 925, 0, 100000)) (List.mem_of_getElem? (i := 11) rfl) (inR_i (by omega) (by omega) (by omega) (by omega)))
  have w26 : Xi U3 924 ((z21).toNat) = (Xi S 904 94) := by rw [eU3]; exact Xi_same (by unfold rg; omega)
  have g31 : GR U3 S := GR.w g21 eU3 (by unfold rg; omega) (by omega)
  have q31 : Xi U3 923 (Xi S 904 23).toNat = Xi S 904 117 := by first | assumption | omega
  refine l_aload_n rfl rfl ?_
  refine l_dup rfl rfl ?_
  refine l_gfi rfl rfl rfl rfl rfl ?_
  have w27 : (Xi U3 904 117) = (Xi S 904 117) := (show Xi U3 904 117 = Xi U2 904 117 from by rw [eU3]; exact Xi_ne (by omega)).trans ( (show Xi U2 904 117 = Xi T1 904 117 from by rw [eU2]; exact Xi_ne (by omega)).trans ((show Xi T1 904 117 = Xi S 904 117 from w22.x _ _ rfl)))
  rw [w27]
  refine l_aload_n rfl rfl ?_
  refine l_gfi rfl rfl rfl rfl rfl ?_
  have w28 : (Xi U3 904 94) = (Xi S 904 94) := (show Xi U3 904 94 = Xi U2 904 94 from by rw [eU3]; exact Xi_ne (by omega)).trans ( (show Xi U2 904 94 = Xi T1 904 94 from by rw [eU2]; exact Xi_ne (by omega)).trans ((show Xi T1 904 94 = Xi S 904 94 from w22.x _ _ rfl)))
  rw [w28]
  refine l_iadd rfl ?_
  refine l_pfi rfl rfl rfl rfl ?_
  obtain ⟨U4, eU4⟩ : ∃ T : sS, T = uI U3 904 117 (Int32.ofInt ((Xi S 904 117) + (Xi S 904 94))) := ⟨_, rfl⟩
  rw [← eU4]
  have hHU4 : HI U4 := by rw [eU4]; exact HI_w hHU3 (show 0 ≤ ((Xi S 904 117) + (Xi S 904 94)) by omega) (show ((Xi S 904 117) + (Xi S 904 94)) ≤ 480 by omega)
  have hFU4 : FR md_mo_doDefined S U4 := by rw [eU4]; exact FR.wI hFU3 (mdf_i (r := (904, 905, 117, 118)) (List.mem_of_getElem? (i := 2) rfl) (inR_i (by omega) (by omega) (by omega) (by omega)))
  have w29 : Xi U4 904 117 = ((Xi S 904 117) + (Xi S 904 94)) := by rw [eU4]; exact Xi_same (by unfold rg; omega)
  have g42 : GR U4 S := GR_FR (FR_e eU4) rfl g31
  have x42 : LXK U4 S (Xi S 904 15) := LXK_FR hFU4 rfl
  have c42 : Xi U4 904 15 = Xi S 904 15 := hFU4.x 904 15 rfl
  refine l_aload_n rfl rfl ?_
  refine l_iconst rfl ?_
  refine l_iload_n rfl rfl ?_
  refine l_iconst rfl ?_
  have w30 : 0 ≤ Xi U4 904 117 ∧ Xi U4 904 117 ≤ 480 := hHU4.c _ _
  have w31 : Xi U4 904 15 = Xi S 904 15 := (show Xi U4 904 15 = Xi U3 904 15 from by rw [eU4]; exact Xi_ne (by omega)).trans ( (show Xi U3 904 15 = Xi U2 904 15 from by rw [eU3]; exact Xi_ne (by omega)).trans ( (show Xi U2 904 15 = Xi T1 904 15 from by rw [eU2]; exact Xi_ne (by omega)).trans ((show Xi T1 904 15 = Xi S 904 15 from w22.x _ _ rfl))))
  have w32 : 0 ≤ Xi S 904 15 ∧ Xi S 904 15 ≤ 300 := hH.c _ _
  have w33 : Xi U4 904 23 = Xi T1 904 23 := (show Xi U4 904 23 = Xi U3 904 23 from by rw [eU4]; exact Xi_ne (by omega)).trans ( (show Xi U3 904 23 = Xi U2 904 23 from by rw [eU3]; exact Xi_ne (by omega)).trans ((show Xi U2 904 23 = Xi T1 904 23 from by rw [eU2]; exact Xi_ne (by omega))))
  have w34 : 0 ≤ Xi T1 904 23 ∧ Xi T1 904 23 ≤ 24 := hHT1.c _ _
  have w35 : Xi U4 904 69 = Xi S 904 69 := (show Xi U4 904 69 = Xi U3 904 69 from by rw [eU4]; exact Xi_ne (by omega)).trans ( (show Xi U3 904 69 = Xi U2 904 69 from by rw [eU3]; exact Xi_ne (by omega)).trans ( (show Xi U2 904 69 = Xi T1 904 69 from by rw [eU2]; exact Xi_ne (by omega)).trans ((show Xi T1 904 69 = Xi S 904 69 from w22.x _ _ rfl))))
  have w36 : 0 ≤ Xi S 904 69 ∧ Xi S 904 69 ≤ 2600 := hH.c _ _
  have w37 : Xi U4 904 94 = Xi S 904 94 := (show Xi U4 904 94 = Xi U3 904 94 from by rw [eU4]; exact Xi_ne (by omega)).trans ( (show Xi U3 904 94 = Xi U2 904 94 from by rw [eU3]; exact Xi_ne (by omega)).trans ( (show Xi U2 904 94 = Xi T1 904 94 from by rw [eU2]; exact Xi_ne (by omega)).trans ((show Xi T1 904 94 = Xi S 904 94 from w22.x _ _ rfl))))
  have w38 : 0 ≤ Xi S 904 94 ∧ Xi S 904 94 ≤ 1700 := hH.c _ _
  refine l_callV rfl rfl rfl (t_mo_tellRun hHU4 n 5 z21 1 ⟨by omega, by omega⟩ ⟨by omega, by omega⟩ ⟨by omega, by omega⟩ (by first | assumption | exact (TK_FR hFU4 rfl (by assumption : TK S _))) (by first | assumption | exact (RNV_FR hFU4 rfl (by assumption : RNV S _))) (by first | assumption | omega) (by rw [(hFU4.cx 951 rfl _).1]; exact hs) (by first | assumption | omega) _) ?_
  rintro _ T5 ⟨hHT5, w41, rfl, w39, e49, k49⟩
  have hFT5 : FR md_mo_doDefined S T5 := FR.tr hFU4 w41 rfl
  show Rl _ _ _ _ _ [] _ _
  have g49 : GR T5 S := GR_FR (by assumption : FR md_mo_tellRun U4 T5) rfl g42
  have x49 : LXK T5 S (Xi S 904 15) := x42.tr k49 (by omega)
  have n49 : Xi T5 923 (Xi S 904 23).toNat = Xi S 904 117 ∧ Xi T5 924 (Xi S 904 23).toNat = Xi S 904 94 := ⟨by omega, by omega⟩
  have f49 : Xi T5 904 23 = Xi S 904 23 + 1 := by omega
  have d49 : Xi T5 915 (Xi S 904 15).toNat < cM T5 (Xi T5 914 (Xi S 904 15).toNat) := by rw [← c42, e49.1, e49.2, cM5]; omega
  have M49 : LXM T5 := lxm_gr hM x49 g49 (by omega) (Or.inr ⟨by omega, d49⟩)
  have y49_16 : Xi T5 904 16 = Xi S 904 16 := hFT5.x 904 16 rfl
  have y49_18 : Xi T5 904 18 = Xi S 904 18 := hFT5.x 904 18 rfl
  have y49_19 : Xi T5 904 19 = Xi S 904 19 := hFT5.x 904 19 rfl
  have y49_30 : Xi T5 904 30 = Xi S 904 30 := hFT5.x 904 30 rfl
  have y49_32 : Xi T5 904 32 = Xi S 904 32 := hFT5.x 904 32 rfl
  have y49_41 : Xi T5 904 41 = Xi S 904 41 := hFT5.x 904 41 rfl
  have y49_47 : Xi T5 904 47 = Xi S 904 47 := hFT5.x 904 47 rfl
  have y49_49 : Xi T5 904 49 = Xi S 904 49 := hFT5.x 904 49 rfl
  have L49 : LCN T5 := lcn_i hLC (pls_le x49 (by omega) (by omega) (by omega)) (by omega)
  have Q49 : ∀ k, 969 ≤ k → k ≤ 975 → ∀ i, Xi T5 k i = Xi S k i := fun k a b i => kdis_q hFT5 rfl k a b i
  have D49 : DEFM T5 := defm_gr hD g49 Q49 (fun a b c e => by rw [show a = (Xi S 904 23).toNat by omega, n49.1, n49.2]; refine ⟨by omega, fun k hk => tq_gr g49 (fun j x y => Q49 j x y _) ?_⟩; have t := hq (k : Int) (by omega) (by omega); rw [show (Xi S 904 117 + (k : Int)).toNat = (Xi S 904 117).toNat + k by omega] at t; exact t)
  have C49 : DCM T5 := dcm_gr hC g49 (fun a b c e => by rw [show a = (Xi S 904 23).toNat by omega, n49.2] at e; omega)
  refine l_return rfl rfl ?_
  have w42 : Xi T5 923 (Xi S 904 23).toNat = Xi U2 923 (Xi S 904 23).toNat := (show Xi T5 923 (Xi S 904 23).toNat = Xi U4 923 (Xi S 904 23).toNat from (w41.cx 923 rfl _).1).trans ( (show Xi U4 923 (Xi S 904 23).toNat = Xi U3 923 (Xi S 904 23).toNat from by rw [eU4]; exact Xi_ne (by omega)).trans ((show Xi U3 923 (Xi S 904 23).toNat = Xi U2 923 (Xi S 904 23).toNat from by rw [eU3]; exact Xi_ne (by omega))))
  have w43 : Xi T5 924 (Xi S 904 23).toNat = Xi U3 924 (Xi S 904 23).toNat := (show Xi T5 924 (Xi S 904 23).toNat = Xi U4 924 (Xi S 904 23).toNat from (w41.cx 924 rfl _).1).trans ((show Xi U4 924 (Xi S 904 23).toNat = Xi U3 924 (Xi S 904 23).toNat from by rw [eU4]; exact Xi_ne (by omega)))
  have w44 : Xi T5 904 117 = Xi U4 904 117 := (show Xi T5 904 117 = Xi U4 904 117 from w41.x _ _ rfl)
  have w45 : 0 ≤ Xi U4 904 117 ∧ Xi U4 904 117 ≤ 480 := hHU4.c _ _
  have w46 : 0 ≤ Xi T5 904 15 ∧ Xi T5 904 15 ≤ 300 := hHT5.c _ _
  have w47 : Xi T5 904 23 = Xi T1 904 23 := (show Xi T5 904 23 = Xi U4 904 23 from w41.x _ _ rfl).trans ( (show Xi U4 904 23 = Xi U3 904 23 from by rw [eU4]; exact Xi_ne (by omega)).trans ( (show Xi U3 904 23 = Xi U2 904 23 from by rw [eU3]; exact Xi_ne (by omega)).trans ((show Xi U2 904 23 = Xi T1 904 23 from by rw [eU2]; exact Xi_ne (by omega)))))
  have w48 : 0 ≤ Xi T1 904 23 ∧ Xi T1 904 23 ≤ 24 := hHT1.c _ _
  have w49 : Xi T5 904 69 = Xi S 904 69 := (show Xi T5 904 69 = Xi U4 904 69 from w41.x _ _ rfl).trans ( (show Xi U4 904 69 = Xi U3 904 69 from by rw [eU4]; exact Xi_ne (by omega)).trans ( (show Xi U3 904 69 = Xi U2 904 69 from by rw [eU3]; exact Xi_ne (by omega)).trans ( (show Xi U2 904 69 = Xi T1 904 69 from by rw [eU2]; exact Xi_ne (by omega)).trans ((show Xi T1 904 69 = Xi S 904 69 from w22.x _ _ rfl)))))
  have w50 : 0 ≤ Xi S 904 69 ∧ Xi S 904 69 ≤ 2600 := hH.c _ _
  have w51 : Xi T5 904 94 = Xi S 904 94 := (show Xi T5 904 94 = Xi U4 904 94 from w41.x _ _ rfl).trans ( (show Xi U4 904 94 = Xi U3 904 94 from by rw [eU4]; exact Xi_ne (by omega)).trans ( (show Xi U3 904 94 = Xi U2 904 94 from by rw [eU3]; exact Xi_ne (by omega)).trans ( (show Xi U2 904 94 = Xi T1 904 94 from by rw [eU2]; exact Xi_ne (by omega)).trans ((show Xi T1 904 94 = Xi S 904 94 from w22.x _ _ rfl)))))
  have w52 : 0 ≤ Xi S 904 94 ∧ Xi S 904 94 ≤ 1700 := hH.c _ _
  exact ⟨hHT5, hFT5, rfl, (by first | assumption | exact (by assumption : LXM T5)), (by first | assumption | exact (by assumption : LCN T5)), (g49), (D49), (C49), (by omega), (by omega), (by have t := n49; omega)⟩
