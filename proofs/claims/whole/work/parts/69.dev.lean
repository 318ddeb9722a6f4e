/-! SAFETY of methods: printed by wip/safe (vc.py, decl.py) -/
/-! SAFETY of the reference: tests that were meant -/
theorem q_thv {m m2 : Int} {n : Nat} {td rn x y : Int} (h : THV m n td rn) (e1 : x = td) (e2 : y = rn) (e3 : m2 = m) (hn : n ≤ 5000) : (20000 ≤ x → 0 ≤ y ∧ y < m2) ∧ x % 10000 ≤ 5001 := by
  unfold THV at h
  refine ⟨fun q => ?_, by omega⟩
  have := h.2 (by omega)
  omega
theorem thk_c {S T : sS} {b c : Prop} {x y : Int} (h : thK S b c x) (e : Xi T 904 19 = Xi S 904 19) (e2 : y = x) : thK T b c y := by
  unfold thK at *
  rw [e, e2]
  exact h
theorem adx_c {S T : sS} {f a y : Int} (h : ADX S f a) (e1 : Xi T 904 23 = Xi S 904 23) (e2 : Xi T 904 32 = Xi S 904 32) (e : y = a) : ADM T y := by
  have t := h.1
  unfold ADM at *
  rw [e1, e2, e]
  exact t
theorem tq_5 {S : sS} {b c : Prop} {q : Nat} (h : Xi S 969 q = 5) (h1 : thK S b c (Xi S 971 q)) (h2 : thK S b c (Xi S 975 q)) (h3 : 0 ≤ Xi S 972 q ∧ Xi S 972 q ≤ 5) : TQ S b c q := ⟨h1, fun _ => ⟨h2, h3⟩, fun e => by omega, fun e => by omega, fun e => by omega⟩
theorem tq_3 {S : sS} {b c : Prop} {q : Nat} (h : Xi S 969 q = 3) (h1 : thK S b c (Xi S 971 q)) (h2 : ADM S (Xi S 973 q)) : TQ S b c q := ⟨h1, fun e => by omega, fun _ => h2, fun e => by omega, fun e => by omega⟩
theorem tq_4 {S : sS} {b c : Prop} {q : Nat} (h : Xi S 969 q = 4) (h1 : thK S b c (Xi S 971 q)) : TQ S b c q := ⟨h1, fun e => by omega, fun e => by omega, fun e => by omega, fun e => by omega⟩
theorem tq_2 {S : sS} {b c : Prop} {q : Nat} (h : Xi S 969 q ≤ 2) (h1 : thK S b c (Xi S 971 q)) (h2 : 0 ≤ Xi S 972 q ∧ Xi S 972 q < Xi S 904 32) (h3 : Xi S 969 q = 0 → OKT (Xi S 973 q) (Xi S 974 q)) : TQ S b c q := ⟨h1, fun e => by omega, fun e => by omega, fun _ => h2, h3⟩
/-- what phrases of the sort NOW may be -/
def NF (S : sS) (q : Nat) : Prop := (Xi S 969 q = 0 ∨ Xi S 969 q = 3 ∨ Xi S 969 q = 5) ∧ (Xi S 969 q = 3 → Xi S 973 q < 100 → Xi S 922 (Xi S 973 q).toNat ≠ -1)
def md_mo_testMeant : List rec := [(904, 905, 64, 65), (904, 905, 104, 105), (904, 905, 105, 106), (904, 905, 106, 107), (904, 905, 113, 114), (969, 970, 0, 100000), (970, 971, 0, 100000), (971, 972, 0, 100000), (972, 973, 0, 100000), (973, 974, 0, 100000), (974, 975, 0, 100000), (975, 976, 0, 100000)]
abbrev Q_mo_testMeant (S : sS) (n : Nat) (i : Int) (q : Int) (isNow : Int) : pst := fun r S1 => HI S1 ∧ FR md_mo_testMeant S S1 ∧ (r = none ∧ (Xi S 904 106 ≠ 0 → Xi S1 904 106 ≠ 0) ∧ (Xi S1 904 106 = 0 → TQ S1 (0 ≤ Xi S 904 115) (0 ≤ Xi S 904 116) q.toNat) ∧ (Xi S1 904 106 = 0 → isNow = 1 → NF S1 q.toNat) ∧ (KQ S1 S q))
set_option maxRecDepth 100000 in
set_option maxHeartbeats 8000000 in
theorem t_mo_testMeant {S : sS} (hH : HI S) (n : Nat) (i : Int) (q : Int) (isNow : Int) (hi : 0 ≤ i ∧ i ≤ 1699) (hq : 0 ≤ q ∧ q ≤ 2399) (hisNow : 0 ≤ isNow ∧ isNow ≤ 1) (hT : TK S n) (hv : RNV S n) (hM : LXM S) (hB : ABV S) (hC : DCM S) (hK : TXK S n) (htv : TV S n i.toNat) (hnf : isNow = 1 → Xi S 952 i.toNat = 0 ∨ Xi S 952 i.toNat = 3 ∨ Xi S 952 i.toNat = 5) (d : Nat) : Mt lay0 (d + 7) m_mo_testMeant [.ref 904, iv i, iv q, iv isNow] S (Q_mo_testMeant S n i q isNow) := by
  refine Mt_R rfl rfl ?_
  have hF : FR md_mo_testMeant S S := FR.rf
  have w1 : 0 ≤ Xi S 904 106 ∧ Xi S 904 106 ≤ 9 := hH.c _ _
  have w2 : -1 ≤ Xi S 904 113 ∧ Xi S 904 113 ≤ 6411 := hH.c _ _
  have w3 : -1 ≤ Xi S 904 115 ∧ Xi S 904 115 ≤ 15 := hH.c _ _
  have w4 : -1 ≤ Xi S 904 116 ∧ Xi S 904 116 ≤ 15 := hH.c _ _
  have w5 : 0 ≤ Xi S 904 69 ∧ Xi S 904 69 ≤ 2600 := hH.c _ _
  have hn5 := hT.1
  have hc69 : 0 ≤ Xi S 904 69 ∧ Xi S 904 69 ≤ 2600 := hH.c _ _
  have hc32 : 0 ≤ Xi S 904 32 ∧ Xi S 904 32 ≤ 12 := hH.c _ _
  have hc952 : 0 ≤ Xi S 952 i.toNat ∧ Xi S 952 i.toNat ≤ 5 := hH.c 952 _
  have hte := htv.1
  have hrf : ∀ r : Int, 0 ≤ r → r < Xi S 904 69 → Xi S 950 r.toNat + Xi S 951 r.toNat ≤ n ∧ 1 ≤ Xi S 951 r.toNat := fun r a b => hv r.toNat (by omega)
  have t56 : Xi S 952 i.toNat ≤ 3 → Xi S 956 i.toNat < Xi S 904 69 := htv.2.2.1
  have t57 : Xi S 952 i.toNat ≤ 2 → Xi S 957 i.toNat ≤ n := htv.2.2.2.2.1
  have C209 : ∀  (T1 : sS) (_ : HI T1) (_ : FR md_mo_testMeant S T1) (v5 : Int) (v6 : Int), (0 ≤ v5 ∧ v5 ≤ 2599) → (0 ≤ v6 ∧ v6 ≤ 12) → (v4 ≠ -9) → (0 ≤ v5 ∧ v5 < Xi S 904 69) → (Xi T1 971 (q).toNat = v4) → (Xi T1 969 (q).toNat = 3) → (Xi S 904 106 ≠ 0 → Xi T1 904 106 ≠ 0) → (thK S (0 ≤ Xi S 904 115) (0 ≤ Xi S 904 116) v4) → (Xi S 950 (v5).toNat + Xi S 951 (v5).toNat ≤ n ∧ 1 ≤ Xi S 951 (v5).toNat) → (1 ≤ v6 → ADX S (1 - isNow) (Xi T1 904 113)) → (KQ T1 S q) → Rl lay0 (d + 6) m_mo_testMeant 209 [(0, .ref 904), (2, iv q), (5, iv v5), (6, iv v6)] [] T1 (Q_mo_testMeant S n i q isNow) := by
    intro T1 hHT1 hFT1 v5 v6 w6 w7 w8 w9 w10 w11 w12 H209 G209 W209 K209
    have w13 : Xi T1 904 115 = Xi S 904 115 := hFT1.x _ _ rfl
    have w14 : Xi T1 904 116 = Xi S 904 116 := hFT1.x _ _ rfl
    have w15 : Xi T1 904 19 = Xi S 904 19 := hFT1.x _ _ rfl
    have w16 : Xi T1 904 32 = Xi S 904 32 := hFT1.x _ _ rfl
    have w17 : Xi T1 904 69 = Xi S 904 69 := hFT1.x _ _ rfl
    have w18 : 0 ≤ Xi T1 904 106 ∧ Xi T1 904 106 ≤ 9 := hHT1.c _ _
    have w19 : -1 ≤ Xi T1 904 113 ∧ Xi T1 904 113 ≤ 6411 := hHT1.c _ _
    refine l_aload_n rfl rfl ?_
    refine l_iload rfl rfl ?_
    refine l_if_le rfl rfl (by unfold rg; omega) (fun w20 => ?_) (fun w21 => ?_)
    · refine l_iconst rfl ?_
      refine l_iconst rfl ?_
      refine l_aload_n rfl rfl ?_
      refine l_gfr rfl rfl rfl rfl rfl (hHT1.r 904 67 950 rfl) ?_
      refine l_iload rfl rfl ?_
      refine l_iaload (n := 2600) rfl rfl (by omega) (by omega) (by unfold rg; omega) ?_
      have w22 : 0 ≤ (Xi T1 950 ((v5).toNat)) ∧ (Xi T1 950 ((v5).toNat)) ≤ 5010 := hHT1.c _ _
      have e227 : (Xi T1 950 ((v5).toNat)) = Xi S 950 (v5).toNat := by first | rfl | exact (hFT1.cx 950 rfl _).1
      have w23 : 0 ≤ Xi T1 904 106 ∧ Xi T1 904 106 ≤ 9 := hHT1.c _ _
      have w24 : -1 ≤ Xi T1 904 113 ∧ Xi T1 904 113 ≤ 6411 := hHT1.c _ _
      have w25 : 0 ≤ Xi T1 904 69 ∧ Xi T1 904 69 ≤ 2600 := hHT1.c _ _
      refine l_callV rfl rfl rfl (t_mo_need hHT1 0 4 (Xi T1 950 ((v5).toNat)) ⟨by omega, by omega⟩ ⟨by omega, by omega⟩ ⟨by omega, by omega⟩ _) ?_
      rintro _ T2 ⟨hHT2, w29, rfl, w26, w27⟩
      have hFT2 : FR md_mo_testMeant S T2 := FR.tr hFT1 w29 rfl
      show Rl _ _ _ _ _ [] _ _
      refine l_aload_n rfl rfl ?_
      refine l_iload rfl rfl ?_
      refine l_iconst rfl ?_
      refine l_icmp_ge rfl rfl (by unfold rg; omega) (by unfold rg; omega) (fun w30 => ?_) (fun w31 => ?_)
      · refine l_iconst rfl ?_
        refine l_bipush rfl rfl ?_
        refine l_aload_n rfl rfl ?_
        refine l_gfr rfl rfl rfl rfl rfl (hHT2.r 904 67 950 rfl) ?_
        refine l_iload rfl rfl ?_
        refine l_iaload (n := 2600) rfl rfl (by omega) (by omega) (by unfold rg; omega) ?_
        have w32 : (Xi T2 950 ((v5).toNat)) = (Xi T1 950 ((v5).toNat)) := (show Xi T2 950 ((v5).toNat) = Xi T1 950 ((v5).toNat) from w29.x _ _ rfl)
        rw [w32]
        have e251 : (Xi T1 950 ((v5).toNat)) = Xi S 950 (v5).toNat := by first | rfl | exact (hFT2.cx 950 rfl _).1
        have w33 : 0 ≤ Xi T2 904 106 ∧ Xi T2 904 106 ≤ 9 := hHT2.c _ _
        have w34 : Xi T2 904 113 = Xi T1 904 113 := (show Xi T2 904 113 = Xi T1 904 113 from w29.x _ _ rfl)
        have w35 : -1 ≤ Xi T1 904 113 ∧ Xi T1 904 113 ≤ 6411 := hHT1.c _ _
        have w36 : Xi T2 904 69 = Xi T1 904 69 := (show Xi T2 904 69 = Xi T1 904 69 from w29.x _ _ rfl)
        have w37 : 0 ≤ Xi T1 904 69 ∧ Xi T1 904 69 ≤ 2600 := hHT1.c _ _
        refine l_callV rfl rfl rfl (t_mo_need hHT2 0 7 (Xi T1 950 ((v5).toNat)) ⟨by omega, by omega⟩ ⟨by omega, by omega⟩ ⟨by omega, by omega⟩ _) ?_
        rintro _ T3 ⟨hHT3, w41, rfl, w38, w39⟩
        have hFT3 : FR md_mo_testMeant S T3 := FR.tr hFT2 w41 rfl
        show Rl _ _ _ _ _ [] _ _
        refine l_aload_n rfl rfl ?_
        refine l_gfr rfl rfl rfl rfl rfl (hHT3.r 904 122 973 rfl) ?_
        refine l_iload_n rfl rfl ?_
        refine l_iload rfl rfl ?_
        refine l_if_le rfl rfl (by unfold rg; omega) (fun w42 => ?_) (fun w43 => ?_)
        · refine l_iconst rfl ?_
          refine l_iastore (n := 2400) rfl rfl (by omega) (by omega) (by unfold rg; omega) ?_
          obtain ⟨U4, eU4⟩ : ∃ T : sS, T = uI T3 973 ((q).toNat) (Int32.ofInt 0) := ⟨_, rfl⟩
          rw [← eU4]
          have hHU4 : HI U4 := by rw [eU4]; exact HI_any hHT3 (rfl)
          have hFU4 : FR md_mo_testMeant S U4 := by rw [eU4]; exact FR.wI hFT3 (mdf_i (r := (973, 974, 0, 100000)) (List.mem_of_getElem? (i := 9) rfl) (inR_i (by omega) (by omega) (by omega) (by omega)))
          have w44 : Xi U4 973 ((q).toNat) = 0 := by rw [eU4]; exact Xi_same (by unfold rg; omega)
          refine l_goto rfl rfl ?_
          refine l_return rfl rfl ?_
          have w45 : Xi U4 969 (q).toNat = Xi T1 969 (q).toNat := (show Xi U4 969 (q).toNat = Xi T3 969 (q).toNat from by rw [eU4]; exact Xi_ne (by omega)).trans ( (show Xi T3 969 (q).toNat = Xi T2 969 (q).toNat from (w41.cx 969 rfl _).1).trans ((show Xi T2 969 (q).toNat = Xi T1 969 (q).toNat from (w29.cx 969 rfl _).1)))
          have w46 : Xi U4 971 (q).toNat = Xi T1 971 (q).toNat := (show Xi U4 971 (q).toNat = Xi T3 971 (q).toNat from by rw [eU4]; exact Xi_ne (by omega)).trans ( (show Xi T3 971 (q).toNat = Xi T2 971 (q).toNat from (w41.cx 971 rfl _).1).trans ((show Xi T2 971 (q).toNat = Xi T1 971 (q).toNat from (w29.cx 971 rfl _).1)))
          have w47 : Xi U4 972 (q).toNat = Xi T1 972 (q).toNat := (show Xi U4 972 (q).toNat = Xi T3 972 (q).toNat from by rw [eU4]; exact Xi_ne (by omega)).trans ( (show Xi T3 972 (q).toNat = Xi T2 972 (q).toNat from (w41.cx 972 rfl _).1).trans ((show Xi T2 972 (q).toNat = Xi T1 972 (q).toNat from (w29.cx 972 rfl _).1)))
          have w48 : Xi U4 974 (q).toNat = Xi T1 974 (q).toNat := (show Xi U4 974 (q).toNat = Xi T3 974 (q).toNat from by rw [eU4]; exact Xi_ne (by omega)).trans ( (show Xi T3 974 (q).toNat = Xi T2 974 (q).toNat from (w41.cx 974 rfl _).1).trans ((show Xi T2 974 (q).toNat = Xi T1 974 (q).toNat from (w29.cx 974 rfl _).1)))
          have w49 : Xi U4 975 (q).toNat = Xi T1 975 (q).toNat := (show Xi U4 975 (q).toNat = Xi T3 975 (q).toNat from by rw [eU4]; exact Xi_ne (by omega)).trans ( (show Xi T3 975 (q).toNat = Xi T2 975 (q).toNat from (w41.cx 975 rfl _).1).trans ((show Xi T2 975 (q).toNat = Xi T1 975 (q).toNat from (w29.cx 975 rfl _).1)))
          have w50 : Xi U4 904 106 = Xi T3 904 106 := (show Xi U4 904 106 = Xi T3 904 106 from by rw [eU4]; exact Xi_ne (by omega))
          have w51 : 0 ≤ Xi T3 904 106 ∧ Xi T3 904 106 ≤ 9 := hHT3.c _ _
          have w52 : Xi U4 904 113 = Xi T1 904 113 := (show Xi U4 904 113 = Xi T3 904 113 from by rw [eU4]; exact Xi_ne (by omega)).trans ( (show Xi T3 904 113 = Xi T2 904 113 from w41.x _ _ rfl).trans ((show Xi T2 904 113 = Xi T1 904 113 from w29.x _ _ rfl)))
          have w53 : -1 ≤ Xi T1 904 113 ∧ Xi T1 904 113 ≤ 6411 := hHT1.c _ _
          have w54 : Xi U4 904 69 = Xi T1 904 69 := (show Xi U4 904 69 = Xi T3 904 69 from by rw [eU4]; exact Xi_ne (by omega)).trans ( (show Xi T3 904 69 = Xi T2 904 69 from w41.x _ _ rfl).trans ((show Xi T2 904 69 = Xi T1 904 69 from w29.x _ _ rfl)))
          have w55 : 0 ≤ Xi T1 904 69 ∧ Xi T1 904 69 ≤ 2600 := hHT1.c _ _
          exact ⟨hHU4, hFU4, rfl, (by omega), (by first | exact (fun _ q => (by have s := f52 (by omega); exact tq_5 (by omega) (thk_c (b := 0 ≤ Xi S 904 115) (c := 0 ≤ Xi S 904 116) (S := S) (by have t := s.1; unfold thK at *; have a := h52; omega) (hFU4.x 904 19 rfl) (by omega)) (thk_c (S := S) (by have t := s.2.1; unfold thK at *; have a := h52; omega) (hFU4.x 904 19 rfl) (by omega)) (by have t := s.2.2; omega))) f52 | exact (fun _ q => tq_3 (by omega) (thk_c (H209) (hFU4.x 904 19 rfl) (by omega)) (adx_c (W209 (by omega)) (hFU4.x 904 23 rfl) (hFU4.x 904 32 rfl) (by omega))) W209 | exact (fun _ q => tq_4 (by omega) (thk_c (th107 (by omega)) (hFU4.x 904 19 rfl) (by omega))) q299 | exact (fun _ q => tq_2 (by omega) (thk_c (th107 (by omega)) (hFU4.x 904 19 rfl) (by omega)) (by have a := hFU4.x 904 32 rfl; omega) (fun _ => o386)) o386 | exact (fun _ q => tq_2 (by omega) (thk_c (th107 (by omega)) (hFU4.x 904 19 rfl) (by omega)) (by have a := hFU4.x 904 32 rfl; omega) (fun y => absurd y (by omega))) p337 | exact fun x => absurd x (by omega)), (by first | exact fun x y => ⟨by omega, fun z => absurd z (by omega)⟩ | exact (fun _ q => fun y => ⟨by omega, fun _ z => by rw [(hFU4.cx 922 rfl _).1, show Xi U4 973 (q).toNat = _ from by omega]; exact (W209 (by omega)).2 (by omega) (by omega)⟩) W209 | exact fun x => absurd x (by omega)), ((KQ.w (KQ_FR w41 rfl (KQ_FR w29 rfl (by assumption : KQ T1 S _))) eU4 (by omega)))⟩
        · refine l_aload_n rfl rfl ?_
          refine l_gfi rfl rfl rfl rfl rfl ?_
          have w56 : (Xi T3 904 113) = (Xi T1 904 113) := (show Xi T3 904 113 = Xi T2 904 113 from w41.x _ _ rfl).trans ((show Xi T2 904 113 = Xi T1 904 113 from w29.x _ _ rfl))
          rw [w56]
          refine l_goto rfl rfl ?_
          refine l_iastore (n := 2400) rfl rfl (by omega) (by omega) (by unfold rg; omega) ?_
          obtain ⟨U5, eU5⟩ : ∃ T : sS, T = uI T3 973 ((q).toNat) (Int32.ofInt (Xi T1 904 113)) := ⟨_, rfl⟩
          rw [← eU5]
          have hHU5 : HI U5 := by rw [eU5]; exact HI_any hHT3 (rfl)
          have hFU5 : FR md_mo_testMeant S U5 := by rw [eU5]; exact FR.wI hFT3 (mdf_i (r := (973, 974, 0, 100000)) (List.mem_of_getElem? (i := 9) rfl) (inR_i (by omega) (by omega) (by omega) (by omega)))
          have w57 : Xi U5 973 ((q).toNat) = (Xi T1 904 113) := by rw [eU5]; exact Xi_same (by unfold rg; omega)
          refine l_goto rfl rfl ?_
          refine l_return rfl rfl ?_
          have w58 : Xi U5 969 (q).toNat = Xi T1 969 (q).toNat := (show Xi U5 969 (q).toNat = Xi T3 969 (q).toNat from by rw [eU5]; exact Xi_ne (by omega)).trans ( (show Xi T3 969 (q).toNat = Xi T2 969 (q).toNat from (w41.cx 969 rfl _).1).trans ((show Xi T2 969 (q).toNat = Xi T1 969 (q).toNat from (w29.cx 969 rfl _).1)))
          have w59 : Xi U5 971 (q).toNat = Xi T1 971 (q).toNat := (show Xi U5 971 (q).toNat = Xi T3 971 (q).toNat from by rw [eU5]; exact Xi_ne (by omega)).trans ( (show Xi T3 971 (q).toNat = Xi T2 971 (q).toNat from (w41.cx 971 rfl _).1).trans ((show Xi T2 971 (q).toNat = Xi T1 971 (q).toNat from (w29.cx 971 rfl _).1)))
          have w60 : Xi U5 972 (q).toNat = Xi T1 972 (q).toNat := (show Xi U5 972 (q).toNat = Xi T3 972 (q).toNat from by rw [eU5]; exact Xi_ne (by omega)).trans ( (show Xi T3 972 (q).toNat = Xi T2 972 (q).toNat from (w41.cx 972 rfl _).1).trans ((show Xi T2 972 (q).toNat = Xi T1 972 (q).toNat from (w29.cx 972 rfl _).1)))
          have w61 : Xi U5 974 (q).toNat = Xi T1 974 (q).toNat := (show Xi U5 974 (q).toNat = Xi T3 974 (q).toNat from by rw [eU5]; exact Xi_ne (by omega)).trans ( (show Xi T3 974 (q).toNat = Xi T2 974 (q).toNat from (w41.cx 974 rfl _).1).trans ((show Xi T2 974 (q).toNat = Xi T1 974 (q).toNat from (w29.cx 974 rfl _).1)))
          have w62 : Xi U5 975 (q).toNat = Xi T1 975 (q).toNat := (show Xi U5 975 (q).toNat = Xi T3 975 (q).toNat from by rw [eU5]; exact Xi_ne (by omega)).trans ( (show Xi T3 975 (q).toNat = Xi T2 975 (q).toNat from (w41.cx 975 rfl _).1).trans ((show Xi T2 975 (q).toNat = Xi T1 975 (q).toNat from (w29.cx 975 rfl _).1)))
          have w63 : Xi U5 904 106 = Xi T3 904 106 := (show Xi U5 904 106 = Xi T3 904 106 from by rw [eU5]; exact Xi_ne (by omega))
          have w64 : 0 ≤ Xi T3 904 106 ∧ Xi T3 904 106 ≤ 9 := hHT3.c _ _
          have w65 : Xi U5 904 113 = Xi T1 904 113 := (show Xi U5 904 113 = Xi T3 904 113 from by rw [eU5]; exact Xi_ne (by omega)).trans ( (show Xi T3 904 113 = Xi T2 904 113 from w41.x _ _ rfl).trans ((show Xi T2 904 113 = Xi T1 904 113 from w29.x _ _ rfl)))
          have w66 : -1 ≤ Xi T1 904 113 ∧ Xi T1 904 113 ≤ 6411 := hHT1.c _ _
          have w67 : Xi U5 904 69 = Xi T1 904 69 := (show Xi U5 904 69 = Xi T3 904 69 from by rw [eU5]; exact Xi_ne (by omega)).trans ( (show Xi T3 904 69 = Xi T2 904 69 from w41.x _ _ rfl).trans ((show Xi T2 904 69 = Xi T1 904 69 from w29.x _ _ rfl)))
          have w68 : 0 ≤ Xi T1 904 69 ∧ Xi T1 904 69 ≤ 2600 := hHT1.c _ _
          exact ⟨hHU5, hFU5, rfl, (by omega), (by first | exact (fun _ q => (by have s := f52 (by omega); exact tq_5 (by omega) (thk_c (b := 0 ≤ Xi S 904 115) (c := 0 ≤ Xi S 904 116) (S := S) (by have t := s.1; unfold thK at *; have a := h52; omega) (hFU5.x 904 19 rfl) (by omega)) (thk_c (S := S) (by have t := s.2.1; unfold thK at *; have a := h52; omega) (hFU5.x 904 19 rfl) (by omega)) (by have t := s.2.2; omega))) f52 | exact (fun _ q => tq_3 (by omega) (thk_c (H209) (hFU5.x 904 19 rfl) (by omega)) (adx_c (W209 (by omega)) (hFU5.x 904 23 rfl) (hFU5.x 904 32 rfl) (by omega))) W209 | exact (fun _ q => tq_4 (by omega) (thk_c (th107 (by omega)) (hFU5.x 904 19 rfl) (by omega))) q299 | exact (fun _ q => tq_2 (by omega) (thk_c (th107 (by omega)) (hFU5.x 904 19 rfl) (by omega)) (by have a := hFU5.x 904 32 rfl; omega) (fun _ => o386)) o386 | exact (fun _ q => tq_2 (by omega) (thk_c (th107 (by omega)) (hFU5.x 904 19 rfl) (by omega)) (by have a := hFU5.x 904 32 rfl; omega) (fun y => absurd y (by omega))) p337 | exact fun x => absurd x (by omega)), (by first | exact fun x y => ⟨by omega, fun z => absurd z (by omega)⟩ | exact (fun _ q => fun y => ⟨by omega, fun _ z => by rw [(hFU5.cx 922 rfl _).1, show Xi U5 973 (q).toNat = _ from by omega]; exact (W209 (by omega)).2 (by omega) (by omega)⟩) W209 | exact fun x => absurd x (by omega)), ((KQ.w (KQ_FR w41 rfl (KQ_FR w29 rfl (by assumption : KQ T1 S _))) eU5 (by omega)))⟩
      · refine l_iconst rfl ?_
        refine l_goto rfl rfl ?_
        refine l_bipush rfl rfl ?_
        refine l_aload_n rfl rfl ?_
        refine l_gfr rfl rfl rfl rfl rfl (hHT2.r 904 67 950 rfl) ?_
        refine l_iload rfl rfl ?_
        refine l_iaload (n := 2600) rfl rfl (by omega) (by omega) (by unfold rg; omega) ?_
        have w69 : (Xi T2 950 ((v5).toNat)) = (Xi T1 950 ((v5).toNat)) := (show Xi T2 950 ((v5).toNat) = Xi T1 950 ((v5).toNat) from w29.x _ _ rfl)
        rw [w69]
        have e251 : (Xi T1 950 ((v5).toNat)) = Xi S 950 (v5).toNat := by first | rfl | exact (hFT2.cx 950 rfl _).1
        have w70 : 0 ≤ Xi T2 904 106 ∧ Xi T2 904 106 ≤ 9 := hHT2.c _ _
        have w71 : Xi T2 904 113 = Xi T1 904 113 := (show Xi T2 904 113 = Xi T1 904 113 from w29.x _ _ rfl)
        have w72 : -1 ≤ Xi T1 904 113 ∧ Xi T1 904 113 ≤ 6411 := hHT1.c _ _
        have w73 : Xi T2 904 69 = Xi T1 904 69 := (show Xi T2 904 69 = Xi T1 904 69 from w29.x _ _ rfl)
        have w74 : 0 ≤ Xi T1 904 69 ∧ Xi T1 904 69 ≤ 2600 := hHT1.c _ _
        refine l_callV rfl rfl rfl (t_mo_need hHT2 1 7 (Xi T1 950 ((v5).toNat)) ⟨by omega, by omega⟩ ⟨by omega, by omega⟩ ⟨by omega, by omega⟩ _) ?_
        rintro _ T6 ⟨hHT6, w78, rfl, w75, w76⟩
        have hFT6 : FR md_mo_testMeant S T6 := FR.tr hFT2 w78 rfl
        show Rl _ _ _ _ _ [] _ _
        refine l_aload_n rfl rfl ?_
        refine l_gfr rfl rfl rfl rfl rfl (hHT6.r 904 122 973 rfl) ?_
        refine l_iload_n rfl rfl ?_
        refine l_iload rfl rfl ?_
        refine l_if_le rfl rfl (by unfold rg; omega) (fun w79 => ?_) (fun w80 => ?_)
        · refine l_iconst rfl ?_
          refine l_iastore (n := 2400) rfl rfl (by omega) (by omega) (by unfold rg; omega) ?_
          obtain ⟨U7, eU7⟩ : ∃ T : sS, T = uI T6 973 ((q).toNat) (Int32.ofInt 0) := ⟨_, rfl⟩
          rw [← eU7]
          have hHU7 : HI U7 := by rw [eU7]; exact HI_any hHT6 (rfl)
          have hFU7 : FR md_mo_testMeant S U7 := by rw [eU7]; exact FR.wI hFT6 (mdf_i (r := (973, 974, 0, 100000)) (List.mem_of_getElem? (i := 9) rfl) (inR_i (by omega) (by omega) (by omega) (by omega)))
          have w81 : Xi U7 973 ((q).toNat) = 0 := by rw [eU7]; exact Xi_same (by unfold rg; omega)
          refine l_goto rfl rfl ?_
          refine l_return rfl rfl ?_
          have w82 : Xi U7 969 (q).toNat = Xi T1 969 (q).toNat := (show Xi U7 969 (q).toNat = Xi T6 969 (q).toNat from by rw [eU7]; exact Xi_ne (by omega)).trans ( (show Xi T6 969 (q).toNat = Xi T2 969 (q).toNat from (w78.cx 969 rfl _).1).trans ((show Xi T2 969 (q).toNat = Xi T1 969 (q).toNat from (w29.cx 969 rfl _).1)))
          have w83 : Xi U7 971 (q).toNat = Xi T1 971 (q).toNat := (show Xi U7 971 (q).toNat = Xi T6 971 (q).toNat from by rw [eU7]; exact Xi_ne (by omega)).trans ( (show Xi T6 971 (q).toNat = Xi T2 971 (q).toNat from (w78.cx 971 rfl _).1).trans ((show Xi T2 971 (q).toNat = Xi T1 971 (q).toNat from (w29.cx 971 rfl _).1)))
          have w84 : Xi U7 972 (q).toNat = Xi T1 972 (q).toNat := (show Xi U7 972 (q).toNat = Xi T6 972 (q).toNat from by rw [eU7]; exact Xi_ne (by omega)).trans ( (show Xi T6 972 (q).toNat = Xi T2 972 (q).toNat from (w78.cx 972 rfl _).1).trans ((show Xi T2 972 (q).toNat = Xi T1 972 (q).toNat from (w29.cx 972 rfl _).1)))
          have w85 : Xi U7 974 (q).toNat = Xi T1 974 (q).toNat := (show Xi U7 974 (q).toNat = Xi T6 974 (q).toNat from by rw [eU7]; exact Xi_ne (by omega)).trans ( (show Xi T6 974 (q).toNat = Xi T2 974 (q).toNat from (w78.cx 974 rfl _).1).trans ((show Xi T2 974 (q).toNat = Xi T1 974 (q).toNat from (w29.cx 974 rfl _).1)))
          have w86 : Xi U7 975 (q).toNat = Xi T1 975 (q).toNat := (show Xi U7 975 (q).toNat = Xi T6 975 (q).toNat from by rw [eU7]; exact Xi_ne (by omega)).trans ( (show Xi T6 975 (q).toNat = Xi T2 975 (q).toNat from (w78.cx 975 rfl _).1).trans ((show Xi T2 975 (q).toNat = Xi T1 975 (q).toNat from (w29.cx 975 rfl _).1)))
          have w87 : Xi U7 904 106 = Xi T6 904 106 := (show Xi U7 904 106 = Xi T6 904 106 from by rw [eU7]; exact Xi_ne (by omega))
          have w88 : 0 ≤ Xi T6 904 106 ∧ Xi T6 904 106 ≤ 9 := hHT6.c _ _
          have w89 : Xi U7 904 113 = Xi T1 904 113 := (show Xi U7 904 113 = Xi T6 904 113 from by rw [eU7]; exact Xi_ne (by omega)).trans ( (show Xi T6 904 113 = Xi T2 904 113 from w78.x _ _ rfl).trans ((show Xi T2 904 113 = Xi T1 904 113 from w29.x _ _ rfl)))
          have w90 : -1 ≤ Xi T1 904 113 ∧ Xi T1 904 113 ≤ 6411 := hHT1.c _ _
          have w91 : Xi U7 904 69 = Xi T1 904 69 := (show Xi U7 904 69 = Xi T6 904 69 from by rw [eU7]; exact Xi_ne (by omega)).trans ( (show Xi T6 904 69 = Xi T2 904 69 from w78.x _ _ rfl).trans ((show Xi T2 904 69 = Xi T1 904 69 from w29.x _ _ rfl)))
          have w92 : 0 ≤ Xi T1 904 69 ∧ Xi T1 904 69 ≤ 2600 := hHT1.c _ _
          exact ⟨hHU7, hFU7, rfl, (by omega), (by first | exact (fun _ q => (by have s := f52 (by omega); exact tq_5 (by omega) (thk_c (b := 0 ≤ Xi S 904 115) (c := 0 ≤ Xi S 904 116) (S := S) (by have t := s.1; unfold thK at *; have a := h52; omega) (hFU7.x 904 19 rfl) (by omega)) (thk_c (S := S) (by have t := s.2.1; unfold thK at *; have a := h52; omega) (hFU7.x 904 19 rfl) (by omega)) (by have t := s.2.2; omega))) f52 | exact (fun _ q => tq_3 (by omega) (thk_c (H209) (hFU7.x 904 19 rfl) (by omega)) (adx_c (W209 (by omega)) (hFU7.x 904 23 rfl) (hFU7.x 904 32 rfl) (by omega))) W209 | exact (fun _ q => tq_4 (by omega) (thk_c (th107 (by omega)) (hFU7.x 904 19 rfl) (by omega))) q299 | exact (fun _ q => tq_2 (by omega) (thk_c (th107 (by omega)) (hFU7.x 904 19 rfl) (by omega)) (by have a := hFU7.x 904 32 rfl; omega) (fun _ => o386)) o386 | exact (fun _ q => tq_2 (by omega) (thk_c (th107 (by omega)) (hFU7.x 904 19 rfl) (by omega)) (by have a := hFU7.x 904 32 rfl; omega) (fun y => absurd y (by omega))) p337 | exact fun x => absurd x (by omega)), (by first | exact fun x y => ⟨by omega, fun z => absurd z (by omega)⟩ | exact (fun _ q => fun y => ⟨by omega, fun _ z => by rw [(hFU7.cx 922 rfl _).1, show Xi U7 973 (q).toNat = _ from by omega]; exact (W209 (by omega)).2 (by omega) (by omega)⟩) W209 | exact fun x => absurd x (by omega)), ((KQ.w (KQ_FR w78 rfl (KQ_FR w29 rfl (by assumption : KQ T1 S _))) eU7 (by omega)))⟩
        · refine l_aload_n rfl rfl ?_
          refine l_gfi rfl rfl rfl rfl rfl ?_
          have w93 : (Xi T6 904 113) = (Xi T1 904 113) := (show Xi T6 904 113 = Xi T2 904 113 from w78.x _ _ rfl).trans ((show Xi T2 904 113 = Xi T1 904 113 from w29.x _ _ rfl))
          rw [w93]
          refine l_goto rfl rfl ?_
          refine l_iastore (n := 2400) rfl rfl (by omega) (by omega) (by unfold rg; omega) ?_
          obtain ⟨U8, eU8⟩ : ∃ T : sS, T = uI T6 973 ((q).toNat) (Int32.ofInt (Xi T1 904 113)) := ⟨_, rfl⟩
          rw [← eU8]
          have hHU8 : HI U8 := by rw [eU8]; exact HI_any hHT6 (rfl)
          have hFU8 : FR md_mo_testMeant S U8 := by rw [eU8]; exact FR.wI hFT6 (mdf_i (r := (973, 974, 0, 100000)) (List.mem_of_getElem? (i := 9) rfl) (inR_i (by omega) (by omega) (by omega) (by omega)))
          have w94 : Xi U8 973 ((q).toNat) = (Xi T1 904 113) := by rw [eU8]; exact Xi_same (by unfold rg; omega)
          refine l_goto rfl rfl ?_
          refine l_return rfl rfl ?_
          have w95 : Xi U8 969 (q).toNat = Xi T1 969 (q).toNat := (show Xi U8 969 (q).toNat = Xi T6 969 (q).toNat from by rw [eU8]; exact Xi_ne (by omega)).trans ( (show Xi T6 969 (q).toNat = Xi T2 969 (q).toNat from (w78.cx 969 rfl _).1).trans ((show Xi T2 969 (q).toNat = Xi T1 969 (q).toNat from (w29.cx 969 rfl _).1)))
          have w96 : Xi U8 971 (q).toNat = Xi T1 971 (q).toNat := (show Xi U8 971 (q).toNat = Xi T6 971 (q).toNat from by rw [eU8]; exact Xi_ne (by omega)).trans ( (show Xi T6 971 (q).toNat = Xi T2 971 (q).toNat from (w78.cx 971 rfl _).1).trans ((show Xi T2 971 (q).toNat = Xi T1 971 (q).toNat from (w29.cx 971 rfl _).1)))
          have w97 : Xi U8 972 (q).toNat = Xi T1 972 (q).toNat := (show Xi U8 972 (q).toNat = Xi T6 972 (q).toNat from by rw [eU8]; exact Xi_ne (by omega)).trans ( (show Xi T6 972 (q).toNat = Xi T2 972 (q).toNat from (w78.cx 972 rfl _).1).trans ((show Xi T2 972 (q).toNat = Xi T1 972 (q).toNat from (w29.cx 972 rfl _).1)))
          have w98 : Xi U8 974 (q).toNat = Xi T1 974 (q).toNat := (show Xi U8 974 (q).toNat = Xi T6 974 (q).toNat from by rw [eU8]; exact Xi_ne (by omega)).trans ( (show Xi T6 974 (q).toNat = Xi T2 974 (q).toNat from (w78.cx 974 rfl _).1).trans ((show Xi T2 974 (q).toNat = Xi T1 974 (q).toNat from (w29.cx 974 rfl _).1)))
          have w99 : Xi U8 975 (q).toNat = Xi T1 975 (q).toNat := (show Xi U8 975 (q).toNat = Xi T6 975 (q).toNat from by rw [eU8]; exact Xi_ne (by omega)).trans ( (show Xi T6 975 (q).toNat = Xi T2 975 (q).toNat from (w78.cx 975 rfl _).1).trans ((show Xi T2 975 (q).toNat = Xi T1 975 (q).toNat from (w29.cx 975 rfl _).1)))
          have w100 : Xi U8 904 106 = Xi T6 904 106 := (show Xi U8 904 106 = Xi T6 904 106 from by rw [eU8]; exact Xi_ne (by omega))
          have w101 : 0 ≤ Xi T6 904 106 ∧ Xi T6 904 106 ≤ 9 := hHT6.c _ _
          have w102 : Xi U8 904 113 = Xi T1 904 113 := (show Xi U8 904 113 = Xi T6 904 113 from by rw [eU8]; exact Xi_ne (by omega)).trans ( (show Xi T6 904 113 = Xi T2 904 113 from w78.x _ _ rfl).trans ((show Xi T2 904 113 = Xi T1 904 113 from w29.x _ _ rfl)))
          have w103 : -1 ≤ Xi T1 904 113 ∧ Xi T1 904 113 ≤ 6411 := hHT1.c _ _
          have w104 : Xi U8 904 69 = Xi T1 904 69 := (show Xi U8 904 69 = Xi T6 904 69 from by rw [eU8]; exact Xi_ne (by omega)).trans ( (show Xi T6 904 69 = Xi T2 904 69 from w78.x _ _ rfl).trans ((show Xi T2 904 69 = Xi T1 904 69 from w29.x _ _ rfl)))
          have w105 : 0 ≤ Xi T1 904 69 ∧ Xi T1 904 69 ≤ 2600 := hHT1.c _ _
          exact ⟨hHU8, hFU8, rfl, (by omega), (by first | exact (fun _ q => (by have s := f52 (by omega); exact tq_5 (by omega) (thk_c (b := 0 ≤ Xi S 904 115) (c := 0 ≤ Xi S 904 116) (S := S) (by have t := s.1; unfold thK at *; have a := h52; omega) (hFU8.x 904 19 rfl) (by omega)) (thk_c (S := S) (by have t := s.2.1; unfold thK at *; have a := h52; omega) (hFU8.x 904 19 rfl) (by omega)) (by have t := s.2.2; omega))) f52 | exact (fun _ q => tq_3 (by omega) (thk_c (H209) (hFU8.x 904 19 rfl) (by omega)) (adx_c (W209 (by omega)) (hFU8.x 904 23 rfl) (hFU8.x 904 32 rfl) (by omega))) W209 | exact (fun _ q => tq_4 (by omega) (thk_c (th107 (by omega)) (hFU8.x 904 19 rfl) (by omega))) q299 | exact (fun _ q => tq_2 (by omega) (thk_c (th107 (by omega)) (hFU8.x 904 19 rfl) (by omega)) (by have a := hFU8.x 904 32 rfl; omega) (fun _ => o386)) o386 | exact (fun _ q => tq_2 (by omega) (thk_c (th107 (by omega)) (hFU8.x 904 19 rfl) (by omega)) (by have a := hFU8.x 904 32 rfl; omega) (fun y => absurd y (by omega))) p337 | exact fun x => absurd x (by omega)), (by first | exact fun x y => ⟨by omega, fun z => absurd z (by omega)⟩ | exact (fun _ q => fun y => ⟨by omega, fun _ z => by rw [(hFU8.cx 922 rfl _).1, show Xi U8 973 (q).toNat = _ from by omega]; exact (W209 (by omega)).2 (by omega) (by omega)⟩) W209 | exact fun x => absurd x (by omega)), ((KQ.w (KQ_FR w78 rfl (KQ_FR w29 rfl (by assumption : KQ T1 S _))) eU8 (by omega)))⟩
    · refine l_iconst rfl ?_
      refine l_goto rfl rfl ?_
      refine l_iconst rfl ?_
      refine l_aload_n rfl rfl ?_
      refine l_gfr rfl rfl rfl rfl rfl (hHT1.r 904 67 950 rfl) ?_
      refine l_iload rfl rfl ?_
      refine l_iaload (n := 2600) rfl rfl (by omega) (by omega) (by unfold rg; omega) ?_
      have w106 : 0 ≤ (Xi T1 950 ((v5).toNat)) ∧ (Xi T1 950 ((v5).toNat)) ≤ 5010 := hHT1.c _ _
      have e227 : (Xi T1 950 ((v5).toNat)) = Xi S 950 (v5).toNat := by first | rfl | exact (hFT1.cx 950 rfl _).1
      have w107 : 0 ≤ Xi T1 904 106 ∧ Xi T1 904 106 ≤ 9 := hHT1.c _ _
      have w108 : -1 ≤ Xi T1 904 113 ∧ Xi T1 904 113 ≤ 6411 := hHT1.c _ _
      have w109 : 0 ≤ Xi T1 904 69 ∧ Xi T1 904 69 ≤ 2600 := hHT1.c _ _
      refine l_callV rfl rfl rfl (t_mo_need hHT1 1 4 (Xi T1 950 ((v5).toNat)) ⟨by omega, by omega⟩ ⟨by omega, by omega⟩ ⟨by omega, by omega⟩ _) ?_
      rintro _ T9 ⟨hHT9, w113, rfl, w110, w111⟩
      have hFT9 : FR md_mo_testMeant S T9 := FR.tr hFT1 w113 rfl
      show Rl _ _ _ _ _ [] _ _
      refine l_aload_n rfl rfl ?_
      refine l_iload rfl rfl ?_
      refine l_iconst rfl ?_
      refine l_icmp_ge rfl rfl (by unfold rg; omega) (by unfold rg; omega) (fun w114 => ?_) (fun w115 => ?_)
      · refine l_iconst rfl ?_
        refine l_bipush rfl rfl ?_
        refine l_aload_n rfl rfl ?_
        refine l_gfr rfl rfl rfl rfl rfl (hHT9.r 904 67 950 rfl) ?_
        refine l_iload rfl rfl ?_
        refine l_iaload (n := 2600) rfl rfl (by omega) (by omega) (by unfold rg; omega) ?_
        have w116 : (Xi T9 950 ((v5).toNat)) = (Xi T1 950 ((v5).toNat)) := (show Xi T9 950 ((v5).toNat) = Xi T1 950 ((v5).toNat) from w113.x _ _ rfl)
        rw [w116]
        have e251 : (Xi T1 950 ((v5).toNat)) = Xi S 950 (v5).toNat := by first | rfl | exact (hFT9.cx 950 rfl _).1
        have w117 : 0 ≤ Xi T9 904 106 ∧ Xi T9 904 106 ≤ 9 := hHT9.c _ _
        have w118 : Xi T9 904 113 = Xi T1 904 113 := (show Xi T9 904 113 = Xi T1 904 113 from w113.x _ _ rfl)
        have w119 : -1 ≤ Xi T1 904 113 ∧ Xi T1 904 113 ≤ 6411 := hHT1.c _ _
        have w120 : Xi T9 904 69 = Xi T1 904 69 := (show Xi T9 904 69 = Xi T1 904 69 from w113.x _ _ rfl)
        have w121 : 0 ≤ Xi T1 904 69 ∧ Xi T1 904 69 ≤ 2600 := hHT1.c _ _
        refine l_callV rfl rfl rfl (t_mo_need hHT9 0 7 (Xi T1 950 ((v5).toNat)) ⟨by omega, by omega⟩ ⟨by omega, by omega⟩ ⟨by omega, by omega⟩ _) ?_
        rintro _ T10 ⟨hHT10, w125, rfl, w122, w123⟩
        have hFT10 : FR md_mo_testMeant S T10 := FR.tr hFT9 w125 rfl
        show Rl _ _ _ _ _ [] _ _
        refine l_aload_n rfl rfl ?_
        refine l_gfr rfl rfl rfl rfl rfl (hHT10.r 904 122 973 rfl) ?_
        refine l_iload_n rfl rfl ?_
        refine l_iload rfl rfl ?_
        refine l_if_le rfl rfl (by unfold rg; omega) (fun w126 => ?_) (fun w127 => ?_)
        · refine l_iconst rfl ?_
          refine l_iastore (n := 2400) rfl rfl (by omega) (by omega) (by unfold rg; omega) ?_
          obtain ⟨U11, eU11⟩ : ∃ T : sS, T = uI T10 973 ((q).toNat) (Int32.ofInt 0) := ⟨_, rfl⟩
          rw [← eU11]
          have hHU11 : HI U11 := by rw [eU11]; exact HI_any hHT10 (rfl)
          have hFU11 : FR md_mo_testMeant S U11 := by rw [eU11]; exact FR.wI hFT10 (mdf_i (r := (973, 974, 0, 100000)) (List.mem_of_getElem? (i := 9) rfl) (inR_i (by omega) (by omega) (by omega) (by omega)))
          have w128 : Xi U11 973 ((q).toNat) = 0 := by rw [eU11]; exact Xi_same (by unfold rg; omega)
          refine l_goto rfl rfl ?_
          refine l_return rfl rfl ?_
          have w129 : Xi U11 969 (q).toNat = Xi T1 969 (q).toNat := (show Xi U11 969 (q).toNat = Xi T10 969 (q).toNat from by rw [eU11]; exact Xi_ne (by omega)).trans ( (show Xi T10 969 (q).toNat = Xi T9 969 (q).toNat from (w125.cx 969 rfl _).1).trans ((show Xi T9 969 (q).toNat = Xi T1 969 (q).toNat from (w113.cx 969 rfl _).1)))
          have w130 : Xi U11 971 (q).toNat = Xi T1 971 (q).toNat := (show Xi U11 971 (q).toNat = Xi T10 971 (q).toNat from by rw [eU11]; exact Xi_ne (by omega)).trans ( (show Xi T10 971 (q).toNat = Xi T9 971 (q).toNat from (w125.cx 971 rfl _).1).trans ((show Xi T9 971 (q).toNat = Xi T1 971 (q).toNat from (w113.cx 971 rfl _).1)))
          have w131 : Xi U11 972 (q).toNat = Xi T1 972 (q).toNat := (show Xi U11 972 (q).toNat = Xi T10 972 (q).toNat from by rw [eU11]; exact Xi_ne (by omega)).trans ( (show Xi T10 972 (q).toNat = Xi T9 972 (q).toNat from (w125.cx 972 rfl _).1).trans ((show Xi T9 972 (q).toNat = Xi T1 972 (q).toNat from (w113.cx 972 rfl _).1)))
          have w132 : Xi U11 974 (q).toNat = Xi T1 974 (q).toNat := (show Xi U11 974 (q).toNat = Xi T10 974 (q).toNat from by rw [eU11]; exact Xi_ne (by omega)).trans ( (show Xi T10 974 (q).toNat = Xi T9 974 (q).toNat from (w125.cx 974 rfl _).1).trans ((show Xi T9 974 (q).toNat = Xi T1 974 (q).toNat from (w113.cx 974 rfl _).1)))
          have w133 : Xi U11 975 (q).toNat = Xi T1 975 (q).toNat := (show Xi U11 975 (q).toNat = Xi T10 975 (q).toNat from by rw [eU11]; exact Xi_ne (by omega)).trans ( (show Xi T10 975 (q).toNat = Xi T9 975 (q).toNat from (w125.cx 975 rfl _).1).trans ((show Xi T9 975 (q).toNat = Xi T1 975 (q).toNat from (w113.cx 975 rfl _).1)))
          have w134 : Xi U11 904 106 = Xi T10 904 106 := (show Xi U11 904 106 = Xi T10 904 106 from by rw [eU11]; exact Xi_ne (by omega))
          have w135 : 0 ≤ Xi T10 904 106 ∧ Xi T10 904 106 ≤ 9 := hHT10.c _ _
          have w136 : Xi U11 904 113 = Xi T1 904 113 := (show Xi U11 904 113 = Xi T10 904 113 from by rw [eU11]; exact Xi_ne (by omega)).trans ( (show Xi T10 904 113 = Xi T9 904 113 from w125.x _ _ rfl).trans ((show Xi T9 904 113 = Xi T1 904 113 from w113.x _ _ rfl)))
          have w137 : -1 ≤ Xi T1 904 113 ∧ Xi T1 904 113 ≤ 6411 := hHT1.c _ _
          have w138 : Xi U11 904 69 = Xi T1 904 69 := (show Xi U11 904 69 = Xi T10 904 69 from by rw [eU11]; exact Xi_ne (by omega)).trans ( (show Xi T10 904 69 = Xi T9 904 69 from w125.x _ _ rfl).trans ((show Xi T9 904 69 = Xi T1 904 69 from w113.x _ _ rfl)))
          have w139 : 0 ≤ Xi T1 904 69 ∧ Xi T1 904 69 ≤ 2600 := hHT1.c _ _
          exact ⟨hHU11, hFU11, rfl, (by omega), (by first | exact (fun _ q => (by have s := f52 (by omega); exact tq_5 (by omega) (thk_c (b := 0 ≤ Xi S 904 115) (c := 0 ≤ Xi S 904 116) (S := S) (by have t := s.1; unfold thK at *; have a := h52; omega) (hFU11.x 904 19 rfl) (by omega)) (thk_c (S := S) (by have t := s.2.1; unfold thK at *; have a := h52; omega) (hFU11.x 904 19 rfl) (by omega)) (by have t := s.2.2; omega))) f52 | exact (fun _ q => tq_3 (by omega) (thk_c (H209) (hFU11.x 904 19 rfl) (by omega)) (adx_c (W209 (by omega)) (hFU11.x 904 23 rfl) (hFU11.x 904 32 rfl) (by omega))) W209 | exact (fun _ q => tq_4 (by omega) (thk_c (th107 (by omega)) (hFU11.x 904 19 rfl) (by omega))) q299 | exact (fun _ q => tq_2 (by omega) (thk_c (th107 (by omega)) (hFU11.x 904 19 rfl) (by omega)) (by have a := hFU11.x 904 32 rfl; omega) (fun _ => o386)) o386 | exact (fun _ q => tq_2 (by omega) (thk_c (th107 (by omega)) (hFU11.x 904 19 rfl) (by omega)) (by have a := hFU11.x 904 32 rfl; omega) (fun y => absurd y (by omega))) p337 | exact fun x => absurd x (by omega)), (by first | exact fun x y => ⟨by omega, fun z => absurd z (by omega)⟩ | exact (fun _ q => fun y => ⟨by omega, fun _ z => by rw [(hFU11.cx 922 rfl _).1, show Xi U11 973 (q).toNat = _ from by omega]; exact (W209 (by omega)).2 (by omega) (by omega)⟩) W209 | exact fun x => absurd x (by omega)), ((KQ.w (KQ_FR w125 rfl (KQ_FR w113 rfl (by assumption : KQ T1 S _))) eU11 (by omega)))⟩
        · refine l_aload_n rfl rfl ?_
          refine l_gfi rfl rfl rfl rfl rfl ?_
          have w140 : (Xi T10 904 113) = (Xi T1 904 113) := (show Xi T10 904 113 = Xi T9 904 113 from w125.x _ _ rfl).trans ((show Xi T9 904 113 = Xi T1 904 113 from w113.x _ _ rfl))
          rw [w140]
          refine l_goto rfl rfl ?_
          refine l_iastore (n := 2400) rfl rfl (by omega) (by omega) (by unfold rg; omega) ?_
          obtain ⟨U12, eU12⟩ : ∃ T : sS, T = uI T10 973 ((q).toNat) (Int32.ofInt (Xi T1 904 113)) := ⟨_, rfl⟩
          rw [← eU12]
          have hHU12 : HI U12 := by rw [eU12]; exact HI_any hHT10 (rfl)
          have hFU12 : FR md_mo_testMeant S U12 := by rw [eU12]; exact FR.wI hFT10 (mdf_i (r := (973, 974, 0, 100000)) (List.mem_of_getElem? (i := 9) rfl) (inR_i (by omega) (by omega) (by omega) (by omega)))
          have w141 : Xi U12 973 ((q).toNat) = (Xi T1 904 113) := by rw [eU12]; exact Xi_same (by unfold rg; omega)
          refine l_goto rfl rfl ?_
          refine l_return rfl rfl ?_
          have w142 : Xi U12 969 (q).toNat = Xi T1 969 (q).toNat := (show Xi U12 969 (q).toNat = Xi T10 969 (q).toNat from by rw [eU12]; exact Xi_ne (by omega)).trans ( (show Xi T10 969 (q).toNat = Xi T9 969 (q).toNat from (w125.cx 969 rfl _).1).trans ((show Xi T9 969 (q).toNat = Xi T1 969 (q).toNat from (w113.cx 969 rfl _).1)))
          have w143 : Xi U12 971 (q).toNat = Xi T1 971 (q).toNat := (show Xi U12 971 (q).toNat = Xi T10 971 (q).toNat from by rw [eU12]; exact Xi_ne (by omega)).trans ( (show Xi T10 971 (q).toNat = Xi T9 971 (q).toNat from (w125.cx 971 rfl _).1).trans ((show Xi T9 971 (q).toNat = Xi T1 971 (q).toNat from (w113.cx 971 rfl _).1)))
          have w144 : Xi U12 972 (q).toNat = Xi T1 972 (q).toNat := (show Xi U12 972 (q).toNat = Xi T10 972 (q).toNat from by rw [eU12]; exact Xi_ne (by omega)).trans ( (show Xi T10 972 (q).toNat = Xi T9 972 (q).toNat from (w125.cx 972 rfl _).1).trans ((show Xi T9 972 (q).toNat = Xi T1 972 (q).toNat from (w113.cx 972 rfl _).1)))
          have w145 : Xi U12 974 (q).toNat = Xi T1 974 (q).toNat := (show Xi U12 974 (q).toNat = Xi T10 974 (q).toNat from by rw [eU12]; exact Xi_ne (by omega)).trans ( (show Xi T10 974 (q).toNat = Xi T9 974 (q).toNat from (w125.cx 974 rfl _).1).trans ((show Xi T9 974 (q).toNat = Xi T1 974 (q).toNat from (w113.cx 974 rfl _).1)))
          have w146 : Xi U12 975 (q).toNat = Xi T1 975 (q).toNat := (show Xi U12 975 (q).toNat = Xi T10 975 (q).toNat from by rw [eU12]; exact Xi_ne (by omega)).trans ( (show Xi T10 975 (q).toNat = Xi T9 975 (q).toNat from (w125.cx 975 rfl _).1).trans ((show Xi T9 975 (q).toNat = Xi T1 975 (q).toNat from (w113.cx 975 rfl _).1)))
          have w147 : Xi U12 904 106 = Xi T10 904 106 := (show Xi U12 904 106 = Xi T10 904 106 from by rw [eU12]; exact Xi_ne (by omega))
          have w148 : 0 ≤ Xi T10 904 106 ∧ Xi T10 904 106 ≤ 9 := hHT10.c _ _
          have w149 : Xi U12 904 113 = Xi T1 904 113 := (show Xi U12 904 113 = Xi T10 904 113 from by rw [eU12]; exact Xi_ne (by omega)).trans ( (show Xi T10 904 113 = Xi T9 904 113 from w125.x _ _ rfl).trans ((show Xi T9 904 113 = Xi T1 904 113 from w113.x _ _ rfl)))
          have w150 : -1 ≤ Xi T1 904 113 ∧ Xi T1 904 113 ≤ 6411 := hHT1.c _ _
          have w151 : Xi U12 904 69 = Xi T1 904 69 := (show Xi U12 904 69 = Xi T10 904 69 from by rw [eU12]; exact Xi_ne (by omega)).trans ( (show Xi T10 904 69 = Xi T9 904 69 from w125.x _ _ rfl).trans ((show Xi T9 904 69 = Xi T1 904 69 from w113.x _ _ rfl)))
          have w152 : 0 ≤ Xi T1 904 69 ∧ Xi T1 904 69 ≤ 2600 := hHT1.c _ _
          exact ⟨hHU12, hFU12, rfl, (by omega), (by first | exact (fun _ q => (by have s := f52 (by omega); exact tq_5 (by omega) (thk_c (b := 0 ≤ Xi S 904 115) (c := 0 ≤ Xi S 904 116) (S := S) (by have t := s.1; unfold thK at *; have a := h52; omega) (hFU12.x 904 19 rfl) (by omega)) (thk_c (S := S) (by have t := s.2.1; unfold thK at *; have a := h52; omega) (hFU12.x 904 19 rfl) (by omega)) (by have t := s.2.2; omega))) f52 | exact (fun _ q => tq_3 (by omega) (thk_c (H209) (hFU12.x 904 19 rfl) (by omega)) (adx_c (W209 (by omega)) (hFU12.x 904 23 rfl) (hFU12.x 904 32 rfl) (by omega))) W209 | exact (fun _ q => tq_4 (by omega) (thk_c (th107 (by omega)) (hFU12.x 904 19 rfl) (by omega))) q299 | exact (fun _ q => tq_2 (by omega) (thk_c (th107 (by omega)) (hFU12.x 904 19 rfl) (by omega)) (by have a := hFU12.x 904 32 rfl; omega) (fun _ => o386)) o386 | exact (fun _ q => tq_2 (by omega) (thk_c (th107 (by omega)) (hFU12.x 904 19 rfl) (by omega)) (by have a := hFU12.x 904 32 rfl; omega) (fun y => absurd y (by omega))) p337 | exact fun x => absurd x (by omega)), (by first | exact fun x y => ⟨by omega, fun z => absurd z (by omega)⟩ | exact (fun _ q => fun y => ⟨by omega, fun _ z => by rw [(hFU12.cx 922 rfl _).1, show Xi U12 973 (q).toNat = _ from by omega]; exact (W209 (by omega)).2 (by omega) (by omega)⟩) W209 | exact fun x => absurd x (by omega)), ((KQ.w (KQ_FR w125 rfl (KQ_FR w113 rfl (by assumption : KQ T1 S _))) eU12 (by omega)))⟩
      · refine l_iconst rfl ?_
        refine l_goto rfl rfl ?_
        refine l_bipush rfl rfl ?_
        refine l_aload_n rfl rfl ?_
        refine l_gfr rfl rfl rfl rfl rfl (hHT9.r 904 67 950 rfl) ?_
        refine l_iload rfl rfl ?_
        refine l_iaload (n := 2600) rfl rfl (by omega) (by omega) (by unfold rg; omega) ?_
        have w153 : (Xi T9 950 ((v5).toNat)) = (Xi T1 950 ((v5).toNat)) := (show Xi T9 950 ((v5).toNat) = Xi T1 950 ((v5).toNat) from w113.x _ _ rfl)
        rw [w153]
        have e251 : (Xi T1 950 ((v5).toNat)) = Xi S 950 (v5).toNat := by first | rfl | exact (hFT9.cx 950 rfl _).1
        have w154 : 0 ≤ Xi T9 904 106 ∧ Xi T9 904 106 ≤ 9 := hHT9.c _ _
        have w155 : Xi T9 904 113 = Xi T1 904 113 := (show Xi T9 904 113 = Xi T1 904 113 from w113.x _ _ rfl)
        have w156 : -1 ≤ Xi T1 904 113 ∧ Xi T1 904 113 ≤ 6411 := hHT1.c _ _
        have w157 : Xi T9 904 69 = Xi T1 904 69 := (show Xi T9 904 69 = Xi T1 904 69 from w113.x _ _ rfl)
        have w158 : 0 ≤ Xi T1 904 69 ∧ Xi T1 904 69 ≤ 2600 := hHT1.c _ _
        refine l_callV rfl rfl rfl (t_mo_need hHT9 1 7 (Xi T1 950 ((v5).toNat)) ⟨by omega, by omega⟩ ⟨by omega, by omega⟩ ⟨by omega, by omega⟩ _) ?_
        rintro _ T13 ⟨hHT13, w162, rfl, w159, w160⟩
        have hFT13 : FR md_mo_testMeant S T13 := FR.tr hFT9 w162 rfl
        show Rl _ _ _ _ _ [] _ _
        refine l_aload_n rfl rfl ?_
        refine l_gfr rfl rfl rfl rfl rfl (hHT13.r 904 122 973 rfl) ?_
        refine l_iload_n rfl rfl ?_
        refine l_iload rfl rfl ?_
        refine l_if_le rfl rfl (by unfold rg; omega) (fun w163 => ?_) (fun w164 => ?_)
        · refine l_iconst rfl ?_
          refine l_iastore (n := 2400) rfl rfl (by omega) (by omega) (by unfold rg; omega) ?_
          obtain ⟨U14, eU14⟩ : ∃ T : sS, T = uI T13 973 ((q).toNat) (Int32.ofInt 0) := ⟨_, rfl⟩
          rw [← eU14]
          have hHU14 : HI U14 := by rw [eU14]; exact HI_any hHT13 (rfl)
          have hFU14 : FR md_mo_testMeant S U14 := by rw [eU14]; exact FR.wI hFT13 (mdf_i (r := (973, 974, 0, 100000)) (List.mem_of_getElem? (i := 9) rfl) (inR_i (by omega) (by omega) (by omega) (by omega)))
          have w165 : Xi U14 973 ((q).toNat) = 0 := by rw [eU14]; exact Xi_same (by unfold rg; omega)
          refine l_goto rfl rfl ?_
          refine l_return rfl rfl ?_
          have w166 : Xi U14 969 (q).toNat = Xi T1 969 (q).toNat := (show Xi U14 969 (q).toNat = Xi T13 969 (q).toNat from by rw [eU14]; exact Xi_ne (by omega)).trans ( (show Xi T13 969 (q).toNat = Xi T9 969 (q).toNat from (w162.cx 969 rfl _).1).trans ((show Xi T9 969 (q).toNat = Xi T1 969 (q).toNat from (w113.cx 969 rfl _).1)))
          have w167 : Xi U14 971 (q).toNat = Xi T1 971 (q).toNat := (show Xi U14 971 (q).toNat = Xi T13 971 (q).toNat from by rw [eU14]; exact Xi_ne (by omega)).trans ( (show Xi T13 971 (q).toNat = Xi T9 971 (q).toNat from (w162.cx 971 rfl _).1).trans ((show Xi T9 971 (q).toNat = Xi T1 971 (q).toNat from (w113.cx 971 rfl _).1)))
          have w168 : Xi U14 972 (q).toNat = Xi T1 972 (q).toNat := (show Xi U14 972 (q).toNat = Xi T13 972 (q).toNat from by rw [eU14]; exact Xi_ne (by omega)).trans ( (show Xi T13 972 (q).toNat = Xi T9 972 (q).toNat from (w162.cx 972 rfl _).1).trans ((show Xi T9 972 (q).toNat = Xi T1 972 (q).toNat from (w113.cx 972 rfl _).1)))
          have w169 : Xi U14 974 (q).toNat = Xi T1 974 (q).toNat := (show Xi U14 974 (q).toNat = Xi T13 974 (q).toNat from by rw [eU14]; exact Xi_ne (by omega)).trans ( (show Xi T13 974 (q).toNat = Xi T9 974 (q).toNat from (w162.cx 974 rfl _).1).trans ((show Xi T9 974 (q).toNat = Xi T1 974 (q).toNat from (w113.cx 974 rfl _).1)))
          have w170 : Xi U14 975 (q).toNat = Xi T1 975 (q).toNat := (show Xi U14 975 (q).toNat = Xi T13 975 (q).toNat from by rw [eU14]; exact Xi_ne (by omega)).trans ( (show Xi T13 975 (q).toNat = Xi T9 975 (q).toNat from (w162.cx 975 rfl _).1).trans ((show Xi T9 975 (q).toNat = Xi T1 975 (q).toNat from (w113.cx 975 rfl _).1)))
          have w171 : Xi U14 904 106 = Xi T13 904 106 := (show Xi U14 904 106 = Xi T13 904 106 from by rw [eU14]; exact Xi_ne (by omega))
          have w172 : 0 ≤ Xi T13 904 106 ∧ Xi T13 904 106 ≤ 9 := hHT13.c _ _
          have w173 : Xi U14 904 113 = Xi T1 904 113 := (show Xi U14 904 113 = Xi T13 904 113 from by rw [eU14]; exact Xi_ne (by omega)).trans ( (show Xi T13 904 113 = Xi T9 904 113 from w162.x _ _ rfl).trans ((show Xi T9 904 113 = Xi T1 904 113 from w113.x _ _ rfl)))
          have w174 : -1 ≤ Xi T1 904 113 ∧ Xi T1 904 113 ≤ 6411 := hHT1.c _ _
          have w175 : Xi U14 904 69 = Xi T1 904 69 := (show Xi U14 904 69 = Xi T13 904 69 from by rw [eU14]; exact Xi_ne (by omega)).trans ( (show Xi T13 904 69 = Xi T9 904 69 from w162.x _ _ rfl).trans ((show Xi T9 904 69 = Xi T1 904 69 from w113.x _ _ rfl)))
          have w176 : 0 ≤ Xi T1 904 69 ∧ Xi T1 904 69 ≤ 2600 := hHT1.c _ _
          exact ⟨hHU14, hFU14, rfl, (by omega), (by first | exact (fun _ q => (by have s := f52 (by omega); exact tq_5 (by omega) (thk_c (b := 0 ≤ Xi S 904 115) (c := 0 ≤ Xi S 904 116) (S := S) (by have t := s.1; unfold thK at *; have a := h52; omega) (hFU14.x 904 19 rfl) (by omega)) (thk_c (S := S) (by have t := s.2.1; unfold thK at *; have a := h52; omega) (hFU14.x 904 19 rfl) (by omega)) (by have t := s.2.2; omega))) f52 | exact (fun _ q => tq_3 (by omega) (thk_c (H209) (hFU14.x 904 19 rfl) (by omega)) (adx_c (W209 (by omega)) (hFU14.x 904 23 rfl) (hFU14.x 904 32 rfl) (by omega))) W209 | exact (fun _ q => tq_4 (by omega) (thk_c (th107 (by omega)) (hFU14.x 904 19 rfl) (by omega))) q299 | exact (fun _ q => tq_2 (by omega) (thk_c (th107 (by omega)) (hFU14.x 904 19 rfl) (by omega)) (by have a := hFU14.x 904 32 rfl; omega) (fun _ => o386)) o386 | exact (fun _ q => tq_2 (by omega) (thk_c (th107 (by omega)) (hFU14.x 904 19 rfl) (by omega)) (by have a := hFU14.x 904 32 rfl; omega) (fun y => absurd y (by omega))) p337 | exact fun x => absurd x (by omega)), (by first | exact fun x y => ⟨by omega, fun z => absurd z (by omega)⟩ | exact (fun _ q => fun y => ⟨by omega, fun _ z => by rw [(hFU14.cx 922 rfl _).1, show Xi U14 973 (q).toNat = _ from by omega]; exact (W209 (by omega)).2 (by omega) (by omega)⟩) W209 | exact fun x => absurd x (by omega)), ((KQ.w (KQ_FR w162 rfl (KQ_FR w113 rfl (by assumption : KQ T1 S _))) eU14 (by omega)))⟩
        · refine l_aload_n rfl rfl ?_
          refine l_gfi rfl rfl rfl rfl rfl ?_
          have w177 : (Xi T13 904 113) = (Xi T1 904 113) := (show Xi T13 904 113 = Xi T9 904 113 from w162.x _ _ rfl).trans ((show Xi T9 904 113 = Xi T1 904 113 from w113.x _ _ rfl))
          rw [w177]
          refine l_goto rfl rfl ?_
          refine l_iastore (n := 2400) rfl rfl (by omega) (by omega) (by unfold rg; omega) ?_
          obtain ⟨U15, eU15⟩ : ∃ T : sS, T = uI T13 973 ((q).toNat) (Int32.ofInt (Xi T1 904 113)) := ⟨_, rfl⟩
          rw [← eU15]
          have hHU15 : HI U15 := by rw [eU15]; exact HI_any hHT13 (rfl)
          have hFU15 : FR md_mo_testMeant S U15 := by rw [eU15]; exact FR.wI hFT13 (mdf_i (r := (973, 974, 0, 100000)) (List.mem_of_getElem? (i := 9) rfl) (inR_i (by omega) (by omega) (by omega) (by omega)))
          have w178 : Xi U15 973 ((q).toNat) = (Xi T1 904 113) := by rw [eU15]; exact Xi_same (by unfold rg; omega)
          refine l_goto rfl rfl ?_
          refine l_return rfl rfl ?_
          have w179 : Xi U15 969 (q).toNat = Xi T1 969 (q).toNat := (show Xi U15 969 (q).toNat = Xi T13 969 (q).toNat from by rw [eU15]; exact Xi_ne (by omega)).trans ( (show Xi T13 969 (q).toNat = Xi T9 969 (q).toNat from (w162.cx 969 rfl _).1).trans ((show Xi T9 969 (q).toNat = Xi T1 969 (q).toNat from (w113.cx 969 rfl _).1)))
          have w180 : Xi U15 971 (q).toNat = Xi T1 971 (q).toNat := (show Xi U15 971 (q).toNat = Xi T13 971 (q).toNat from by rw [eU15]; exact Xi_ne (by omega)).trans ( (show Xi T13 971 (q).toNat = Xi T9 971 (q).toNat from (w162.cx 971 rfl _).1).trans ((show Xi T9 971 (q).toNat = Xi T1 971 (q).toNat from (w113.cx 971 rfl _).1)))
          have w181 : Xi U15 972 (q).toNat = Xi T1 972 (q).toNat := (show Xi U15 972 (q).toNat = Xi T13 972 (q).toNat from by rw [eU15]; exact Xi_ne (by omega)).trans ( (show Xi T13 972 (q).toNat = Xi T9 972 (q).toNat from (w162.cx 972 rfl _).1).trans ((show Xi T9 972 (q).toNat = Xi T1 972 (q).toNat from (w113.cx 972 rfl _).1)))
          have w182 : Xi U15 974 (q).toNat = Xi T1 974 (q).toNat := (show Xi U15 974 (q).toNat = Xi T13 974 (q).toNat from by rw [eU15]; exact Xi_ne (by omega)).trans ( (show Xi T13 974 (q).toNat = Xi T9 974 (q).toNat from (w162.cx 974 rfl _).1).trans ((show Xi T9 974 (q).toNat = Xi T1 974 (q).toNat from (w113.cx 974 rfl _).1)))
          have w183 : Xi U15 975 (q).toNat = Xi T1 975 (q).toNat := (show Xi U15 975 (q).toNat = Xi T13 975 (q).toNat from by rw [eU15]; exact Xi_ne (by omega)).trans ( (show Xi T13 975 (q).toNat = Xi T9 975 (q).toNat from (w162.cx 975 rfl _).1).trans ((show Xi T9 975 (q).toNat = Xi T1 975 (q).toNat from (w113.cx 975 rfl _).1)))
          have w184 : Xi U15 904 106 = Xi T13 904 106 := (show Xi U15 904 106 = Xi T13 904 106 from by rw [eU15]; exact Xi_ne (by omega))
          have w185 : 0 ≤ Xi T13 904 106 ∧ Xi T13 904 106 ≤ 9 := hHT13.c _ _
          have w186 : Xi U15 904 113 = Xi T1 904 113 := (show Xi U15 904 113 = Xi T13 904 113 from by rw [eU15]; exact Xi_ne (by omega)).trans ( (show Xi T13 904 113 = Xi T9 904 113 from w162.x _ _ rfl).trans ((show Xi T9 904 113 = Xi T1 904 113 from w113.x _ _ rfl)))
          have w187 : -1 ≤ Xi T1 904 113 ∧ Xi T1 904 113 ≤ 6411 := hHT1.c _ _
          have w188 : Xi U15 904 69 = Xi T1 904 69 := (show Xi U15 904 69 = Xi T13 904 69 from by rw [eU15]; exact Xi_ne (by omega)).trans ( (show Xi T13 904 69 = Xi T9 904 69 from w162.x _ _ rfl).trans ((show Xi T9 904 69 = Xi T1 904 69 from w113.x _ _ rfl)))
          have w189 : 0 ≤ Xi T1 904 69 ∧ Xi T1 904 69 ≤ 2600 := hHT1.c _ _
          exact ⟨hHU15, hFU15, rfl, (by omega), (by first | exact (fun _ q => (by have s := f52 (by omega); exact tq_5 (by omega) (thk_c (b := 0 ≤ Xi S 904 115) (c := 0 ≤ Xi S 904 116) (S := S) (by have t := s.1; unfold thK at *; have a := h52; omega) (hFU15.x 904 19 rfl) (by omega)) (thk_c (S := S) (by have t := s.2.1; unfold thK at *; have a := h52; omega) (hFU15.x 904 19 rfl) (by omega)) (by have t := s.2.2; omega))) f52 | exact (fun _ q => tq_3 (by omega) (thk_c (H209) (hFU15.x 904 19 rfl) (by omega)) (adx_c (W209 (by omega)) (hFU15.x 904 23 rfl) (hFU15.x 904 32 rfl) (by omega))) W209 | exact (fun _ q => tq_4 (by omega) (thk_c (th107 (by omega)) (hFU15.x 904 19 rfl) (by omega))) q299 | exact (fun _ q => tq_2 (by omega) (thk_c (th107 (by omega)) (hFU15.x 904 19 rfl) (by omega)) (by have a := hFU15.x 904 32 rfl; omega) (fun _ => o386)) o386 | exact (fun _ q => tq_2 (by omega) (thk_c (th107 (by omega)) (hFU15.x 904 19 rfl) (by omega)) (by have a := hFU15.x 904 32 rfl; omega) (fun y => absurd y (by omega))) p337 | exact fun x => absurd x (by omega)), (by first | exact fun x y => ⟨by omega, fun z => absurd z (by omega)⟩ | exact (fun _ q => fun y => ⟨by omega, fun _ z => by rw [(hFU15.cx 922 rfl _).1, show Xi U15 973 (q).toNat = _ from by omega]; exact (W209 (by omega)).2 (by omega) (by omega)⟩) W209 | exact fun x => absurd x (by omega)), ((KQ.w (KQ_FR w162 rfl (KQ_FR w113 rfl (by assumption : KQ T1 S _))) eU15 (by omega)))⟩
  refine l_aload_n rfl rfl ?_
  refine l_gfr rfl rfl rfl rfl rfl (hH.r 904 118 969 rfl) ?_
  refine l_iload_n rfl rfl ?_
  refine l_aload_n rfl rfl ?_
  refine l_gfr rfl rfl rfl rfl rfl (hH.r 904 82 952 rfl) ?_
  refine l_iload_n rfl rfl ?_
  refine l_iaload (n := 1700) rfl rfl (by omega) (by omega) (by unfold rg; omega) ?_
  have w190 : 0 ≤ (Xi S 952 ((i).toNat)) ∧ (Xi S 952 ((i).toNat)) ≤ 5 := hH.c _ _
  refine l_iastore (n := 2400) rfl rfl (by omega) (by omega) (by unfold rg; omega) ?_
  obtain ⟨U16, eU16⟩ : ∃ T : sS, T = uI S 969 ((q).toNat) (Int32.ofInt (Xi S 952 ((i).toNat))) := ⟨_, rfl⟩
  rw [← eU16]
  have hHU16 : HI U16 := by rw [eU16]; exact HI_w hH (show 0 ≤ (Xi S 952 ((i).toNat)) by omega) (show (Xi S 952 ((i).toNat)) ≤ 5 by omega)
  have hFU16 : FR md_mo_testMeant S U16 := by rw [eU16]; exact FR.wI hF (mdf_i (r := (969, 970, 0, 100000)) (List.mem_of_getElem? (i := 5) rfl) (inR_i (by omega) (by omega) (by omega) (by omega)))
  have w191 : Xi U16 969 ((q).toNat) = (Xi S 952 ((i).toNat)) := by rw [eU16]; exact Xi_same (by unfold rg; omega)
  refine l_aload_n rfl rfl ?_
  refine l_gfr rfl rfl rfl rfl rfl (hHU16.r 904 119 970 rfl) ?_
  refine l_iload_n rfl rfl ?_
  refine l_aload_n rfl rfl ?_
  refine l_gfr rfl rfl rfl rfl rfl (hHU16.r 904 83 953 rfl) ?_
  refine l_iload_n rfl rfl ?_
  refine l_baload (n := 1700) rfl rfl rfl (by decide) (by omega) (by omega) (by unfold rg; omega) ?_
  have w192 : 0 ≤ (Xi U16 953 ((i).toNat)) ∧ (Xi U16 953 ((i).toNat)) ≤ 1 := hHU16.c _ _
  refine l_bastoreZ1 (n := 2400) rfl rfl (by omega) (by omega) (by unfold rg; omega) ⟨by omega, by omega⟩ ?_
  obtain ⟨U17, eU17⟩ : ∃ T : sS, T = uI U16 970 ((q).toNat) (Int32.ofInt (Xi U16 953 ((i).toNat))) := ⟨_, rfl⟩
  rw [← eU17]
  have hHU17 : HI U17 := by rw [eU17]; exact HI_w hHU16 (show 0 ≤ (Xi U16 953 ((i).toNat)) by omega) (show (Xi U16 953 ((i).toNat)) ≤ 1 by omega)
  have hFU17 : FR md_mo_testMeant S U17 := by rw [eU17]; exact FR.wI hFU16 (mdf_i (r := (970, 971, 0, 100000)) (List.mem_of_getElem? (i := 6) rfl) (inR_i (by omega) (by omega) (by omega) (by omega)))
  have w193 : Xi U17 970 ((q).toNat) = (Xi U16 953 ((i).toNat)) := by rw [eU17]; exact Xi_same (by unfold rg; omega)
  refine l_aload_n rfl rfl ?_
  refine l_gfr rfl rfl rfl rfl rfl (hHU17.r 904 82 952 rfl) ?_
  refine l_iload_n rfl rfl ?_
  refine l_iaload (n := 1700) rfl rfl (by omega) (by omega) (by unfold rg; omega) ?_
  have w194 : (Xi U17 952 ((i).toNat)) = (Xi S 952 ((i).toNat)) := (show Xi U17 952 ((i).toNat) = Xi U16 952 ((i).toNat) from by rw [eU17]; exact Xi_ne (by omega)).trans ((show Xi U16 952 ((i).toNat) = Xi S 952 ((i).toNat) from by rw [eU16]; exact Xi_ne (by omega)))
  rw [w194]
  have e29 : (Xi S 952 ((i).toNat)) = Xi S 952 (i).toNat := by first | rfl | exact (hFU17.cx 952 rfl _).1
  refine l_iconst rfl ?_
  refine l_icmp_ne rfl rfl (by unfold rg; omega) (by unfold rg; omega) (fun w195 => ?_) (fun w196 => ?_)
  · refine l_aload_n rfl rfl ?_
    refine l_aload_n rfl rfl ?_
    refine l_gfr rfl rfl rfl rfl rfl (hHU17.r 904 84 954 rfl) ?_
    refine l_iload_n rfl rfl ?_
    refine l_iaload (n := 1700) rfl rfl (by omega) (by omega) (by unfold rg; omega) ?_
    have w197 : 0 ≤ (Xi U17 954 ((i).toNat)) ∧ (Xi U17 954 ((i).toNat)) ≤ 25010 := hHU17.c _ _
    have e100 : (Xi U17 954 ((i).toNat)) = Xi S 954 (i).toNat := by first | rfl | exact (hFU17.cx 954 rfl _).1
    refine l_aload_n rfl rfl ?_
    refine l_gfr rfl rfl rfl rfl rfl (hHU17.r 904 85 955 rfl) ?_
    refine l_iload_n rfl rfl ?_
    refine l_iaload (n := 1700) rfl rfl (by omega) (by omega) (by unfold rg; omega) ?_
    have w198 : 0 ≤ (Xi U17 955 ((i).toNat)) ∧ (Xi U17 955 ((i).toNat)) ≤ 2600 := hHU17.c _ _
    have e106 : (Xi U17 955 ((i).toNat)) = Xi S 955 (i).toNat := by first | rfl | exact (hFU17.cx 955 rfl _).1
    have q106 := q_thv (htv.2.1 (by omega)) e100 e106 (hFU17.x 904 69 rfl) hn5
    have w199 : Xi U17 904 106 = Xi S 904 106 := (show Xi U17 904 106 = Xi U16 904 106 from by rw [eU17]; exact Xi_ne (by omega)).trans ((show Xi U16 904 106 = Xi S 904 106 from by rw [eU16]; exact Xi_ne (by omega)))
    have w200 : 0 ≤ Xi S 904 106 ∧ Xi S 904 106 ≤ 9 := hH.c _ _
    have w201 : Xi U17 904 113 = Xi S 904 113 := (show Xi U17 904 113 = Xi U16 904 113 from by rw [eU17]; exact Xi_ne (by omega)).trans ((show Xi U16 904 113 = Xi S 904 113 from by rw [eU16]; exact Xi_ne (by omega)))
    have w202 : -1 ≤ Xi S 904 113 ∧ Xi S 904 113 ≤ 6411 := hH.c _ _
    have w203 : Xi U17 904 19 = Xi S 904 19 := (show Xi U17 904 19 = Xi U16 904 19 from by rw [eU17]; exact Xi_ne (by omega)).trans ((show Xi U16 904 19 = Xi S 904 19 from by rw [eU16]; exact Xi_ne (by omega)))
    have w204 : 0 ≤ Xi S 904 19 ∧ Xi S 904 19 ≤ 24 := hH.c _ _
    have w205 : Xi U17 904 69 = Xi S 904 69 := (show Xi U17 904 69 = Xi U16 904 69 from by rw [eU17]; exact Xi_ne (by omega)).trans ((show Xi U16 904 69 = Xi S 904 69 from by rw [eU16]; exact Xi_ne (by omega)))
    have w206 : 0 ≤ Xi S 904 69 ∧ Xi S 904 69 ≤ 2600 := hH.c _ _
    refine l_callV rfl rfl rfl (t_mo_meant hHU17 n (Xi U17 954 ((i).toNat)) (Xi U17 955 ((i).toNat)) ⟨by omega, by omega⟩ ⟨by omega, by omega⟩ (by first | assumption | exact (TK_FR hFU17 rfl (by assumption : TK S _))) (by first | assumption | exact (RNV_FR hFU17 rfl (by assumption : RNV S _))) (by first | exact q299.1 | exact q106.1) (by first | exact q299.2 | exact q106.2) (by first | assumption | exact (LXM_FR hFU17 rfl (by assumption : LXM S))) _) ?_
    rintro _ T18 ⟨hHT18, w213, z212, rfl, w212, w207, w208, w209, w210, w211⟩
    have hFT18 : FR md_mo_testMeant S T18 := FR.tr hFU17 w213 rfl
    show Rl _ _ _ _ _ [iv z212] _ _
    have th107 : z212 ≠ -9 → thK S (0 ≤ Xi S 904 115) (0 ≤ Xi S 904 116) z212 := fun x => by unfold thK; have a := hFU17.x 904 19 rfl; have b := hFT18.x 904 115 rfl; have c := hFT18.x 904 116 rfl; omega
    refine l_istore rfl rfl rfl ?_
    refine l_aload_n rfl rfl ?_
    refine l_gfr rfl rfl rfl rfl rfl (hHT18.r 904 120 971 rfl) ?_
    refine l_iload_n rfl rfl ?_
    refine l_iload rfl rfl ?_
    refine l_iastore (n := 2400) rfl rfl (by omega) (by omega) (by unfold rg; omega) ?_
    obtain ⟨U19, eU19⟩ : ∃ T : sS, T = uI T18 971 ((q).toNat) (Int32.ofInt z212) := ⟨_, rfl⟩
    rw [← eU19]
    have hHU19 : HI U19 := by rw [eU19]; exact HI_w hHT18 (show -9 ≤ z212 by omega) (show z212 ≤ 23 by omega)
    have hFU19 : FR md_mo_testMeant S U19 := by rw [eU19]; exact FR.wI hFT18 (mdf_i (r := (971, 972, 0, 100000)) (List.mem_of_getElem? (i := 7) rfl) (inR_i (by omega) (by omega) (by omega) (by omega)))
    have w214 : Xi U19 971 ((q).toNat) = z212 := by rw [eU19]; exact Xi_same (by unfold rg; omega)
    refine l_aload_n rfl rfl ?_
    refine l_gfr rfl rfl rfl rfl rfl (hHU19.r 904 82 952 rfl) ?_
    refine l_iload_n rfl rfl ?_
    refine l_iaload (n := 1700) rfl rfl (by omega) (by omega) (by unfold rg; omega) ?_
    have w215 : (Xi U19 952 ((i).toNat)) = (Xi S 952 ((i).toNat)) := (show Xi U19 952 ((i).toNat) = Xi T18 952 ((i).toNat) from by rw [eU19]; exact Xi_ne (by omega)).trans ( (show Xi T18 952 ((i).toNat) = Xi U17 952 ((i).toNat) from w213.x _ _ rfl).trans ( (show Xi U17 952 ((i).toNat) = Xi U16 952 ((i).toNat) from by rw [eU17]; exact Xi_ne (by omega)).trans ((show Xi U16 952 ((i).toNat) = Xi S 952 ((i).toNat) from by rw [eU16]; exact Xi_ne (by omega)))))
    rw [w215]
    have e125 : (Xi S 952 ((i).toNat)) = Xi S 952 (i).toNat := by first | rfl | exact (hFU19.cx 952 rfl _).1
    refine l_iconst rfl ?_
    refine l_icmp_ne rfl rfl (by unfold rg; omega) (by unfold rg; omega) (fun w216 => ?_) (fun w217 => ?_)
    · refine l_aload_n rfl rfl ?_
      refine l_gfr rfl rfl rfl rfl rfl (hHU19.r 904 82 952 rfl) ?_
      refine l_iload_n rfl rfl ?_
      refine l_iaload (n := 1700) rfl rfl (by omega) (by omega) (by unfold rg; omega) ?_
      have w218 : (Xi U19 952 ((i).toNat)) = (Xi S 952 ((i).toNat)) := (show Xi U19 952 ((i).toNat) = Xi T18 952 ((i).toNat) from by rw [eU19]; exact Xi_ne (by omega)).trans ( (show Xi T18 952 ((i).toNat) = Xi U17 952 ((i).toNat) from w213.x _ _ rfl).trans ( (show Xi U17 952 ((i).toNat) = Xi U16 952 ((i).toNat) from by rw [eU17]; exact Xi_ne (by omega)).trans ((show Xi U16 952 ((i).toNat) = Xi S 952 ((i).toNat) from by rw [eU16]; exact Xi_ne (by omega)))))
      rw [w218]
      have e282 : (Xi S 952 ((i).toNat)) = Xi S 952 (i).toNat := by first | rfl | exact (hFU19.cx 952 rfl _).1
      refine l_iconst rfl ?_
      refine l_icmp_ne rfl rfl (by unfold rg; omega) (by unfold rg; omega) (fun w219 => ?_) (fun w220 => ?_)
      · refine l_aload_n rfl rfl ?_
        refine l_aload_n rfl rfl ?_
        refine l_gfr rfl rfl rfl rfl rfl (hHU19.r 904 86 956 rfl) ?_
        refine l_iload_n rfl rfl ?_
        refine l_iaload (n := 1700) rfl rfl (by omega) (by omega) (by unfold rg; omega) ?_
        have w221 : 0 ≤ (Xi U19 956 ((i).toNat)) ∧ (Xi U19 956 ((i).toNat)) ≤ 2600 := hHU19.c _ _
        have e334 : (Xi U19 956 ((i).toNat)) = Xi S 956 (i).toNat := by first | rfl | exact (hFU19.cx 956 rfl _).1
        refine l_iload rfl rfl ?_
        have w222 : Xi U19 904 106 = Xi T18 904 106 := (show Xi U19 904 106 = Xi T18 904 106 from by rw [eU19]; exact Xi_ne (by omega))
        have w223 : 0 ≤ Xi T18 904 106 ∧ Xi T18 904 106 ≤ 9 := hHT18.c _ _
        have w224 : Xi U19 904 113 = Xi S 904 113 := (show Xi U19 904 113 = Xi T18 904 113 from by rw [eU19]; exact Xi_ne (by omega)).trans ( (show Xi T18 904 113 = Xi U17 904 113 from w213.x _ _ rfl).trans ( (show Xi U17 904 113 = Xi U16 904 113 from by rw [eU17]; exact Xi_ne (by omega)).trans ((show Xi U16 904 113 = Xi S 904 113 from by rw [eU16]; exact Xi_ne (by omega)))))
        have w225 : -1 ≤ Xi S 904 113 ∧ Xi S 904 113 ≤ 6411 := hH.c _ _
        have w226 : Xi U19 904 32 = Xi S 904 32 := (show Xi U19 904 32 = Xi T18 904 32 from by rw [eU19]; exact Xi_ne (by omega)).trans ( (show Xi T18 904 32 = Xi U17 904 32 from w213.x _ _ rfl).trans ( (show Xi U17 904 32 = Xi U16 904 32 from by rw [eU17]; exact Xi_ne (by omega)).trans ((show Xi U16 904 32 = Xi S 904 32 from by rw [eU16]; exact Xi_ne (by omega)))))
        have w227 : 0 ≤ Xi S 904 32 ∧ Xi S 904 32 ≤ 12 := hH.c _ _
        have w228 : Xi U19 904 69 = Xi S 904 69 := (show Xi U19 904 69 = Xi T18 904 69 from by rw [eU19]; exact Xi_ne (by omega)).trans ( (show Xi T18 904 69 = Xi U17 904 69 from w213.x _ _ rfl).trans ( (show Xi U17 904 69 = Xi U16 904 69 from by rw [eU17]; exact Xi_ne (by omega)).trans ((show Xi U16 904 69 = Xi S 904 69 from by rw [eU16]; exact Xi_ne (by omega)))))
        have w229 : 0 ≤ Xi S 904 69 ∧ Xi S 904 69 ≤ 2600 := hH.c _ _
        refine l_callV rfl rfl rfl (t_mo_propertyMeant__2 hHU19 n (Xi U19 956 ((i).toNat)) z212 ⟨by omega, by omega⟩ ⟨by omega, by omega⟩ (by first | assumption | exact (TK_FR hFU19 rfl (by assumption : TK S _))) (by first | assumption | exact (RNV_FR hFU19 rfl (by assumption : RNV S _))) (by first | assumption | omega) (by first | assumption | exact (LXM_FR hFU19 rfl (by assumption : LXM S))) (by first | assumption | exact (ABV_FR hFU19 rfl (by assumption : ABV S))) (by first | assumption | omega) _) ?_
        rintro _ T20 ⟨hHT20, w235, z234, rfl, w234, p337, w230, w231, w232, w233⟩
        have hFT20 : FR md_mo_testMeant S T20 := FR.tr hFU19 w235 rfl
        show Rl _ _ _ _ _ [iv z234] _ _
        refine l_istore rfl rfl rfl ?_
        refine l_aload_n rfl rfl ?_
        refine l_gfr rfl rfl rfl rfl rfl (hHT20.r 904 121 972 rfl) ?_
        refine l_iload_n rfl rfl ?_
        refine l_iload rfl rfl ?_
        refine l_iastore (n := 2400) rfl rfl (by omega) (by omega) (by unfold rg; omega) ?_
        obtain ⟨U21, eU21⟩ : ∃ T : sS, T = uI T20 972 ((q).toNat) (Int32.ofInt z234) := ⟨_, rfl⟩
        rw [← eU21]
        have hHU21 : HI U21 := by rw [eU21]; exact HI_w hHT20 (show -1 ≤ z234 by omega) (show z234 ≤ 11 by omega)
        have hFU21 : FR md_mo_testMeant S U21 := by rw [eU21]; exact FR.wI hFT20 (mdf_i (r := (972, 973, 0, 100000)) (List.mem_of_getElem? (i := 8) rfl) (inR_i (by omega) (by omega) (by omega) (by omega)))
        have w236 : Xi U21 972 ((q).toNat) = z234 := by rw [eU21]; exact Xi_same (by unfold rg; omega)
        refine l_iload rfl rfl ?_
        refine l_iconst rfl ?_
        refine l_icmp_eq rfl rfl (by unfold rg; omega) (by unfold rg; omega) (fun w237 => ?_) (fun w238 => ?_)
        · refine l_aload_n rfl rfl ?_
          refine l_gfr rfl rfl rfl rfl rfl (hHU21.r 904 82 952 rfl) ?_
          refine l_iload_n rfl rfl ?_
          refine l_iaload (n := 1700) rfl rfl (by omega) (by omega) (by unfold rg; omega) ?_
          have w239 : (Xi U21 952 ((i).toNat)) = (Xi S 952 ((i).toNat)) := (show Xi U21 952 ((i).toNat) = Xi T20 952 ((i).toNat) from by rw [eU21]; exact Xi_ne (by omega)).trans ( (show Xi T20 952 ((i).toNat) = Xi U19 952 ((i).toNat) from w235.x _ _ rfl).trans ( (show Xi U19 952 ((i).toNat) = Xi T18 952 ((i).toNat) from by rw [eU19]; exact Xi_ne (by omega)).trans ( (show Xi T18 952 ((i).toNat) = Xi U17 952 ((i).toNat) from w213.x _ _ rfl).trans ( (show Xi U17 952 ((i).toNat) = Xi U16 952 ((i).toNat) from by rw [eU17]; exact Xi_ne (by omega)).trans ((show Xi U16 952 ((i).toNat) = Xi S 952 ((i).toNat) from by rw [eU16]; exact Xi_ne (by omega)))))))
          rw [w239]
          have e397 : (Xi S 952 ((i).toNat)) = Xi S 952 (i).toNat := by first | rfl | exact (hFU21.cx 952 rfl _).1
          refine l_if_eq rfl rfl (by unfold rg; omega) (fun w240 => ?_) (fun w241 => ?_)
          · refine l_return rfl rfl ?_
            have w242 : Xi U21 969 (q).toNat = Xi U16 969 (q).toNat := (show Xi U21 969 (q).toNat = Xi T20 969 (q).toNat from by rw [eU21]; exact Xi_ne (by omega)).trans ( (show Xi T20 969 (q).toNat = Xi U19 969 (q).toNat from (w235.cx 969 rfl _).1).trans ( (show Xi U19 969 (q).toNat = Xi T18 969 (q).toNat from by rw [eU19]; exact Xi_ne (by omega)).trans ( (show Xi T18 969 (q).toNat = Xi U17 969 (q).toNat from (w213.cx 969 rfl _).1).trans ((show Xi U17 969 (q).toNat = Xi U16 969 (q).toNat from by rw [eU17]; exact Xi_ne (by omega))))))
            have w243 : Xi U21 971 (q).toNat = Xi U19 971 (q).toNat := (show Xi U21 971 (q).toNat = Xi T20 971 (q).toNat from by rw [eU21]; exact Xi_ne (by omega)).trans ((show Xi T20 971 (q).toNat = Xi U19 971 (q).toNat from (w235.cx 971 rfl _).1))
            have w244 : Xi U21 973 (q).toNat = Xi S 973 (q).toNat := (show Xi U21 973 (q).toNat = Xi T20 973 (q).toNat from by rw [eU21]; exact Xi_ne (by omega)).trans ( (show Xi T20 973 (q).toNat = Xi U19 973 (q).toNat from (w235.cx 973 rfl _).1).trans ( (show Xi U19 973 (q).toNat = Xi T18 973 (q).toNat from by rw [eU19]; exact Xi_ne (by omega)).trans ( (show Xi T18 973 (q).toNat = Xi U17 973 (q).toNat from (w213.cx 973 rfl _).1).trans ( (show Xi U17 973 (q).toNat = Xi U16 973 (q).toNat from by rw [eU17]; exact Xi_ne (by omega)).trans ((show Xi U16 973 (q).toNat = Xi S 973 (q).toNat from by rw [eU16]; exact Xi_ne (by omega)))))))
            have w245 : Xi U21 974 (q).toNat = Xi S 974 (q).toNat := (show Xi U21 974 (q).toNat = Xi T20 974 (q).toNat from by rw [eU21]; exact Xi_ne (by omega)).trans ( (show Xi T20 974 (q).toNat = Xi U19 974 (q).toNat from (w235.cx 974 rfl _).1).trans ( (show Xi U19 974 (q).toNat = Xi T18 974 (q).toNat from by rw [eU19]; exact Xi_ne (by omega)).trans ( (show Xi T18 974 (q).toNat = Xi U17 974 (q).toNat from (w213.cx 974 rfl _).1).trans ( (show Xi U17 974 (q).toNat = Xi U16 974 (q).toNat from by rw [eU17]; exact Xi_ne (by omega)).trans ((show Xi U16 974 (q).toNat = Xi S 974 (q).toNat from by rw [eU16]; exact Xi_ne (by omega)))))))
            have w246 : Xi U21 975 (q).toNat = Xi S 975 (q).toNat := (show Xi U21 975 (q).toNat = Xi T20 975 (q).toNat from by rw [eU21]; exact Xi_ne (by omega)).trans ( (show Xi T20 975 (q).toNat = Xi U19 975 (q).toNat from (w235.cx 975 rfl _).1).trans ( (show Xi U19 975 (q).toNat = Xi T18 975 (q).toNat from by rw [eU19]; exact Xi_ne (by omega)).trans ( (show Xi T18 975 (q).toNat = Xi U17 975 (q).toNat from (w213.cx 975 rfl _).1).trans ( (show Xi U17 975 (q).toNat = Xi U16 975 (q).toNat from by rw [eU17]; exact Xi_ne (by omega)).trans ((show Xi U16 975 (q).toNat = Xi S 975 (q).toNat from by rw [eU16]; exact Xi_ne (by omega)))))))
            have w247 : Xi U21 904 106 = Xi T20 904 106 := (show Xi U21 904 106 = Xi T20 904 106 from by rw [eU21]; exact Xi_ne (by omega))
            have w248 : 0 ≤ Xi T20 904 106 ∧ Xi T20 904 106 ≤ 9 := hHT20.c _ _
            have w249 : Xi U21 904 113 = Xi S 904 113 := (show Xi U21 904 113 = Xi T20 904 113 from by rw [eU21]; exact Xi_ne (by omega)).trans ( (show Xi T20 904 113 = Xi U19 904 113 from w235.x _ _ rfl).trans ( (show Xi U19 904 113 = Xi T18 904 113 from by rw [eU19]; exact Xi_ne (by omega)).trans ( (show Xi T18 904 113 = Xi U17 904 113 from w213.x _ _ rfl).trans ( (show Xi U17 904 113 = Xi U16 904 113 from by rw [eU17]; exact Xi_ne (by omega)).trans ((show Xi U16 904 113 = Xi S 904 113 from by rw [eU16]; exact Xi_ne (by omega)))))))
            have w250 : -1 ≤ Xi S 904 113 ∧ Xi S 904 113 ≤ 6411 := hH.c _ _
            have w251 : Xi U21 904 69 = Xi S 904 69 := (show Xi U21 904 69 = Xi T20 904 69 from by rw [eU21]; exact Xi_ne (by omega)).trans ( (show Xi T20 904 69 = Xi U19 904 69 from w235.x _ _ rfl).trans ( (show Xi U19 904 69 = Xi T18 904 69 from by rw [eU19]; exact Xi_ne (by omega)).trans ( (show Xi T18 904 69 = Xi U17 904 69 from w213.x _ _ rfl).trans ( (show Xi U17 904 69 = Xi U16 904 69 from by rw [eU17]; exact Xi_ne (by omega)).trans ((show Xi U16 904 69 = Xi S 904 69 from by rw [eU16]; exact Xi_ne (by omega)))))))
            have w252 : 0 ≤ Xi S 904 69 ∧ Xi S 904 69 ≤ 2600 := hH.c _ _
            exact ⟨hHU21, hFU21, rfl, (by omega), (by first | exact (fun _ q => (by have s := f52 (by omega); exact tq_5 (by omega) (thk_c (b := 0 ≤ Xi S 904 115) (c := 0 ≤ Xi S 904 116) (S := S) (by have t := s.1; unfold thK at *; have a := h52; omega) (hFU21.x 904 19 rfl) (by omega)) (thk_c (S := S) (by have t := s.2.1; unfold thK at *; have a := h52; omega) (hFU21.x 904 19 rfl) (by omega)) (by have t := s.2.2; omega))) f52 | exact (fun _ q => tq_3 (by omega) (thk_c (H209) (hFU21.x 904 19 rfl) (by omega)) (adx_c (W209 (by omega)) (hFU21.x 904 23 rfl) (hFU21.x 904 32 rfl) (by omega))) W209 | exact (fun _ q => tq_4 (by omega) (thk_c (th107 (by omega)) (hFU21.x 904 19 rfl) (by omega))) q299 | exact (fun _ q => tq_2 (by omega) (thk_c (th107 (by omega)) (hFU21.x 904 19 rfl) (by omega)) (by have a := hFU21.x 904 32 rfl; omega) (fun _ => o386)) o386 | exact (fun _ q => tq_2 (by omega) (thk_c (th107 (by omega)) (hFU21.x 904 19 rfl) (by omega)) (by have a := hFU21.x 904 32 rfl; omega) (fun y => absurd y (by omega))) p337 | exact fun x => absurd x (by omega)), (by first | exact fun x y => ⟨by omega, fun z => absurd z (by omega)⟩ | exact (fun _ q => fun y => ⟨by omega, fun _ z => by rw [(hFU21.cx 922 rfl _).1, show Xi U21 973 (q).toNat = _ from by omega]; exact (W209 (by omega)).2 (by omega) (by omega)⟩) W209 | exact fun x => absurd x (by omega)), ((KQ.w (KQ_FR w235 rfl (KQ.w (KQ_FR w213 rfl (KQ.w (KQ.w KQ.rf eU16 (by omega)) eU17 (by omega))) eU19 (by omega))) eU21 (by omega)))⟩
          · refine l_aload_n rfl rfl ?_
            refine l_aload_n rfl rfl ?_
            refine l_gfr rfl rfl rfl rfl rfl (hHU21.r 904 86 956 rfl) ?_
            refine l_iload_n rfl rfl ?_
            refine l_iaload (n := 1700) rfl rfl (by omega) (by omega) (by unfold rg; omega) ?_
            have w253 : (Xi U21 956 ((i).toNat)) = (Xi U19 956 ((i).toNat)) := (show Xi U21 956 ((i).toNat) = Xi T20 956 ((i).toNat) from by rw [eU21]; exact Xi_ne (by omega)).trans ((show Xi T20 956 ((i).toNat) = Xi U19 956 ((i).toNat) from w235.x _ _ rfl))
            rw [w253]
            have e407 : (Xi U19 956 ((i).toNat)) = Xi S 956 (i).toNat := by first | rfl | exact (hFU21.cx 956 rfl _).1
            have w254 : Xi U21 904 106 = Xi T20 904 106 := (show Xi U21 904 106 = Xi T20 904 106 from by rw [eU21]; exact Xi_ne (by omega))
            have w255 : 0 ≤ Xi T20 904 106 ∧ Xi T20 904 106 ≤ 9 := hHT20.c _ _
            have w256 : Xi U21 904 113 = Xi S 904 113 := (show Xi U21 904 113 = Xi T20 904 113 from by rw [eU21]; exact Xi_ne (by omega)).trans ( (show Xi T20 904 113 = Xi U19 904 113 from w235.x _ _ rfl).trans ( (show Xi U19 904 113 = Xi T18 904 113 from by rw [eU19]; exact Xi_ne (by omega)).trans ( (show Xi T18 904 113 = Xi U17 904 113 from w213.x _ _ rfl).trans ( (show Xi U17 904 113 = Xi U16 904 113 from by rw [eU17]; exact Xi_ne (by omega)).trans ((show Xi U16 904 113 = Xi S 904 113 from by rw [eU16]; exact Xi_ne (by omega)))))))
            have w257 : -1 ≤ Xi S 904 113 ∧ Xi S 904 113 ≤ 6411 := hH.c _ _
            have w258 : Xi U21 904 69 = Xi S 904 69 := (show Xi U21 904 69 = Xi T20 904 69 from by rw [eU21]; exact Xi_ne (by omega)).trans ( (show Xi T20 904 69 = Xi U19 904 69 from w235.x _ _ rfl).trans ( (show Xi U19 904 69 = Xi T18 904 69 from by rw [eU19]; exact Xi_ne (by omega)).trans ( (show Xi T18 904 69 = Xi U17 904 69 from w213.x _ _ rfl).trans ( (show Xi U17 904 69 = Xi U16 904 69 from by rw [eU17]; exact Xi_ne (by omega)).trans ((show Xi U16 904 69 = Xi S 904 69 from by rw [eU16]; exact Xi_ne (by omega)))))))
            have w259 : 0 ≤ Xi S 904 69 ∧ Xi S 904 69 ≤ 2600 := hH.c _ _
            refine l_callV rfl rfl rfl (t_mo_numberMeant__2 hHU21 n (Xi U19 956 ((i).toNat)) ⟨by omega, by omega⟩ (by first | assumption | exact (TK_FR hFU21 rfl (by assumption : TK S _))) (by first | assumption | exact (RNV_FR hFU21 rfl (by assumption : RNV S _))) (by first | assumption | omega) (by first | assumption | exact (LXM_FR hFU21 rfl (by assumption : LXM S))) _) ?_
            rintro _ T22 ⟨hHT22, w263, rfl, w260, w261⟩
            have hFT22 : FR md_mo_testMeant S T22 := FR.tr hFU21 w263 rfl
            show Rl _ _ _ _ _ [] _ _
            refine l_aload_n rfl rfl ?_
            refine l_gfr rfl rfl rfl rfl rfl (hHT22.r 904 122 973 rfl) ?_
            refine l_iload_n rfl rfl ?_
            refine l_aload_n rfl rfl ?_
            refine l_gfr rfl rfl rfl rfl rfl (hHT22.r 904 7 910 rfl) ?_
            refine l_aload_n rfl rfl ?_
            refine l_gfr rfl rfl rfl rfl rfl (hHT22.r 904 87 957 rfl) ?_
            refine l_iload_n rfl rfl ?_
            refine l_iaload (n := 1700) rfl rfl (by omega) (by omega) (by unfold rg; omega) ?_
            have w264 : 0 ≤ (Xi T22 957 ((i).toNat)) ∧ (Xi T22 957 ((i).toNat)) ≤ 5010 := hHT22.c _ _
            have e425 : (Xi T22 957 ((i).toNat)) = Xi S 957 (i).toNat := by first | rfl | exact (hFT22.cx 957 rfl _).1
            refine l_laload (n := 5002) rfl rfl (by omega) (by omega) (by unfold rg; omega) ?_
            have w265 : -9223372036854775808 ≤ (Xj T22 910 (((Xi T22 957 ((i).toNat))).toNat)) ∧ (Xj T22 910 (((Xi T22 957 ((i).toNat))).toNat)) < 9223372036854775808 := Xj_rg
            refine l_l2iA rfl (fun c266 w266 => ?_)
            refine l_iastore (n := 2400) rfl rfl (by omega) (by omega) (by unfold rg; omega) ?_
            obtain ⟨U23, eU23⟩ : ∃ T : sS, T = uI T22 973 ((q).toNat) (Int32.ofInt c266) := ⟨_, rfl⟩
            rw [← eU23]
            have hHU23 : HI U23 := by rw [eU23]; exact HI_any hHT22 (rfl)
            have hFU23 : FR md_mo_testMeant S U23 := by rw [eU23]; exact FR.wI hFT22 (mdf_i (r := (973, 974, 0, 100000)) (List.mem_of_getElem? (i := 9) rfl) (inR_i (by omega) (by omega) (by omega) (by omega)))
            have w267 : Xi U23 973 ((q).toNat) = c266 := by rw [eU23]; exact Xi_same (by unfold rg; omega)
            refine l_return rfl rfl ?_
            have w268 : Xi U23 969 (q).toNat = Xi U16 969 (q).toNat := (show Xi U23 969 (q).toNat = Xi T22 969 (q).toNat from by rw [eU23]; exact Xi_ne (by omega)).trans ( (show Xi T22 969 (q).toNat = Xi U21 969 (q).toNat from (w263.cx 969 rfl _).1).trans ( (show Xi U21 969 (q).toNat = Xi T20 969 (q).toNat from by rw [eU21]; exact Xi_ne (by omega)).trans ( (show Xi T20 969 (q).toNat = Xi U19 969 (q).toNat from (w235.cx 969 rfl _).1).trans ( (show Xi U19 969 (q).toNat = Xi T18 969 (q).toNat from by rw [eU19]; exact Xi_ne (by omega)).trans ( (show Xi T18 969 (q).toNat = Xi U17 969 (q).toNat from (w213.cx 969 rfl _).1).trans ((show Xi U17 969 (q).toNat = Xi U16 969 (q).toNat from by rw [eU17]; exact Xi_ne (by omega))))))))
            have w269 : Xi U23 971 (q).toNat = Xi U19 971 (q).toNat := (show Xi U23 971 (q).toNat = Xi T22 971 (q).toNat from by rw [eU23]; exact Xi_ne (by omega)).trans ( (show Xi T22 971 (q).toNat = Xi U21 971 (q).toNat from (w263.cx 971 rfl _).1).trans ( (show Xi U21 971 (q).toNat = Xi T20 971 (q).toNat from by rw [eU21]; exact Xi_ne (by omega)).trans ((show Xi T20 971 (q).toNat = Xi U19 971 (q).toNat from (w235.cx 971 rfl _).1))))
            have w270 : Xi U23 972 (q).toNat = Xi U21 972 (q).toNat := (show Xi U23 972 (q).toNat = Xi T22 972 (q).toNat from by rw [eU23]; exact Xi_ne (by omega)).trans ((show Xi T22 972 (q).toNat = Xi U21 972 (q).toNat from (w263.cx 972 rfl _).1))
            have w271 : Xi U23 974 (q).toNat = Xi S 974 (q).toNat := (show Xi U23 974 (q).toNat = Xi T22 974 (q).toNat from by rw [eU23]; exact Xi_ne (by omega)).trans ( (show Xi T22 974 (q).toNat = Xi U21 974 (q).toNat from (w263.cx 974 rfl _).1).trans ( (show Xi U21 974 (q).toNat = Xi T20 974 (q).toNat from by rw [eU21]; exact Xi_ne (by omega)).trans ( (show Xi T20 974 (q).toNat = Xi U19 974 (q).toNat from (w235.cx 974 rfl _).1).trans ( (show Xi U19 974 (q).toNat = Xi T18 974 (q).toNat from by rw [eU19]; exact Xi_ne (by omega)).trans ( (show Xi T18 974 (q).toNat = Xi U17 974 (q).toNat from (w213.cx 974 rfl _).1).trans ( (show Xi U17 974 (q).toNat = Xi U16 974 (q).toNat from by rw [eU17]; exact Xi_ne (by omega)).trans ((show Xi U16 974 (q).toNat = Xi S 974 (q).toNat from by rw [eU16]; exact Xi_ne (by omega)))))))))
            have w272 : Xi U23 975 (q).toNat = Xi S 975 (q).toNat := (show Xi U23 975 (q).toNat = Xi T22 975 (q).toNat from by rw [eU23]; exact Xi_ne (by omega)).trans ( (show Xi T22 975 (q).toNat = Xi U21 975 (q).toNat from (w263.cx 975 rfl _).1).trans ( (show Xi U21 975 (q).toNat = Xi T20 975 (q).toNat from by rw [eU21]; exact Xi_ne (by omega)).trans ( (show Xi T20 975 (q).toNat = Xi U19 975 (q).toNat from (w235.cx 975 rfl _).1).trans ( (show Xi U19 975 (q).toNat = Xi T18 975 (q).toNat from by rw [eU19]; exact Xi_ne (by omega)).trans ( (show Xi T18 975 (q).toNat = Xi U17 975 (q).toNat from (w213.cx 975 rfl _).1).trans ( (show Xi U17 975 (q).toNat = Xi U16 975 (q).toNat from by rw [eU17]; exact Xi_ne (by omega)).trans ((show Xi U16 975 (q).toNat = Xi S 975 (q).toNat from by rw [eU16]; exact Xi_ne (by omega)))))))))
            have w273 : Xi U23 904 106 = Xi T22 904 106 := (show Xi U23 904 106 = Xi T22 904 106 from by rw [eU23]; exact Xi_ne (by omega))
            have w274 : 0 ≤ Xi T22 904 106 ∧ Xi T22 904 106 ≤ 9 := hHT22.c _ _
            have w275 : Xi U23 904 113 = Xi S 904 113 := (show Xi U23 904 113 = Xi T22 904 113 from by rw [eU23]; exact Xi_ne (by omega)).trans ( (show Xi T22 904 113 = Xi U21 904 113 from w263.x _ _ rfl).trans ( (show Xi U21 904 113 = Xi T20 904 113 from by rw [eU21]; exact Xi_ne (by omega)).trans ( (show Xi T20 904 113 = Xi U19 904 113 from w235.x _ _ rfl).trans ( (show Xi U19 904 113 = Xi T18 904 113 from by rw [eU19]; exact Xi_ne (by omega)).trans ( (show Xi T18 904 113 = Xi U17 904 113 from w213.x _ _ rfl).trans ( (show Xi U17 904 113 = Xi U16 904 113 from by rw [eU17]; exact Xi_ne (by omega)).trans ((show Xi U16 904 113 = Xi S 904 113 from by rw [eU16]; exact Xi_ne (by omega)))))))))
            have w276 : -1 ≤ Xi S 904 113 ∧ Xi S 904 113 ≤ 6411 := hH.c _ _
            have w277 : Xi U23 904 69 = Xi S 904 69 := (show Xi U23 904 69 = Xi T22 904 69 from by rw [eU23]; exact Xi_ne (by omega)).trans ( (show Xi T22 904 69 = Xi U21 904 69 from w263.x _ _ rfl).trans ( (show Xi U21 904 69 = Xi T20 904 69 from by rw [eU21]; exact Xi_ne (by omega)).trans ( (show Xi T20 904 69 = Xi U19 904 69 from w235.x _ _ rfl).trans ( (show Xi U19 904 69 = Xi T18 904 69 from by rw [eU19]; exact Xi_ne (by omega)).trans ( (show Xi T18 904 69 = Xi U17 904 69 from w213.x _ _ rfl).trans ( (show Xi U17 904 69 = Xi U16 904 69 from by rw [eU17]; exact Xi_ne (by omega)).trans ((show Xi U16 904 69 = Xi S 904 69 from by rw [eU16]; exact Xi_ne (by omega)))))))))
            have w278 : 0 ≤ Xi S 904 69 ∧ Xi S 904 69 ≤ 2600 := hH.c _ _
            exact ⟨hHU23, hFU23, rfl, (by omega), (by first | exact (fun _ q => (by have s := f52 (by omega); exact tq_5 (by omega) (thk_c (b := 0 ≤ Xi S 904 115) (c := 0 ≤ Xi S 904 116) (S := S) (by have t := s.1; unfold thK at *; have a := h52; omega) (hFU23.x 904 19 rfl) (by omega)) (thk_c (S := S) (by have t := s.2.1; unfold thK at *; have a := h52; omega) (hFU23.x 904 19 rfl) (by omega)) (by have t := s.2.2; omega))) f52 | exact (fun _ q => tq_3 (by omega) (thk_c (H209) (hFU23.x 904 19 rfl) (by omega)) (adx_c (W209 (by omega)) (hFU23.x 904 23 rfl) (hFU23.x 904 32 rfl) (by omega))) W209 | exact (fun _ q => tq_4 (by omega) (thk_c (th107 (by omega)) (hFU23.x 904 19 rfl) (by omega))) q299 | exact (fun _ q => tq_2 (by omega) (thk_c (th107 (by omega)) (hFU23.x 904 19 rfl) (by omega)) (by have a := hFU23.x 904 32 rfl; omega) (fun _ => o386)) o386 | exact (fun _ q => tq_2 (by omega) (thk_c (th107 (by omega)) (hFU23.x 904 19 rfl) (by omega)) (by have a := hFU23.x 904 32 rfl; omega) (fun y => absurd y (by omega))) p337 | exact fun x => absurd x (by omega)), (by first | exact fun x y => ⟨by omega, fun z => absurd z (by omega)⟩ | exact (fun _ q => fun y => ⟨by omega, fun _ z => by rw [(hFU23.cx 922 rfl _).1, show Xi U23 973 (q).toNat = _ from by omega]; exact (W209 (by omega)).2 (by omega) (by omega)⟩) W209 | exact fun x => absurd x (by omega)), ((KQ.w (KQ_FR w263 rfl (KQ.w (KQ_FR w235 rfl (KQ.w (KQ_FR w213 rfl (KQ.w (KQ.w KQ.rf eU16 (by omega)) eU17 (by omega))) eU19 (by omega))) eU21 (by omega))) eU23 (by omega)))⟩
        · refine l_aload_n rfl rfl ?_
          refine l_gfr rfl rfl rfl rfl rfl (hHU21.r 904 82 952 rfl) ?_
          refine l_iload_n rfl rfl ?_
          refine l_iaload (n := 1700) rfl rfl (by omega) (by omega) (by unfold rg; omega) ?_
          have w279 : (Xi U21 952 ((i).toNat)) = (Xi S 952 ((i).toNat)) := (show Xi U21 952 ((i).toNat) = Xi T20 952 ((i).toNat) from by rw [eU21]; exact Xi_ne (by omega)).trans ( (show Xi T20 952 ((i).toNat) = Xi U19 952 ((i).toNat) from w235.x _ _ rfl).trans ( (show Xi U19 952 ((i).toNat) = Xi T18 952 ((i).toNat) from by rw [eU19]; exact Xi_ne (by omega)).trans ( (show Xi T18 952 ((i).toNat) = Xi U17 952 ((i).toNat) from w213.x _ _ rfl).trans ( (show Xi U17 952 ((i).toNat) = Xi U16 952 ((i).toNat) from by rw [eU17]; exact Xi_ne (by omega)).trans ((show Xi U16 952 ((i).toNat) = Xi S 952 ((i).toNat) from by rw [eU16]; exact Xi_ne (by omega)))))))
          rw [w279]
          have e361 : (Xi S 952 ((i).toNat)) = Xi S 952 (i).toNat := by first | rfl | exact (hFU21.cx 952 rfl _).1
          refine l_if_ne rfl rfl (by unfold rg; omega) (fun w280 => ?_) (fun w281 => ?_)
          · refine l_aload_n rfl rfl ?_
            refine l_gfr rfl rfl rfl rfl rfl (hHU21.r 904 82 952 rfl) ?_
            refine l_iload_n rfl rfl ?_
            refine l_iaload (n := 1700) rfl rfl (by omega) (by omega) (by unfold rg; omega) ?_
            have w282 : (Xi U21 952 ((i).toNat)) = (Xi S 952 ((i).toNat)) := (show Xi U21 952 ((i).toNat) = Xi T20 952 ((i).toNat) from by rw [eU21]; exact Xi_ne (by omega)).trans ( (show Xi T20 952 ((i).toNat) = Xi U19 952 ((i).toNat) from w235.x _ _ rfl).trans ( (show Xi U19 952 ((i).toNat) = Xi T18 952 ((i).toNat) from by rw [eU19]; exact Xi_ne (by omega)).trans ( (show Xi T18 952 ((i).toNat) = Xi U17 952 ((i).toNat) from w213.x _ _ rfl).trans ( (show Xi U17 952 ((i).toNat) = Xi U16 952 ((i).toNat) from by rw [eU17]; exact Xi_ne (by omega)).trans ((show Xi U16 952 ((i).toNat) = Xi S 952 ((i).toNat) from by rw [eU16]; exact Xi_ne (by omega)))))))
            rw [w282]
            have e397 : (Xi S 952 ((i).toNat)) = Xi S 952 (i).toNat := by first | rfl | exact (hFU21.cx 952 rfl _).1
            refine l_if_eq rfl rfl (by unfold rg; omega) (fun w283 => ?_) (fun w284 => ?_)
            · refine l_return rfl rfl ?_
              have w285 : Xi U21 969 (q).toNat = Xi U16 969 (q).toNat := (show Xi U21 969 (q).toNat = Xi T20 969 (q).toNat from by rw [eU21]; exact Xi_ne (by omega)).trans ( (show Xi T20 969 (q).toNat = Xi U19 969 (q).toNat from (w235.cx 969 rfl _).1).trans ( (show Xi U19 969 (q).toNat = Xi T18 969 (q).toNat from by rw [eU19]; exact Xi_ne (by omega)).trans ( (show Xi T18 969 (q).toNat = Xi U17 969 (q).toNat from (w213.cx 969 rfl _).1).trans ((show Xi U17 969 (q).toNat = Xi U16 969 (q).toNat from by rw [eU17]; exact Xi_ne (by omega))))))
              have w286 : Xi U21 971 (q).toNat = Xi U19 971 (q).toNat := (show Xi U21 971 (q).toNat = Xi T20 971 (q).toNat from by rw [eU21]; exact Xi_ne (by omega)).trans ((show Xi T20 971 (q).toNat = Xi U19 971 (q).toNat from (w235.cx 971 rfl _).1))
              have w287 : Xi U21 973 (q).toNat = Xi S 973 (q).toNat := (show Xi U21 973 (q).toNat = Xi T20 973 (q).toNat from by rw [eU21]; exact Xi_ne (by omega)).trans ( (show Xi T20 973 (q).toNat = Xi U19 973 (q).toNat from (w235.cx 973 rfl _).1).trans ( (show Xi U19 973 (q).toNat = Xi T18 973 (q).toNat from by rw [eU19]; exact Xi_ne (by omega)).trans ( (show Xi T18 973 (q).toNat = Xi U17 973 (q).toNat from (w213.cx 973 rfl _).1).trans ( (show Xi U17 973 (q).toNat = Xi U16 973 (q).toNat from by rw [eU17]; exact Xi_ne (by omega)).trans ((show Xi U16 973 (q).toNat = Xi S 973 (q).toNat from by rw [eU16]; exact Xi_ne (by omega)))))))
              have w288 : Xi U21 974 (q).toNat = Xi S 974 (q).toNat := (show Xi U21 974 (q).toNat = Xi T20 974 (q).toNat from by rw [eU21]; exact Xi_ne (by omega)).trans ( (show Xi T20 974 (q).toNat = Xi U19 974 (q).toNat from (w235.cx 974 rfl _).1).trans ( (show Xi U19 974 (q).toNat = Xi T18 974 (q).toNat from by rw [eU19]; exact Xi_ne (by omega)).trans ( (show Xi T18 974 (q).toNat = Xi U17 974 (q).toNat from (w213.cx 974 rfl _).1).trans ( (show Xi U17 974 (q).toNat = Xi U16 974 (q).toNat from by rw [eU17]; exact Xi_ne (by omega)).trans ((show Xi U16 974 (q).toNat = Xi S 974 (q).toNat from by rw [eU16]; exact Xi_ne (by omega)))))))
              have w289 : Xi U21 975 (q).toNat = Xi S 975 (q).toNat := (show Xi U21 975 (q).toNat = Xi T20 975 (q).toNat from by rw [eU21]; exact Xi_ne (by omega)).trans ( (show Xi T20 975 (q).toNat = Xi U19 975 (q).toNat from (w235.cx 975 rfl _).1).trans ( (show Xi U19 975 (q).toNat = Xi T18 975 (q).toNat from by rw [eU19]; exact Xi_ne (by omega)).trans ( (show Xi T18 975 (q).toNat = Xi U17 975 (q).toNat from (w213.cx 975 rfl _).1).trans ( (show Xi U17 975 (q).toNat = Xi U16 975 (q).toNat from by rw [eU17]; exact Xi_ne (by omega)).trans ((show Xi U16 975 (q).toNat = Xi S 975 (q).toNat from by rw [eU16]; exact Xi_ne (by omega)))))))
              have w290 : Xi U21 904 106 = Xi T20 904 106 := (show Xi U21 904 106 = Xi T20 904 106 from by rw [eU21]; exact Xi_ne (by omega))
              have w291 : 0 ≤ Xi T20 904 106 ∧ Xi T20 904 106 ≤ 9 := hHT20.c _ _
              have w292 : Xi U21 904 113 = Xi S 904 113 := (show Xi U21 904 113 = Xi T20 904 113 from by rw [eU21]; exact Xi_ne (by omega)).trans ( (show Xi T20 904 113 = Xi U19 904 113 from w235.x _ _ rfl).trans ( (show Xi U19 904 113 = Xi T18 904 113 from by rw [eU19]; exact Xi_ne (by omega)).trans ( (show Xi T18 904 113 = Xi U17 904 113 from w213.x _ _ rfl).trans ( (show Xi U17 904 113 = Xi U16 904 113 from by rw [eU17]; exact Xi_ne (by omega)).trans ((show Xi U16 904 113 = Xi S 904 113 from by rw [eU16]; exact Xi_ne (by omega)))))))
              have w293 : -1 ≤ Xi S 904 113 ∧ Xi S 904 113 ≤ 6411 := hH.c _ _
              have w294 : Xi U21 904 69 = Xi S 904 69 := (show Xi U21 904 69 = Xi T20 904 69 from by rw [eU21]; exact Xi_ne (by omega)).trans ( (show Xi T20 904 69 = Xi U19 904 69 from w235.x _ _ rfl).trans ( (show Xi U19 904 69 = Xi T18 904 69 from by rw [eU19]; exact Xi_ne (by omega)).trans ( (show Xi T18 904 69 = Xi U17 904 69 from w213.x _ _ rfl).trans ( (show Xi U17 904 69 = Xi U16 904 69 from by rw [eU17]; exact Xi_ne (by omega)).trans ((show Xi U16 904 69 = Xi S 904 69 from by rw [eU16]; exact Xi_ne (by omega)))))))
              have w295 : 0 ≤ Xi S 904 69 ∧ Xi S 904 69 ≤ 2600 := hH.c _ _
              exact ⟨hHU21, hFU21, rfl, (by omega), (by first | exact (fun _ q => (by have s := f52 (by omega); exact tq_5 (by omega) (thk_c (b := 0 ≤ Xi S 904 115) (c := 0 ≤ Xi S 904 116) (S := S) (by have t := s.1; unfold thK at *; have a := h52; omega) (hFU21.x 904 19 rfl) (by omega)) (thk_c (S := S) (by have t := s.2.1; unfold thK at *; have a := h52; omega) (hFU21.x 904 19 rfl) (by omega)) (by have t := s.2.2; omega))) f52 | exact (fun _ q => tq_3 (by omega) (thk_c (H209) (hFU21.x 904 19 rfl) (by omega)) (adx_c (W209 (by omega)) (hFU21.x 904 23 rfl) (hFU21.x 904 32 rfl) (by omega))) W209 | exact (fun _ q => tq_4 (by omega) (thk_c (th107 (by omega)) (hFU21.x 904 19 rfl) (by omega))) q299 | exact (fun _ q => tq_2 (by omega) (thk_c (th107 (by omega)) (hFU21.x 904 19 rfl) (by omega)) (by have a := hFU21.x 904 32 rfl; omega) (fun _ => o386)) o386 | exact (fun _ q => tq_2 (by omega) (thk_c (th107 (by omega)) (hFU21.x 904 19 rfl) (by omega)) (by have a := hFU21.x 904 32 rfl; omega) (fun y => absurd y (by omega))) p337 | exact fun x => absurd x (by omega)), (by first | exact fun x y => ⟨by omega, fun z => absurd z (by omega)⟩ | exact (fun _ q => fun y => ⟨by omega, fun _ z => by rw [(hFU21.cx 922 rfl _).1, show Xi U21 973 (q).toNat = _ from by omega]; exact (W209 (by omega)).2 (by omega) (by omega)⟩) W209 | exact fun x => absurd x (by omega)), ((KQ.w (KQ_FR w235 rfl (KQ.w (KQ_FR w213 rfl (KQ.w (KQ.w KQ.rf eU16 (by omega)) eU17 (by omega))) eU19 (by omega))) eU21 (by omega)))⟩
            · refine l_aload_n rfl rfl ?_
              refine l_aload_n rfl rfl ?_
              refine l_gfr rfl rfl rfl rfl rfl (hHU21.r 904 86 956 rfl) ?_
              refine l_iload_n rfl rfl ?_
              refine l_iaload (n := 1700) rfl rfl (by omega) (by omega) (by unfold rg; omega) ?_
              have w296 : (Xi U21 956 ((i).toNat)) = (Xi U19 956 ((i).toNat)) := (show Xi U21 956 ((i).toNat) = Xi T20 956 ((i).toNat) from by rw [eU21]; exact Xi_ne (by omega)).trans ((show Xi T20 956 ((i).toNat) = Xi U19 956 ((i).toNat) from w235.x _ _ rfl))
              rw [w296]
              have e407 : (Xi U19 956 ((i).toNat)) = Xi S 956 (i).toNat := by first | rfl | exact (hFU21.cx 956 rfl _).1
              have w297 : Xi U21 904 106 = Xi T20 904 106 := (show Xi U21 904 106 = Xi T20 904 106 from by rw [eU21]; exact Xi_ne (by omega))
              have w298 : 0 ≤ Xi T20 904 106 ∧ Xi T20 904 106 ≤ 9 := hHT20.c _ _
              have w299 : Xi U21 904 113 = Xi S 904 113 := (show Xi U21 904 113 = Xi T20 904 113 from by rw [eU21]; exact Xi_ne (by omega)).trans ( (show Xi T20 904 113 = Xi U19 904 113 from w235.x _ _ rfl).trans ( (show Xi U19 904 113 = Xi T18 904 113 from by rw [eU19]; exact Xi_ne (by omega)).trans ( (show Xi T18 904 113 = Xi U17 904 113 from w213.x _ _ rfl).trans ( (show Xi U17 904 113 = Xi U16 904 113 from by rw [eU17]; exact Xi_ne (by omega)).trans ((show Xi U16 904 113 = Xi S 904 113 from by rw [eU16]; exact Xi_ne (by omega)))))))
              have w300 : -1 ≤ Xi S 904 113 ∧ Xi S 904 113 ≤ 6411 := hH.c _ _
              have w301 : Xi U21 904 69 = Xi S 904 69 := (show Xi U21 904 69 = Xi T20 904 69 from by rw [eU21]; exact Xi_ne (by omega)).trans ( (show Xi T20 904 69 = Xi U19 904 69 from w235.x _ _ rfl).trans ( (show Xi U19 904 69 = Xi T18 904 69 from by rw [eU19]; exact Xi_ne (by omega)).trans ( (show Xi T18 904 69 = Xi U17 904 69 from w213.x _ _ rfl).trans ( (show Xi U17 904 69 = Xi U16 904 69 from by rw [eU17]; exact Xi_ne (by omega)).trans ((show Xi U16 904 69 = Xi S 904 69 from by rw [eU16]; exact Xi_ne (by omega)))))))
              have w302 : 0 ≤ Xi S 904 69 ∧ Xi S 904 69 ≤ 2600 := hH.c _ _
              refine l_callV rfl rfl rfl (t_mo_numberMeant__2 hHU21 n (Xi U19 956 ((i).toNat)) ⟨by omega, by omega⟩ (by first | assumption | exact (TK_FR hFU21 rfl (by assumption : TK S _))) (by first | assumption | exact (RNV_FR hFU21 rfl (by assumption : RNV S _))) (by first | assumption | omega) (by first | assumption | exact (LXM_FR hFU21 rfl (by assumption : LXM S))) _) ?_
              rintro _ T24 ⟨hHT24, w306, rfl, w303, w304⟩
              have hFT24 : FR md_mo_testMeant S T24 := FR.tr hFU21 w306 rfl
              show Rl _ _ _ _ _ [] _ _
              refine l_aload_n rfl rfl ?_
              refine l_gfr rfl rfl rfl rfl rfl (hHT24.r 904 122 973 rfl) ?_
              refine l_iload_n rfl rfl ?_
              refine l_aload_n rfl rfl ?_
              refine l_gfr rfl rfl rfl rfl rfl (hHT24.r 904 7 910 rfl) ?_
              refine l_aload_n rfl rfl ?_
              refine l_gfr rfl rfl rfl rfl rfl (hHT24.r 904 87 957 rfl) ?_
              refine l_iload_n rfl rfl ?_
              refine l_iaload (n := 1700) rfl rfl (by omega) (by omega) (by unfold rg; omega) ?_
              have w307 : 0 ≤ (Xi T24 957 ((i).toNat)) ∧ (Xi T24 957 ((i).toNat)) ≤ 5010 := hHT24.c _ _
              have e425 : (Xi T24 957 ((i).toNat)) = Xi S 957 (i).toNat := by first | rfl | exact (hFT24.cx 957 rfl _).1
              refine l_laload (n := 5002) rfl rfl (by omega) (by omega) (by unfold rg; omega) ?_
              have w308 : -9223372036854775808 ≤ (Xj T24 910 (((Xi T24 957 ((i).toNat))).toNat)) ∧ (Xj T24 910 (((Xi T24 957 ((i).toNat))).toNat)) < 9223372036854775808 := Xj_rg
              refine l_l2iA rfl (fun c309 w309 => ?_)
              refine l_iastore (n := 2400) rfl rfl (by omega) (by omega) (by unfold rg; omega) ?_
              obtain ⟨U25, eU25⟩ : ∃ T : sS, T = uI T24 973 ((q).toNat) (Int32.ofInt c309) := ⟨_, rfl⟩
              rw [← eU25]
              have hHU25 : HI U25 := by rw [eU25]; exact HI_any hHT24 (rfl)
              have hFU25 : FR md_mo_testMeant S U25 := by rw [eU25]; exact FR.wI hFT24 (mdf_i (r := (973, 974, 0, 100000)) (List.mem_of_getElem? (i := 9) rfl) (inR_i (by omega) (by omega) (by omega) (by omega)))
              have w310 : Xi U25 973 ((q).toNat) = c309 := by rw [eU25]; exact Xi_same (by unfold rg; omega)
              refine l_return rfl rfl ?_
              have w311 : Xi U25 969 (q).toNat = Xi U16 969 (q).toNat := (show Xi U25 969 (q).toNat = Xi T24 969 (q).toNat from by rw [eU25]; exact Xi_ne (by omega)).trans ( (show Xi T24 969 (q).toNat = Xi U21 969 (q).toNat from (w306.cx 969 rfl _).1).trans ( (show Xi U21 969 (q).toNat = Xi T20 969 (q).toNat from by rw [eU21]; exact Xi_ne (by omega)).trans ( (show Xi T20 969 (q).toNat = Xi U19 969 (q).toNat from (w235.cx 969 rfl _).1).trans ( (show Xi U19 969 (q).toNat = Xi T18 969 (q).toNat from by rw [eU19]; exact Xi_ne (by omega)).trans ( (show Xi T18 969 (q).toNat = Xi U17 969 (q).toNat from (w213.cx 969 rfl _).1).trans ((show Xi U17 969 (q).toNat = Xi U16 969 (q).toNat from by rw [eU17]; exact Xi_ne (by omega))))))))
              have w312 : Xi U25 971 (q).toNat = Xi U19 971 (q).toNat := (show Xi U25 971 (q).toNat = Xi T24 971 (q).toNat from by rw [eU25]; exact Xi_ne (by omega)).trans ( (show Xi T24 971 (q).toNat = Xi U21 971 (q).toNat from (w306.cx 971 rfl _).1).trans ( (show Xi U21 971 (q).toNat = Xi T20 971 (q).toNat from by rw [eU21]; exact Xi_ne (by omega)).trans ((show Xi T20 971 (q).toNat = Xi U19 971 (q).toNat from (w235.cx 971 rfl _).1))))
              have w313 : Xi U25 972 (q).toNat = Xi U21 972 (q).toNat := (show Xi U25 972 (q).toNat = Xi T24 972 (q).toNat from by rw [eU25]; exact Xi_ne (by omega)).trans ((show Xi T24 972 (q).toNat = Xi U21 972 (q).toNat from (w306.cx 972 rfl _).1))
              have w314 : Xi U25 974 (q).toNat = Xi S 974 (q).toNat := (show Xi U25 974 (q).toNat = Xi T24 974 (q).toNat from by rw [eU25]; exact Xi_ne (by omega)).trans ( (show Xi T24 974 (q).toNat = Xi U21 974 (q).toNat from (w306.cx 974 rfl _).1).trans ( (show Xi U21 974 (q).toNat = Xi T20 974 (q).toNat from by rw [eU21]; exact Xi_ne (by omega)).trans ( (show Xi T20 974 (q).toNat = Xi U19 974 (q).toNat from (w235.cx 974 rfl _).1).trans ( (show Xi U19 974 (q).toNat = Xi T18 974 (q).toNat from by rw [eU19]; exact Xi_ne (by omega)).trans ( (show Xi T18 974 (q).toNat = Xi U17 974 (q).toNat from (w213.cx 974 rfl _).1).trans ( (show Xi U17 974 (q).toNat = Xi U16 974 (q).toNat from by rw [eU17]; exact Xi_ne (by omega)).trans ((show Xi U16 974 (q).toNat = Xi S 974 (q).toNat from by rw [eU16]; exact Xi_ne (by omega)))))))))
              have w315 : Xi U25 975 (q).toNat = Xi S 975 (q).toNat := (show Xi U25 975 (q).toNat = Xi T24 975 (q).toNat from by rw [eU25]; exact Xi_ne (by omega)).trans ( (show Xi T24 975 (q).toNat = Xi U21 975 (q).toNat from (w306.cx 975 rfl _).1).trans ( (show Xi U21 975 (q).toNat = Xi T20 975 (q).toNat from by rw [eU21]; exact Xi_ne (by omega)).trans ( (show Xi T20 975 (q).toNat = Xi U19 975 (q).toNat from (w235.cx 975 rfl _).1).trans ( (show Xi U19 975 (q).toNat = Xi T18 975 (q).toNat from by rw [eU19]; exact Xi_ne (by omega)).trans ( (show Xi T18 975 (q).toNat = Xi U17 975 (q).toNat from (w213.cx 975 rfl _).1).trans ( (show Xi U17 975 (q).toNat = Xi U16 975 (q).toNat from by rw [eU17]; exact Xi_ne (by omega)).trans ((show Xi U16 975 (q).toNat = Xi S 975 (q).toNat from by rw [eU16]; exact Xi_ne (by omega)))))))))
              have w316 : Xi U25 904 106 = Xi T24 904 106 := (show Xi U25 904 106 = Xi T24 904 106 from by rw [eU25]; exact Xi_ne (by omega))
              have w317 : 0 ≤ Xi T24 904 106 ∧ Xi T24 904 106 ≤ 9 := hHT24.c _ _
              have w318 : Xi U25 904 113 = Xi S 904 113 := (show Xi U25 904 113 = Xi T24 904 113 from by rw [eU25]; exact Xi_ne (by omega)).trans ( (show Xi T24 904 113 = Xi U21 904 113 from w306.x _ _ rfl).trans ( (show Xi U21 904 113 = Xi T20 904 113 from by rw [eU21]; exact Xi_ne (by omega)).trans ( (show Xi T20 904 113 = Xi U19 904 113 from w235.x _ _ rfl).trans ( (show Xi U19 904 113 = Xi T18 904 113 from by rw [eU19]; exact Xi_ne (by omega)).trans ( (show Xi T18 904 113 = Xi U17 904 113 from w213.x _ _ rfl).trans ( (show Xi U17 904 113 = Xi U16 904 113 from by rw [eU17]; exact Xi_ne (by omega)).trans ((show Xi U16 904 113 = Xi S 904 113 from by rw [eU16]; exact Xi_ne (by omega)))))))))
              have w319 : -1 ≤ Xi S 904 113 ∧ Xi S 904 113 ≤ 6411 := hH.c _ _
              have w320 : Xi U25 904 69 = Xi S 904 69 := (show Xi U25 904 69 = Xi T24 904 69 from by rw [eU25]; exact Xi_ne (by omega)).trans ( (show Xi T24 904 69 = Xi U21 904 69 from w306.x _ _ rfl).trans ( (show Xi U21 904 69 = Xi T20 904 69 from by rw [eU21]; exact Xi_ne (by omega)).trans ( (show Xi T20 904 69 = Xi U19 904 69 from w235.x _ _ rfl).trans ( (show Xi U19 904 69 = Xi T18 904 69 from by rw [eU19]; exact Xi_ne (by omega)).trans ( (show Xi T18 904 69 = Xi U17 904 69 from w213.x _ _ rfl).trans ( (show Xi U17 904 69 = Xi U16 904 69 from by rw [eU17]; exact Xi_ne (by omega)).trans ((show Xi U16 904 69 = Xi S 904 69 from by rw [eU16]; exact Xi_ne (by omega)))))))))
              have w321 : 0 ≤ Xi S 904 69 ∧ Xi S 904 69 ≤ 2600 := hH.c _ _
              exact ⟨hHU25, hFU25, rfl, (by omega), (by first | exact (fun _ q => (by have s := f52 (by omega); exact tq_5 (by omega) (thk_c (b := 0 ≤ Xi S 904 115) (c := 0 ≤ Xi S 904 116) (S := S) (by have t := s.1; unfold thK at *; have a := h52; omega) (hFU25.x 904 19 rfl) (by omega)) (thk_c (S := S) (by have t := s.2.1; unfold thK at *; have a := h52; omega) (hFU25.x 904 19 rfl) (by omega)) (by have t := s.2.2; omega))) f52 | exact (fun _ q => tq_3 (by omega) (thk_c (H209) (hFU25.x 904 19 rfl) (by omega)) (adx_c (W209 (by omega)) (hFU25.x 904 23 rfl) (hFU25.x 904 32 rfl) (by omega))) W209 | exact (fun _ q => tq_4 (by omega) (thk_c (th107 (by omega)) (hFU25.x 904 19 rfl) (by omega))) q299 | exact (fun _ q => tq_2 (by omega) (thk_c (th107 (by omega)) (hFU25.x 904 19 rfl) (by omega)) (by have a := hFU25.x 904 32 rfl; omega) (fun _ => o386)) o386 | exact (fun _ q => tq_2 (by omega) (thk_c (th107 (by omega)) (hFU25.x 904 19 rfl) (by omega)) (by have a := hFU25.x 904 32 rfl; omega) (fun y => absurd y (by omega))) p337 | exact fun x => absurd x (by omega)), (by first | exact fun x y => ⟨by omega, fun z => absurd z (by omega)⟩ | exact (fun _ q => fun y => ⟨by omega, fun _ z => by rw [(hFU25.cx 922 rfl _).1, show Xi U25 973 (q).toNat = _ from by omega]; exact (W209 (by omega)).2 (by omega) (by omega)⟩) W209 | exact fun x => absurd x (by omega)), ((KQ.w (KQ_FR w306 rfl (KQ.w (KQ_FR w235 rfl (KQ.w (KQ_FR w213 rfl (KQ.w (KQ.w KQ.rf eU16 (by omega)) eU17 (by omega))) eU19 (by omega))) eU21 (by omega))) eU25 (by omega)))⟩
          · refine l_aload_n rfl rfl ?_
            refine l_aload_n rfl rfl ?_
            refine l_gfr rfl rfl rfl rfl rfl (hHU21.r 904 87 957 rfl) ?_
            refine l_iload_n rfl rfl ?_
            refine l_iaload (n := 1700) rfl rfl (by omega) (by omega) (by unfold rg; omega) ?_
            have w322 : 0 ≤ (Xi U21 957 ((i).toNat)) ∧ (Xi U21 957 ((i).toNat)) ≤ 5010 := hHU21.c _ _
            have e371 : (Xi U21 957 ((i).toNat)) = Xi S 957 (i).toNat := by first | rfl | exact (hFU21.cx 957 rfl _).1
            refine l_aload_n rfl rfl ?_
            refine l_gfr rfl rfl rfl rfl rfl (hHU21.r 904 90 960 rfl) ?_
            refine l_iload_n rfl rfl ?_
            refine l_iaload (n := 1700) rfl rfl (by omega) (by omega) (by unfold rg; omega) ?_
            have w323 : -1 ≤ (Xi U21 960 ((i).toNat)) ∧ (Xi U21 960 ((i).toNat)) ≤ 2600 := hHU21.c _ _
            have e377 : (Xi U21 960 ((i).toNat)) = Xi S 960 (i).toNat := by first | rfl | exact (hFU21.cx 960 rfl _).1
            refine l_aload_n rfl rfl ?_
            refine l_gfr rfl rfl rfl rfl rfl (hHU21.r 904 33 928 rfl) ?_
            refine l_iload rfl rfl ?_
            refine l_iaload (n := 12) rfl rfl (by omega) (by omega) (by unfold rg; omega) ?_
            have w324 : 0 ≤ (Xi U21 928 ((z234).toNat)) ∧ (Xi U21 928 ((z234).toNat)) ≤ 7 := hHU21.c _ _
            refine l_iload_n rfl rfl ?_
            have w325 : Xi U21 904 106 = Xi T20 904 106 := (show Xi U21 904 106 = Xi T20 904 106 from by rw [eU21]; exact Xi_ne (by omega))
            have w326 : 0 ≤ Xi T20 904 106 ∧ Xi T20 904 106 ≤ 9 := hHT20.c _ _
            have w327 : Xi U21 904 113 = Xi S 904 113 := (show Xi U21 904 113 = Xi T20 904 113 from by rw [eU21]; exact Xi_ne (by omega)).trans ( (show Xi T20 904 113 = Xi U19 904 113 from w235.x _ _ rfl).trans ( (show Xi U19 904 113 = Xi T18 904 113 from by rw [eU19]; exact Xi_ne (by omega)).trans ( (show Xi T18 904 113 = Xi U17 904 113 from w213.x _ _ rfl).trans ( (show Xi U17 904 113 = Xi U16 904 113 from by rw [eU17]; exact Xi_ne (by omega)).trans ((show Xi U16 904 113 = Xi S 904 113 from by rw [eU16]; exact Xi_ne (by omega)))))))
            have w328 : -1 ≤ Xi S 904 113 ∧ Xi S 904 113 ≤ 6411 := hH.c _ _
            have w329 : Xi U21 904 69 = Xi S 904 69 := (show Xi U21 904 69 = Xi T20 904 69 from by rw [eU21]; exact Xi_ne (by omega)).trans ( (show Xi T20 904 69 = Xi U19 904 69 from w235.x _ _ rfl).trans ( (show Xi U19 904 69 = Xi T18 904 69 from by rw [eU19]; exact Xi_ne (by omega)).trans ( (show Xi T18 904 69 = Xi U17 904 69 from w213.x _ _ rfl).trans ( (show Xi U17 904 69 = Xi U16 904 69 from by rw [eU17]; exact Xi_ne (by omega)).trans ((show Xi U16 904 69 = Xi S 904 69 from by rw [eU16]; exact Xi_ne (by omega)))))))
            have w330 : 0 ≤ Xi S 904 69 ∧ Xi S 904 69 ≤ 2600 := hH.c _ _
            refine l_callV rfl rfl rfl (t_mo_whatMeant hHU21 n (Xi U21 957 ((i).toNat)) (Xi U21 960 ((i).toNat)) (Xi U21 928 ((z234).toNat)) q ⟨by omega, by omega⟩ ⟨by omega, by omega⟩ ⟨by omega, by omega⟩ ⟨by omega, by omega⟩ (by first | assumption | exact (TK_FR hFU21 rfl (by assumption : TK S _))) (by first | assumption | exact (RNV_FR hFU21 rfl (by assumption : RNV S _))) (by first | assumption | exact (LXM_FR hFU21 rfl (by assumption : LXM S))) (by first | assumption | exact (TXK_FR hFU21 rfl (by assumption : TXK S _))) (by first | assumption | omega) (fun a b => by rw [(hFU21.cx 907 rfl _).1] at a b; have t := htv.2.2.2.2.2 (by omega) (by rw [← e371]; exact a) (by rw [← e371]; exact b); omega) _) ?_
            rintro _ T26 ⟨hHT26, w334, rfl, w331, o386, w332⟩
            have hFT26 : FR md_mo_testMeant S T26 := FR.tr hFU21 w334 rfl
            show Rl _ _ _ _ _ [] _ _
            refine l_goto rfl rfl ?_
            refine l_return rfl rfl ?_
            have w335 : Xi T26 969 (q).toNat = Xi U16 969 (q).toNat := (show Xi T26 969 (q).toNat = Xi U21 969 (q).toNat from (w334.cx 969 rfl _).1).trans ( (show Xi U21 969 (q).toNat = Xi T20 969 (q).toNat from by rw [eU21]; exact Xi_ne (by omega)).trans ( (show Xi T20 969 (q).toNat = Xi U19 969 (q).toNat from (w235.cx 969 rfl _).1).trans ( (show Xi U19 969 (q).toNat = Xi T18 969 (q).toNat from by rw [eU19]; exact Xi_ne (by omega)).trans ( (show Xi T18 969 (q).toNat = Xi U17 969 (q).toNat from (w213.cx 969 rfl _).1).trans ((show Xi U17 969 (q).toNat = Xi U16 969 (q).toNat from by rw [eU17]; exact Xi_ne (by omega)))))))
            have w336 : Xi T26 971 (q).toNat = Xi U19 971 (q).toNat := (show Xi T26 971 (q).toNat = Xi U21 971 (q).toNat from (w334.cx 971 rfl _).1).trans ( (show Xi U21 971 (q).toNat = Xi T20 971 (q).toNat from by rw [eU21]; exact Xi_ne (by omega)).trans ((show Xi T20 971 (q).toNat = Xi U19 971 (q).toNat from (w235.cx 971 rfl _).1)))
            have w337 : Xi T26 972 (q).toNat = Xi U21 972 (q).toNat := (show Xi T26 972 (q).toNat = Xi U21 972 (q).toNat from (w334.cx 972 rfl _).1)
            have w338 : Xi T26 975 (q).toNat = Xi S 975 (q).toNat := (show Xi T26 975 (q).toNat = Xi U21 975 (q).toNat from (w334.cx 975 rfl _).1).trans ( (show Xi U21 975 (q).toNat = Xi T20 975 (q).toNat from by rw [eU21]; exact Xi_ne (by omega)).trans ( (show Xi T20 975 (q).toNat = Xi U19 975 (q).toNat from (w235.cx 975 rfl _).1).trans ( (show Xi U19 975 (q).toNat = Xi T18 975 (q).toNat from by rw [eU19]; exact Xi_ne (by omega)).trans ( (show Xi T18 975 (q).toNat = Xi U17 975 (q).toNat from (w213.cx 975 rfl _).1).trans ( (show Xi U17 975 (q).toNat = Xi U16 975 (q).toNat from by rw [eU17]; exact Xi_ne (by omega)).trans ((show Xi U16 975 (q).toNat = Xi S 975 (q).toNat from by rw [eU16]; exact Xi_ne (by omega))))))))
            have w339 : 0 ≤ Xi T26 904 106 ∧ Xi T26 904 106 ≤ 9 := hHT26.c _ _
            have w340 : Xi T26 904 113 = Xi S 904 113 := (show Xi T26 904 113 = Xi U21 904 113 from w334.x _ _ rfl).trans ( (show Xi U21 904 113 = Xi T20 904 113 from by rw [eU21]; exact Xi_ne (by omega)).trans ( (show Xi T20 904 113 = Xi U19 904 113 from w235.x _ _ rfl).trans ( (show Xi U19 904 113 = Xi T18 904 113 from by rw [eU19]; exact Xi_ne (by omega)).trans ( (show Xi T18 904 113 = Xi U17 904 113 from w213.x _ _ rfl).trans ( (show Xi U17 904 113 = Xi U16 904 113 from by rw [eU17]; exact Xi_ne (by omega)).trans ((show Xi U16 904 113 = Xi S 904 113 from by rw [eU16]; exact Xi_ne (by omega))))))))
            have w341 : -1 ≤ Xi S 904 113 ∧ Xi S 904 113 ≤ 6411 := hH.c _ _
            have w342 : Xi T26 904 69 = Xi S 904 69 := (show Xi T26 904 69 = Xi U21 904 69 from w334.x _ _ rfl).trans ( (show Xi U21 904 69 = Xi T20 904 69 from by rw [eU21]; exact Xi_ne (by omega)).trans ( (show Xi T20 904 69 = Xi U19 904 69 from w235.x _ _ rfl).trans ( (show Xi U19 904 69 = Xi T18 904 69 from by rw [eU19]; exact Xi_ne (by omega)).trans ( (show Xi T18 904 69 = Xi U17 904 69 from w213.x _ _ rfl).trans ( (show Xi U17 904 69 = Xi U16 904 69 from by rw [eU17]; exact Xi_ne (by omega)).trans ((show Xi U16 904 69 = Xi S 904 69 from by rw [eU16]; exact Xi_ne (by omega))))))))
            have w343 : 0 ≤ Xi S 904 69 ∧ Xi S 904 69 ≤ 2600 := hH.c _ _
            exact ⟨hHT26, hFT26, rfl, (by omega), (by first | exact (fun _ q => (by have s := f52 (by omega); exact tq_5 (by omega) (thk_c (b := 0 ≤ Xi S 904 115) (c := 0 ≤ Xi S 904 116) (S := S) (by have t := s.1; unfold thK at *; have a := h52; omega) (hFT26.x 904 19 rfl) (by omega)) (thk_c (S := S) (by have t := s.2.1; unfold thK at *; have a := h52; omega) (hFT26.x 904 19 rfl) (by omega)) (by have t := s.2.2; omega))) f52 | exact (fun _ q => tq_3 (by omega) (thk_c (H209) (hFT26.x 904 19 rfl) (by omega)) (adx_c (W209 (by omega)) (hFT26.x 904 23 rfl) (hFT26.x 904 32 rfl) (by omega))) W209 | exact (fun _ q => tq_4 (by omega) (thk_c (th107 (by omega)) (hFT26.x 904 19 rfl) (by omega))) q299 | exact (fun _ q => tq_2 (by omega) (thk_c (th107 (by omega)) (hFT26.x 904 19 rfl) (by omega)) (by have a := hFT26.x 904 32 rfl; omega) (fun _ => o386)) o386 | exact (fun _ q => tq_2 (by omega) (thk_c (th107 (by omega)) (hFT26.x 904 19 rfl) (by omega)) (by have a := hFT26.x 904 32 rfl; omega) (fun y => absurd y (by omega))) p337 | exact fun x => absurd x (by omega)), (by first | exact fun x y => ⟨by omega, fun z => absurd z (by omega)⟩ | exact (fun _ q => fun y => ⟨by omega, fun _ z => by rw [(hFT26.cx 922 rfl _).1, show Xi T26 973 (q).toNat = _ from by omega]; exact (W209 (by omega)).2 (by omega) (by omega)⟩) W209 | exact fun x => absurd x (by omega)), ((KQ.tr (KQ.w (KQ_FR w235 rfl (KQ.w (KQ_FR w213 rfl (KQ.w (KQ.w KQ.rf eU16 (by omega)) eU17 (by omega))) eU19 (by omega))) eU21 (by omega)) (by assumption : KQ T26 U21 _)))⟩
      · refine l_aload_n rfl rfl ?_
        refine l_aload_n rfl rfl ?_
        refine l_gfr rfl rfl rfl rfl rfl (hHU19.r 904 89 959 rfl) ?_
        refine l_iload_n rfl rfl ?_
        refine l_iaload (n := 1700) rfl rfl (by omega) (by omega) (by unfold rg; omega) ?_
        have w344 : 0 ≤ (Xi U19 959 ((i).toNat)) ∧ (Xi U19 959 ((i).toNat)) ≤ 25010 := hHU19.c _ _
        have e293 : (Xi U19 959 ((i).toNat)) = Xi S 959 (i).toNat := by first | rfl | exact (hFU19.cx 959 rfl _).1
        refine l_aload_n rfl rfl ?_
        refine l_gfr rfl rfl rfl rfl rfl (hHU19.r 904 90 960 rfl) ?_
        refine l_iload_n rfl rfl ?_
        refine l_iaload (n := 1700) rfl rfl (by omega) (by omega) (by unfold rg; omega) ?_
        have w345 : -1 ≤ (Xi U19 960 ((i).toNat)) ∧ (Xi U19 960 ((i).toNat)) ≤ 2600 := hHU19.c _ _
        have e299 : (Xi U19 960 ((i).toNat)) = Xi S 960 (i).toNat := by first | rfl | exact (hFU19.cx 960 rfl _).1
        have q299 := q_thv (htv.2.2.2.1 (by omega)) e293 e299 (hFU19.x 904 69 rfl) hn5
        have w346 : Xi U19 904 106 = Xi T18 904 106 := (show Xi U19 904 106 = Xi T18 904 106 from by rw [eU19]; exact Xi_ne (by omega))
        have w347 : 0 ≤ Xi T18 904 106 ∧ Xi T18 904 106 ≤ 9 := hHT18.c _ _
        have w348 : Xi U19 904 113 = Xi S 904 113 := (show Xi U19 904 113 = Xi T18 904 113 from by rw [eU19]; exact Xi_ne (by omega)).trans ( (show Xi T18 904 113 = Xi U17 904 113 from w213.x _ _ rfl).trans ( (show Xi U17 904 113 = Xi U16 904 113 from by rw [eU17]; exact Xi_ne (by omega)).trans ((show Xi U16 904 113 = Xi S 904 113 from by rw [eU16]; exact Xi_ne (by omega)))))
        have w349 : -1 ≤ Xi S 904 113 ∧ Xi S 904 113 ≤ 6411 := hH.c _ _
        have w350 : Xi U19 904 19 = Xi S 904 19 := (show Xi U19 904 19 = Xi T18 904 19 from by rw [eU19]; exact Xi_ne (by omega)).trans ( (show Xi T18 904 19 = Xi U17 904 19 from w213.x _ _ rfl).trans ( (show Xi U17 904 19 = Xi U16 904 19 from by rw [eU17]; exact Xi_ne (by omega)).trans ((show Xi U16 904 19 = Xi S 904 19 from by rw [eU16]; exact Xi_ne (by omega)))))
        have w351 : 0 ≤ Xi S 904 19 ∧ Xi S 904 19 ≤ 24 := hH.c _ _
        have w352 : Xi U19 904 69 = Xi S 904 69 := (show Xi U19 904 69 = Xi T18 904 69 from by rw [eU19]; exact Xi_ne (by omega)).trans ( (show Xi T18 904 69 = Xi U17 904 69 from w213.x _ _ rfl).trans ( (show Xi U17 904 69 = Xi U16 904 69 from by rw [eU17]; exact Xi_ne (by omega)).trans ((show Xi U16 904 69 = Xi S 904 69 from by rw [eU16]; exact Xi_ne (by omega)))))
        have w353 : 0 ≤ Xi S 904 69 ∧ Xi S 904 69 ≤ 2600 := hH.c _ _
        refine l_callV rfl rfl rfl (t_mo_meant hHU19 n (Xi U19 959 ((i).toNat)) (Xi U19 960 ((i).toNat)) ⟨by omega, by omega⟩ ⟨by omega, by omega⟩ (by first | assumption | exact (TK_FR hFU19 rfl (by assumption : TK S _))) (by first | assumption | exact (RNV_FR hFU19 rfl (by assumption : RNV S _))) (by first | exact q299.1 | exact q106.1) (by first | exact q299.2 | exact q106.2) (by first | assumption | exact (LXM_FR hFU19 rfl (by assumption : LXM S))) _) ?_
        rintro _ T27 ⟨hHT27, w360, z359, rfl, w359, w354, w355, w356, w357, w358⟩
        have hFT27 : FR md_mo_testMeant S T27 := FR.tr hFU19 w360 rfl
        show Rl _ _ _ _ _ [iv z359] _ _
        refine l_istore rfl rfl rfl ?_
        refine l_aload_n rfl rfl ?_
        refine l_gfr rfl rfl rfl rfl rfl (hHT27.r 904 124 975 rfl) ?_
        refine l_iload_n rfl rfl ?_
        refine l_iload rfl rfl ?_
        refine l_iastore (n := 2400) rfl rfl (by omega) (by omega) (by unfold rg; omega) ?_
        obtain ⟨U28, eU28⟩ : ∃ T : sS, T = uI T27 975 ((q).toNat) (Int32.ofInt z359) := ⟨_, rfl⟩
        rw [← eU28]
        have hHU28 : HI U28 := by rw [eU28]; exact HI_w hHT27 (show -9 ≤ z359 by omega) (show z359 ≤ 23 by omega)
        have hFU28 : FR md_mo_testMeant S U28 := by rw [eU28]; exact FR.wI hFT27 (mdf_i (r := (975, 976, 0, 100000)) (List.mem_of_getElem? (i := 11) rfl) (inR_i (by omega) (by omega) (by omega) (by omega)))
        have w361 : Xi U28 975 ((q).toNat) = z359 := by rw [eU28]; exact Xi_same (by unfold rg; omega)
        refine l_aload_n rfl rfl ?_
        refine l_gfr rfl rfl rfl rfl rfl (hHU28.r 904 122 973 rfl) ?_
        refine l_iload_n rfl rfl ?_
        refine l_aload_n rfl rfl ?_
        refine l_gfr rfl rfl rfl rfl rfl (hHU28.r 904 88 958 rfl) ?_
        refine l_iload_n rfl rfl ?_
        refine l_iaload (n := 1700) rfl rfl (by omega) (by omega) (by unfold rg; omega) ?_
        have w362 : 0 ≤ (Xi U28 958 ((i).toNat)) ∧ (Xi U28 958 ((i).toNat)) ≤ 5 := hHU28.c _ _
        refine l_iastore (n := 2400) rfl rfl (by omega) (by omega) (by unfold rg; omega) ?_
        obtain ⟨U29, eU29⟩ : ∃ T : sS, T = uI U28 973 ((q).toNat) (Int32.ofInt (Xi U28 958 ((i).toNat))) := ⟨_, rfl⟩
        rw [← eU29]
        have hHU29 : HI U29 := by rw [eU29]; exact HI_any hHU28 (rfl)
        have hFU29 : FR md_mo_testMeant S U29 := by rw [eU29]; exact FR.wI hFU28 (mdf_i (r := (973, 974, 0, 100000)) (List.mem_of_getElem? (i := 9) rfl) (inR_i (by omega) (by omega) (by omega) (by omega)))
        have w363 : Xi U29 973 ((q).toNat) = (Xi U28 958 ((i).toNat)) := by rw [eU29]; exact Xi_same (by unfold rg; omega)
        refine l_goto rfl rfl ?_
        refine l_return rfl rfl ?_
        have w364 : Xi U29 969 (q).toNat = Xi U16 969 (q).toNat := (show Xi U29 969 (q).toNat = Xi U28 969 (q).toNat from by rw [eU29]; exact Xi_ne (by omega)).trans ( (show Xi U28 969 (q).toNat = Xi T27 969 (q).toNat from by rw [eU28]; exact Xi_ne (by omega)).trans ( (show Xi T27 969 (q).toNat = Xi U19 969 (q).toNat from (w360.cx 969 rfl _).1).trans ( (show Xi U19 969 (q).toNat = Xi T18 969 (q).toNat from by rw [eU19]; exact Xi_ne (by omega)).trans ( (show Xi T18 969 (q).toNat = Xi U17 969 (q).toNat from (w213.cx 969 rfl _).1).trans ((show Xi U17 969 (q).toNat = Xi U16 969 (q).toNat from by rw [eU17]; exact Xi_ne (by omega)))))))
        have w365 : Xi U29 971 (q).toNat = Xi U19 971 (q).toNat := (show Xi U29 971 (q).toNat = Xi U28 971 (q).toNat from by rw [eU29]; exact Xi_ne (by omega)).trans ( (show Xi U28 971 (q).toNat = Xi T27 971 (q).toNat from by rw [eU28]; exact Xi_ne (by omega)).trans ((show Xi T27 971 (q).toNat = Xi U19 971 (q).toNat from (w360.cx 971 rfl _).1)))
        have w366 : Xi U29 972 (q).toNat = Xi S 972 (q).toNat := (show Xi U29 972 (q).toNat = Xi U28 972 (q).toNat from by rw [eU29]; exact Xi_ne (by omega)).trans ( (show Xi U28 972 (q).toNat = Xi T27 972 (q).toNat from by rw [eU28]; exact Xi_ne (by omega)).trans ( (show Xi T27 972 (q).toNat = Xi U19 972 (q).toNat from (w360.cx 972 rfl _).1).trans ( (show Xi U19 972 (q).toNat = Xi T18 972 (q).toNat from by rw [eU19]; exact Xi_ne (by omega)).trans ( (show Xi T18 972 (q).toNat = Xi U17 972 (q).toNat from (w213.cx 972 rfl _).1).trans ( (show Xi U17 972 (q).toNat = Xi U16 972 (q).toNat from by rw [eU17]; exact Xi_ne (by omega)).trans ((show Xi U16 972 (q).toNat = Xi S 972 (q).toNat from by rw [eU16]; exact Xi_ne (by omega))))))))
        have w367 : Xi U29 974 (q).toNat = Xi S 974 (q).toNat := (show Xi U29 974 (q).toNat = Xi U28 974 (q).toNat from by rw [eU29]; exact Xi_ne (by omega)).trans ( (show Xi U28 974 (q).toNat = Xi T27 974 (q).toNat from by rw [eU28]; exact Xi_ne (by omega)).trans ( (show Xi T27 974 (q).toNat = Xi U19 974 (q).toNat from (w360.cx 974 rfl _).1).trans ( (show Xi U19 974 (q).toNat = Xi T18 974 (q).toNat from by rw [eU19]; exact Xi_ne (by omega)).trans ( (show Xi T18 974 (q).toNat = Xi U17 974 (q).toNat from (w213.cx 974 rfl _).1).trans ( (show Xi U17 974 (q).toNat = Xi U16 974 (q).toNat from by rw [eU17]; exact Xi_ne (by omega)).trans ((show Xi U16 974 (q).toNat = Xi S 974 (q).toNat from by rw [eU16]; exact Xi_ne (by omega))))))))
        have w368 : Xi U29 975 (q).toNat = Xi U28 975 (q).toNat := (show Xi U29 975 (q).toNat = Xi U28 975 (q).toNat from by rw [eU29]; exact Xi_ne (by omega))
        have w369 : Xi U29 904 106 = Xi T27 904 106 := (show Xi U29 904 106 = Xi U28 904 106 from by rw [eU29]; exact Xi_ne (by omega)).trans ((show Xi U28 904 106 = Xi T27 904 106 from by rw [eU28]; exact Xi_ne (by omega)))
        have w370 : 0 ≤ Xi T27 904 106 ∧ Xi T27 904 106 ≤ 9 := hHT27.c _ _
        have w371 : Xi U29 904 113 = Xi S 904 113 := (show Xi U29 904 113 = Xi U28 904 113 from by rw [eU29]; exact Xi_ne (by omega)).trans ( (show Xi U28 904 113 = Xi T27 904 113 from by rw [eU28]; exact Xi_ne (by omega)).trans ( (show Xi T27 904 113 = Xi U19 904 113 from w360.x _ _ rfl).trans ( (show Xi U19 904 113 = Xi T18 904 113 from by rw [eU19]; exact Xi_ne (by omega)).trans ( (show Xi T18 904 113 = Xi U17 904 113 from w213.x _ _ rfl).trans ( (show Xi U17 904 113 = Xi U16 904 113 from by rw [eU17]; exact Xi_ne (by omega)).trans ((show Xi U16 904 113 = Xi S 904 113 from by rw [eU16]; exact Xi_ne (by omega))))))))
        have w372 : -1 ≤ Xi S 904 113 ∧ Xi S 904 113 ≤ 6411 := hH.c _ _
        have w373 : Xi U29 904 69 = Xi S 904 69 := (show Xi U29 904 69 = Xi U28 904 69 from by rw [eU29]; exact Xi_ne (by omega)).trans ( (show Xi U28 904 69 = Xi T27 904 69 from by rw [eU28]; exact Xi_ne (by omega)).trans ( (show Xi T27 904 69 = Xi U19 904 69 from w360.x _ _ rfl).trans ( (show Xi U19 904 69 = Xi T18 904 69 from by rw [eU19]; exact Xi_ne (by omega)).trans ( (show Xi T18 904 69 = Xi U17 904 69 from w213.x _ _ rfl).trans ( (show Xi U17 904 69 = Xi U16 904 69 from by rw [eU17]; exact Xi_ne (by omega)).trans ((show Xi U16 904 69 = Xi S 904 69 from by rw [eU16]; exact Xi_ne (by omega))))))))
        have w374 : 0 ≤ Xi S 904 69 ∧ Xi S 904 69 ≤ 2600 := hH.c _ _
        exact ⟨hHU29, hFU29, rfl, (by omega), (by first | exact (fun _ q => (by have s := f52 (by omega); exact tq_5 (by omega) (thk_c (b := 0 ≤ Xi S 904 115) (c := 0 ≤ Xi S 904 116) (S := S) (by have t := s.1; unfold thK at *; have a := h52; omega) (hFU29.x 904 19 rfl) (by omega)) (thk_c (S := S) (by have t := s.2.1; unfold thK at *; have a := h52; omega) (hFU29.x 904 19 rfl) (by omega)) (by have t := s.2.2; omega))) f52 | exact (fun _ q => tq_3 (by omega) (thk_c (H209) (hFU29.x 904 19 rfl) (by omega)) (adx_c (W209 (by omega)) (hFU29.x 904 23 rfl) (hFU29.x 904 32 rfl) (by omega))) W209 | exact (fun _ q => tq_4 (by omega) (thk_c (th107 (by omega)) (hFU29.x 904 19 rfl) (by omega))) q299 | exact (fun _ q => tq_2 (by omega) (thk_c (th107 (by omega)) (hFU29.x 904 19 rfl) (by omega)) (by have a := hFU29.x 904 32 rfl; omega) (fun _ => o386)) o386 | exact (fun _ q => tq_2 (by omega) (thk_c (th107 (by omega)) (hFU29.x 904 19 rfl) (by omega)) (by have a := hFU29.x 904 32 rfl; omega) (fun y => absurd y (by omega))) p337 | exact fun x => absurd x (by omega)), (by first | exact fun x y => ⟨by omega, fun z => absurd z (by omega)⟩ | exact (fun _ q => fun y => ⟨by omega, fun _ z => by rw [(hFU29.cx 922 rfl _).1, show Xi U29 973 (q).toNat = _ from by omega]; exact (W209 (by omega)).2 (by omega) (by omega)⟩) W209 | exact fun x => absurd x (by omega)), ((KQ.w (KQ.w (KQ_FR w360 rfl (KQ.w (KQ_FR w213 rfl (KQ.w (KQ.w KQ.rf eU16 (by omega)) eU17 (by omega))) eU19 (by omega))) eU28 (by omega)) eU29 (by omega)))⟩
    · refine l_iload rfl rfl ?_
      refine l_bipush rfl rfl ?_
      refine l_icmp_eq rfl rfl (by unfold rg; omega) (by unfold rg; omega) (fun w375 => ?_) (fun w376 => ?_)
      · refine l_return rfl rfl ?_
        have w377 : Xi U19 969 (q).toNat = Xi U16 969 (q).toNat := (show Xi U19 969 (q).toNat = Xi T18 969 (q).toNat from by rw [eU19]; exact Xi_ne (by omega)).trans ( (show Xi T18 969 (q).toNat = Xi U17 969 (q).toNat from (w213.cx 969 rfl _).1).trans ((show Xi U17 969 (q).toNat = Xi U16 969 (q).toNat from by rw [eU17]; exact Xi_ne (by omega))))
        have w378 : Xi U19 972 (q).toNat = Xi S 972 (q).toNat := (show Xi U19 972 (q).toNat = Xi T18 972 (q).toNat from by rw [eU19]; exact Xi_ne (by omega)).trans ( (show Xi T18 972 (q).toNat = Xi U17 972 (q).toNat from (w213.cx 972 rfl _).1).trans ( (show Xi U17 972 (q).toNat = Xi U16 972 (q).toNat from by rw [eU17]; exact Xi_ne (by omega)).trans ((show Xi U16 972 (q).toNat = Xi S 972 (q).toNat from by rw [eU16]; exact Xi_ne (by omega)))))
        have w379 : Xi U19 973 (q).toNat = Xi S 973 (q).toNat := (show Xi U19 973 (q).toNat = Xi T18 973 (q).toNat from by rw [eU19]; exact Xi_ne (by omega)).trans ( (show Xi T18 973 (q).toNat = Xi U17 973 (q).toNat from (w213.cx 973 rfl _).1).trans ( (show Xi U17 973 (q).toNat = Xi U16 973 (q).toNat from by rw [eU17]; exact Xi_ne (by omega)).trans ((show Xi U16 973 (q).toNat = Xi S 973 (q).toNat from by rw [eU16]; exact Xi_ne (by omega)))))
        have w380 : Xi U19 974 (q).toNat = Xi S 974 (q).toNat := (show Xi U19 974 (q).toNat = Xi T18 974 (q).toNat from by rw [eU19]; exact Xi_ne (by omega)).trans ( (show Xi T18 974 (q).toNat = Xi U17 974 (q).toNat from (w213.cx 974 rfl _).1).trans ( (show Xi U17 974 (q).toNat = Xi U16 974 (q).toNat from by rw [eU17]; exact Xi_ne (by omega)).trans ((show Xi U16 974 (q).toNat = Xi S 974 (q).toNat from by rw [eU16]; exact Xi_ne (by omega)))))
        have w381 : Xi U19 975 (q).toNat = Xi S 975 (q).toNat := (show Xi U19 975 (q).toNat = Xi T18 975 (q).toNat from by rw [eU19]; exact Xi_ne (by omega)).trans ( (show Xi T18 975 (q).toNat = Xi U17 975 (q).toNat from (w213.cx 975 rfl _).1).trans ( (show Xi U17 975 (q).toNat = Xi U16 975 (q).toNat from by rw [eU17]; exact Xi_ne (by omega)).trans ((show Xi U16 975 (q).toNat = Xi S 975 (q).toNat from by rw [eU16]; exact Xi_ne (by omega)))))
        have w382 : Xi U19 904 106 = Xi T18 904 106 := (show Xi U19 904 106 = Xi T18 904 106 from by rw [eU19]; exact Xi_ne (by omega))
        have w383 : 0 ≤ Xi T18 904 106 ∧ Xi T18 904 106 ≤ 9 := hHT18.c _ _
        have w384 : Xi U19 904 113 = Xi S 904 113 := (show Xi U19 904 113 = Xi T18 904 113 from by rw [eU19]; exact Xi_ne (by omega)).trans ( (show Xi T18 904 113 = Xi U17 904 113 from w213.x _ _ rfl).trans ( (show Xi U17 904 113 = Xi U16 904 113 from by rw [eU17]; exact Xi_ne (by omega)).trans ((show Xi U16 904 113 = Xi S 904 113 from by rw [eU16]; exact Xi_ne (by omega)))))
        have w385 : -1 ≤ Xi S 904 113 ∧ Xi S 904 113 ≤ 6411 := hH.c _ _
        have w386 : Xi U19 904 69 = Xi S 904 69 := (show Xi U19 904 69 = Xi T18 904 69 from by rw [eU19]; exact Xi_ne (by omega)).trans ( (show Xi T18 904 69 = Xi U17 904 69 from w213.x _ _ rfl).trans ( (show Xi U17 904 69 = Xi U16 904 69 from by rw [eU17]; exact Xi_ne (by omega)).trans ((show Xi U16 904 69 = Xi S 904 69 from by rw [eU16]; exact Xi_ne (by omega)))))
        have w387 : 0 ≤ Xi S 904 69 ∧ Xi S 904 69 ≤ 2600 := hH.c _ _
        exact ⟨hHU19, hFU19, rfl, (by omega), (by first | exact (fun _ q => (by have s := f52 (by omega); exact tq_5 (by omega) (thk_c (b := 0 ≤ Xi S 904 115) (c := 0 ≤ Xi S 904 116) (S := S) (by have t := s.1; unfold thK at *; have a := h52; omega) (hFU19.x 904 19 rfl) (by omega)) (thk_c (S := S) (by have t := s.2.1; unfold thK at *; have a := h52; omega) (hFU19.x 904 19 rfl) (by omega)) (by have t := s.2.2; omega))) f52 | exact (fun _ q => tq_3 (by omega) (thk_c (H209) (hFU19.x 904 19 rfl) (by omega)) (adx_c (W209 (by omega)) (hFU19.x 904 23 rfl) (hFU19.x 904 32 rfl) (by omega))) W209 | exact (fun _ q => tq_4 (by omega) (thk_c (th107 (by omega)) (hFU19.x 904 19 rfl) (by omega))) q299 | exact (fun _ q => tq_2 (by omega) (thk_c (th107 (by omega)) (hFU19.x 904 19 rfl) (by omega)) (by have a := hFU19.x 904 32 rfl; omega) (fun _ => o386)) o386 | exact (fun _ q => tq_2 (by omega) (thk_c (th107 (by omega)) (hFU19.x 904 19 rfl) (by omega)) (by have a := hFU19.x 904 32 rfl; omega) (fun y => absurd y (by omega))) p337 | exact fun x => absurd x (by omega)), (by first | exact fun x y => ⟨by omega, fun z => absurd z (by omega)⟩ | exact (fun _ q => fun y => ⟨by omega, fun _ z => by rw [(hFU19.cx 922 rfl _).1, show Xi U19 973 (q).toNat = _ from by omega]; exact (W209 (by omega)).2 (by omega) (by omega)⟩) W209 | exact fun x => absurd x (by omega)), ((KQ.w (KQ_FR w213 rfl (KQ.w (KQ.w KQ.rf eU16 (by omega)) eU17 (by omega))) eU19 (by omega)))⟩
      · refine l_aload_n rfl rfl ?_
        refine l_gfr rfl rfl rfl rfl rfl (hHU19.r 904 86 956 rfl) ?_
        refine l_iload_n rfl rfl ?_
        refine l_iaload (n := 1700) rfl rfl (by omega) (by omega) (by unfold rg; omega) ?_
        have w388 : 0 ≤ (Xi U19 956 ((i).toNat)) ∧ (Xi U19 956 ((i).toNat)) ≤ 2600 := hHU19.c _ _
        have e142 : (Xi U19 956 ((i).toNat)) = Xi S 956 (i).toNat := by first | rfl | exact (hFU19.cx 956 rfl _).1
        refine l_istore rfl rfl rfl ?_
        refine l_aload_n rfl rfl ?_
        refine l_gfr rfl rfl rfl rfl rfl (hHU19.r 904 68 951 rfl) ?_
        refine l_iload rfl rfl ?_
        refine l_iaload (n := 2600) rfl rfl (by omega) (by omega) (by unfold rg; omega) ?_
        have w389 : 0 ≤ (Xi U19 951 (((Xi U19 956 ((i).toNat))).toNat)) ∧ (Xi U19 951 (((Xi U19 956 ((i).toNat))).toNat)) ≤ 5010 := hHU19.c _ _
        have e151 : (Xi U19 951 (((Xi U19 956 ((i).toNat))).toNat)) = Xi S 951 ((Xi U19 956 ((i).toNat))).toNat := by first | rfl | exact (hFU19.cx 951 rfl _).1
        have g151 := hrf (Xi U19 956 ((i).toNat)) (by omega) (by omega)
        refine l_iconst rfl ?_
        refine l_icmp_le rfl rfl (by unfold rg; omega) (by unfold rg; omega) (fun w390 => ?_) (fun w391 => ?_)
        · refine l_aload_n rfl rfl ?_
          refine l_aload_n rfl rfl ?_
          refine l_gfr rfl rfl rfl rfl rfl (hHU19.r 904 67 950 rfl) ?_
          refine l_iload rfl rfl ?_
          refine l_iaload (n := 2600) rfl rfl (by omega) (by omega) (by unfold rg; omega) ?_
          have w392 : 0 ≤ (Xi U19 950 (((Xi U19 956 ((i).toNat))).toNat)) ∧ (Xi U19 950 (((Xi U19 956 ((i).toNat))).toNat)) ≤ 5010 := hHU19.c _ _
          have e167 : (Xi U19 950 (((Xi U19 956 ((i).toNat))).toNat)) = Xi S 950 ((Xi U19 956 ((i).toNat))).toNat := by first | rfl | exact (hFU19.cx 950 rfl _).1
          refine l_aload_n rfl rfl ?_
          refine l_gfr rfl rfl rfl rfl rfl (hHU19.r 904 68 951 rfl) ?_
          refine l_iload rfl rfl ?_
          refine l_iaload (n := 2600) rfl rfl (by omega) (by omega) (by unfold rg; omega) ?_
          refine l_aload_n rfl rfl ?_
          refine l_iload rfl rfl ?_
          have w393 : Xi U19 904 106 = Xi T18 904 106 := (show Xi U19 904 106 = Xi T18 904 106 from by rw [eU19]; exact Xi_ne (by omega))
          have w394 : 0 ≤ Xi T18 904 106 ∧ Xi T18 904 106 ≤ 9 := hHT18.c _ _
          have w395 : Xi U19 904 113 = Xi S 904 113 := (show Xi U19 904 113 = Xi T18 904 113 from by rw [eU19]; exact Xi_ne (by omega)).trans ( (show Xi T18 904 113 = Xi U17 904 113 from w213.x _ _ rfl).trans ( (show Xi U17 904 113 = Xi U16 904 113 from by rw [eU17]; exact Xi_ne (by omega)).trans ((show Xi U16 904 113 = Xi S 904 113 from by rw [eU16]; exact Xi_ne (by omega)))))
          have w396 : -1 ≤ Xi S 904 113 ∧ Xi S 904 113 ≤ 6411 := hH.c _ _
          have w397 : Xi U19 904 69 = Xi S 904 69 := (show Xi U19 904 69 = Xi T18 904 69 from by rw [eU19]; exact Xi_ne (by omega)).trans ( (show Xi T18 904 69 = Xi U17 904 69 from w213.x _ _ rfl).trans ( (show Xi U17 904 69 = Xi U16 904 69 from by rw [eU17]; exact Xi_ne (by omega)).trans ((show Xi U16 904 69 = Xi S 904 69 from by rw [eU16]; exact Xi_ne (by omega)))))
          have w398 : 0 ≤ Xi S 904 69 ∧ Xi S 904 69 ≤ 2600 := hH.c _ _
          refine l_callV rfl rfl rfl (t_mo_kindOfThing hHU19 z212 ⟨by omega, by omega⟩ (by first | assumption | omega) _) ?_
          rintro _ _ ⟨rfl, z399, rfl, w399⟩
          show Rl _ _ _ _ _ [iv z399, iv (Xi U19 951 (((Xi U19 956 ((i).toNat))).toNat)), iv (Xi U19 950 (((Xi U19 956 ((i).toNat))).toNat)), .ref 904] _ _
          refine l_iload_n rfl rfl ?_
          refine l_if_ne rfl rfl (by unfold rg; omega) (fun w400 => ?_) (fun w401 => ?_)
          · refine l_iconst rfl ?_
            refine l_aload_n rfl rfl ?_
            refine l_gfr rfl rfl rfl rfl rfl (hHU19.r 904 83 953 rfl) ?_
            refine l_iload_n rfl rfl ?_
            refine l_baload (n := 1700) rfl rfl rfl (by decide) (by omega) (by omega) (by unfold rg; omega) ?_
            have w402 : (Xi U19 953 ((i).toNat)) = (Xi U16 953 ((i).toNat)) := (show Xi U19 953 ((i).toNat) = Xi T18 953 ((i).toNat) from by rw [eU19]; exact Xi_ne (by omega)).trans ( (show Xi T18 953 ((i).toNat) = Xi U17 953 ((i).toNat) from w213.x _ _ rfl).trans ((show Xi U17 953 ((i).toNat) = Xi U16 953 ((i).toNat) from by rw [eU17]; exact Xi_ne (by omega))))
            rw [w402]
            refine l_if_ne rfl rfl (by unfold rg; omega) (fun w403 => ?_) (fun w404 => ?_)
            · refine l_iconst rfl ?_
              have w405 : Xi U19 904 106 = Xi T18 904 106 := (show Xi U19 904 106 = Xi T18 904 106 from by rw [eU19]; exact Xi_ne (by omega))
              have w406 : 0 ≤ Xi T18 904 106 ∧ Xi T18 904 106 ≤ 9 := hHT18.c _ _
              have w407 : Xi U19 904 113 = Xi S 904 113 := (show Xi U19 904 113 = Xi T18 904 113 from by rw [eU19]; exact Xi_ne (by omega)).trans ( (show Xi T18 904 113 = Xi U17 904 113 from w213.x _ _ rfl).trans ( (show Xi U17 904 113 = Xi U16 904 113 from by rw [eU17]; exact Xi_ne (by omega)).trans ((show Xi U16 904 113 = Xi S 904 113 from by rw [eU16]; exact Xi_ne (by omega)))))
              have w408 : -1 ≤ Xi S 904 113 ∧ Xi S 904 113 ≤ 6411 := hH.c _ _
              have w409 : Xi U19 904 69 = Xi S 904 69 := (show Xi U19 904 69 = Xi T18 904 69 from by rw [eU19]; exact Xi_ne (by omega)).trans ( (show Xi T18 904 69 = Xi U17 904 69 from w213.x _ _ rfl).trans ( (show Xi U17 904 69 = Xi U16 904 69 from by rw [eU17]; exact Xi_ne (by omega)).trans ((show Xi U16 904 69 = Xi S 904 69 from by rw [eU16]; exact Xi_ne (by omega)))))
              have w410 : 0 ≤ Xi S 904 69 ∧ Xi S 904 69 ≤ 2600 := hH.c _ _
              refine l_callV rfl rfl rfl (t_mo_adjective__2 hHU19 (Xi U19 950 (((Xi U19 956 ((i).toNat))).toNat)) (Xi U19 951 (((Xi U19 956 ((i).toNat))).toNat)) z399 0 0 ⟨by omega, by omega⟩ ⟨by omega, by omega⟩ ⟨by omega, by omega⟩ ⟨by omega, by omega⟩ ⟨by omega, by omega⟩ (by first | assumption | omega) (by first | assumption | exact (LXM_FR hFU19 rfl (by assumption : LXM S))) (by first | assumption | exact (ABV_FR hFU19 rfl (by assumption : ABV S))) (by first | assumption | exact (DCM_FR hFU19 rfl (by assumption : DCM S))) _) ?_
              rintro _ T30 ⟨hHT30, w415, z414, rfl, w414, w411, w412, w413⟩
              have hFT30 : FR md_mo_testMeant S T30 := FR.tr hFU19 w415 rfl
              show Rl _ _ _ _ _ [iv z414] _ _
              have A204 : 1 ≤ z414 → ADX S (1 - isNow) (Xi T30 904 113) := fun x => ⟨by have t := (by assumption : 1 ≤ z414 → ADM T30 (Xi T30 904 113)) x; unfold ADM at *; rw [hFT30.x 904 23 rfl, hFT30.x 904 32 rfl] at t; exact t, fun y z => by have t := (by assumption : 1 ≤ z414 → _ = 0 → Xi T30 904 113 < 100 → _) x (by omega) z; rw [(hFU19.cx 922 rfl _).1] at t; exact t⟩
              refine l_istore rfl rfl rfl ?_
              have w416 : Xi T30 969 (q).toNat = Xi U16 969 (q).toNat := (show Xi T30 969 (q).toNat = Xi U19 969 (q).toNat from (w415.cx 969 rfl _).1).trans ( (show Xi U19 969 (q).toNat = Xi T18 969 (q).toNat from by rw [eU19]; exact Xi_ne (by omega)).trans ( (show Xi T18 969 (q).toNat = Xi U17 969 (q).toNat from (w213.cx 969 rfl _).1).trans ((show Xi U17 969 (q).toNat = Xi U16 969 (q).toNat from by rw [eU17]; exact Xi_ne (by omega)))))
              have w417 : Xi T30 971 (q).toNat = Xi U19 971 (q).toNat := (show Xi T30 971 (q).toNat = Xi U19 971 (q).toNat from (w415.cx 971 rfl _).1)
              have w418 : Xi T30 972 (q).toNat = Xi S 972 (q).toNat := (show Xi T30 972 (q).toNat = Xi U19 972 (q).toNat from (w415.cx 972 rfl _).1).trans ( (show Xi U19 972 (q).toNat = Xi T18 972 (q).toNat from by rw [eU19]; exact Xi_ne (by omega)).trans ( (show Xi T18 972 (q).toNat = Xi U17 972 (q).toNat from (w213.cx 972 rfl _).1).trans ( (show Xi U17 972 (q).toNat = Xi U16 972 (q).toNat from by rw [eU17]; exact Xi_ne (by omega)).trans ((show Xi U16 972 (q).toNat = Xi S 972 (q).toNat from by rw [eU16]; exact Xi_ne (by omega))))))
              have w419 : Xi T30 973 (q).toNat = Xi S 973 (q).toNat := (show Xi T30 973 (q).toNat = Xi U19 973 (q).toNat from (w415.cx 973 rfl _).1).trans ( (show Xi U19 973 (q).toNat = Xi T18 973 (q).toNat from by rw [eU19]; exact Xi_ne (by omega)).trans ( (show Xi T18 973 (q).toNat = Xi U17 973 (q).toNat from (w213.cx 973 rfl _).1).trans ( (show Xi U17 973 (q).toNat = Xi U16 973 (q).toNat from by rw [eU17]; exact Xi_ne (by omega)).trans ((show Xi U16 973 (q).toNat = Xi S 973 (q).toNat from by rw [eU16]; exact Xi_ne (by omega))))))
              have w420 : Xi T30 974 (q).toNat = Xi S 974 (q).toNat := (show Xi T30 974 (q).toNat = Xi U19 974 (q).toNat from (w415.cx 974 rfl _).1).trans ( (show Xi U19 974 (q).toNat = Xi T18 974 (q).toNat from by rw [eU19]; exact Xi_ne (by omega)).trans ( (show Xi T18 974 (q).toNat = Xi U17 974 (q).toNat from (w213.cx 974 rfl _).1).trans ( (show Xi U17 974 (q).toNat = Xi U16 974 (q).toNat from by rw [eU17]; exact Xi_ne (by omega)).trans ((show Xi U16 974 (q).toNat = Xi S 974 (q).toNat from by rw [eU16]; exact Xi_ne (by omega))))))
              have w421 : Xi T30 975 (q).toNat = Xi S 975 (q).toNat := (show Xi T30 975 (q).toNat = Xi U19 975 (q).toNat from (w415.cx 975 rfl _).1).trans ( (show Xi U19 975 (q).toNat = Xi T18 975 (q).toNat from by rw [eU19]; exact Xi_ne (by omega)).trans ( (show Xi T18 975 (q).toNat = Xi U17 975 (q).toNat from (w213.cx 975 rfl _).1).trans ( (show Xi U17 975 (q).toNat = Xi U16 975 (q).toNat from by rw [eU17]; exact Xi_ne (by omega)).trans ((show Xi U16 975 (q).toNat = Xi S 975 (q).toNat from by rw [eU16]; exact Xi_ne (by omega))))))
              have w422 : Xi T30 904 106 = Xi T18 904 106 := (show Xi T30 904 106 = Xi U19 904 106 from w415.x _ _ rfl).trans ((show Xi U19 904 106 = Xi T18 904 106 from by rw [eU19]; exact Xi_ne (by omega)))
              have w423 : 0 ≤ Xi T18 904 106 ∧ Xi T18 904 106 ≤ 9 := hHT18.c _ _
              have w424 : -1 ≤ Xi T30 904 113 ∧ Xi T30 904 113 ≤ 6411 := hHT30.c _ _
              have w425 : Xi T30 904 69 = Xi S 904 69 := (show Xi T30 904 69 = Xi U19 904 69 from w415.x _ _ rfl).trans ( (show Xi U19 904 69 = Xi T18 904 69 from by rw [eU19]; exact Xi_ne (by omega)).trans ( (show Xi T18 904 69 = Xi U17 904 69 from w213.x _ _ rfl).trans ( (show Xi U17 904 69 = Xi U16 904 69 from by rw [eU17]; exact Xi_ne (by omega)).trans ((show Xi U16 904 69 = Xi S 904 69 from by rw [eU16]; exact Xi_ne (by omega))))))
              have w426 : 0 ≤ Xi S 904 69 ∧ Xi S 904 69 ≤ 2600 := hH.c _ _
              exact Rl_weak (C209 T30 hHT30 hFT30 ((Xi U19 956 ((i).toNat))) (z414) (by omega) (by omega) (by omega) (by omega) (by omega) (by omega) (by omega) (th107 (by omega)) (g151) (by first | exact A204 | exact fun x => absurd x (by omega)) ((KQ_FR w415 rfl (KQ.w (KQ_FR w213 rfl (KQ.w (KQ.w KQ.rf eU16 (by omega)) eU17 (by omega))) eU19 (by omega))))) (And.intro rfl (And.intro rfl (And.intro rfl (And.intro rfl (True.intro)))))
            · refine l_iconst rfl ?_
              refine l_goto rfl rfl ?_
              have w427 : Xi U19 904 106 = Xi T18 904 106 := (show Xi U19 904 106 = Xi T18 904 106 from by rw [eU19]; exact Xi_ne (by omega))
              have w428 : 0 ≤ Xi T18 904 106 ∧ Xi T18 904 106 ≤ 9 := hHT18.c _ _
              have w429 : Xi U19 904 113 = Xi S 904 113 := (show Xi U19 904 113 = Xi T18 904 113 from by rw [eU19]; exact Xi_ne (by omega)).trans ( (show Xi T18 904 113 = Xi U17 904 113 from w213.x _ _ rfl).trans ( (show Xi U17 904 113 = Xi U16 904 113 from by rw [eU17]; exact Xi_ne (by omega)).trans ((show Xi U16 904 113 = Xi S 904 113 from by rw [eU16]; exact Xi_ne (by omega)))))
              have w430 : -1 ≤ Xi S 904 113 ∧ Xi S 904 113 ≤ 6411 := hH.c _ _
              have w431 : Xi U19 904 69 = Xi S 904 69 := (show Xi U19 904 69 = Xi T18 904 69 from by rw [eU19]; exact Xi_ne (by omega)).trans ( (show Xi T18 904 69 = Xi U17 904 69 from w213.x _ _ rfl).trans ( (show Xi U17 904 69 = Xi U16 904 69 from by rw [eU17]; exact Xi_ne (by omega)).trans ((show Xi U16 904 69 = Xi S 904 69 from by rw [eU16]; exact Xi_ne (by omega)))))
              have w432 : 0 ≤ Xi S 904 69 ∧ Xi S 904 69 ≤ 2600 := hH.c _ _
              refine l_callV rfl rfl rfl (t_mo_adjective__2 hHU19 (Xi U19 950 (((Xi U19 956 ((i).toNat))).toNat)) (Xi U19 951 (((Xi U19 956 ((i).toNat))).toNat)) z399 0 1 ⟨by omega, by omega⟩ ⟨by omega, by omega⟩ ⟨by omega, by omega⟩ ⟨by omega, by omega⟩ ⟨by omega, by omega⟩ (by first | assumption | omega) (by first | assumption | exact (LXM_FR hFU19 rfl (by assumption : LXM S))) (by first | assumption | exact (ABV_FR hFU19 rfl (by assumption : ABV S))) (by first | assumption | exact (DCM_FR hFU19 rfl (by assumption : DCM S))) _) ?_
              rintro _ T31 ⟨hHT31, w437, z436, rfl, w436, w433, w434, w435⟩
              have hFT31 : FR md_mo_testMeant S T31 := FR.tr hFU19 w437 rfl
              show Rl _ _ _ _ _ [iv z436] _ _
              have A204 : 1 ≤ z436 → ADX S (1 - isNow) (Xi T31 904 113) := fun x => ⟨by have t := (by assumption : 1 ≤ z436 → ADM T31 (Xi T31 904 113)) x; unfold ADM at *; rw [hFT31.x 904 23 rfl, hFT31.x 904 32 rfl] at t; exact t, fun y z => by have t := (by assumption : 1 ≤ z436 → _ = 0 → Xi T31 904 113 < 100 → _) x (by omega) z; rw [(hFU19.cx 922 rfl _).1] at t; exact t⟩
              refine l_istore rfl rfl rfl ?_
              have w438 : Xi T31 969 (q).toNat = Xi U16 969 (q).toNat := (show Xi T31 969 (q).toNat = Xi U19 969 (q).toNat from (w437.cx 969 rfl _).1).trans ( (show Xi U19 969 (q).toNat = Xi T18 969 (q).toNat from by rw [eU19]; exact Xi_ne (by omega)).trans ( (show Xi T18 969 (q).toNat = Xi U17 969 (q).toNat from (w213.cx 969 rfl _).1).trans ((show Xi U17 969 (q).toNat = Xi U16 969 (q).toNat from by rw [eU17]; exact Xi_ne (by omega)))))
              have w439 : Xi T31 971 (q).toNat = Xi U19 971 (q).toNat := (show Xi T31 971 (q).toNat = Xi U19 971 (q).toNat from (w437.cx 971 rfl _).1)
              have w440 : Xi T31 972 (q).toNat = Xi S 972 (q).toNat := (show Xi T31 972 (q).toNat = Xi U19 972 (q).toNat from (w437.cx 972 rfl _).1).trans ( (show Xi U19 972 (q).toNat = Xi T18 972 (q).toNat from by rw [eU19]; exact Xi_ne (by omega)).trans ( (show Xi T18 972 (q).toNat = Xi U17 972 (q).toNat from (w213.cx 972 rfl _).1).trans ( (show Xi U17 972 (q).toNat = Xi U16 972 (q).toNat from by rw [eU17]; exact Xi_ne (by omega)).trans ((show Xi U16 972 (q).toNat = Xi S 972 (q).toNat from by rw [eU16]; exact Xi_ne (by omega))))))
              have w441 : Xi T31 973 (q).toNat = Xi S 973 (q).toNat := (show Xi T31 973 (q).toNat = Xi U19 973 (q).toNat from (w437.cx 973 rfl _).1).trans ( (show Xi U19 973 (q).toNat = Xi T18 973 (q).toNat from by rw [eU19]; exact Xi_ne (by omega)).trans ( (show Xi T18 973 (q).toNat = Xi U17 973 (q).toNat from (w213.cx 973 rfl _).1).trans ( (show Xi U17 973 (q).toNat = Xi U16 973 (q).toNat from by rw [eU17]; exact Xi_ne (by omega)).trans ((show Xi U16 973 (q).toNat = Xi S 973 (q).toNat from by rw [eU16]; exact Xi_ne (by omega))))))
              have w442 : Xi T31 974 (q).toNat = Xi S 974 (q).toNat := (show Xi T31 974 (q).toNat = Xi U19 974 (q).toNat from (w437.cx 974 rfl _).1).trans ( (show Xi U19 974 (q).toNat = Xi T18 974 (q).toNat from by rw [eU19]; exact Xi_ne (by omega)).trans ( (show Xi T18 974 (q).toNat = Xi U17 974 (q).toNat from (w213.cx 974 rfl _).1).trans ( (show Xi U17 974 (q).toNat = Xi U16 974 (q).toNat from by rw [eU17]; exact Xi_ne (by omega)).trans ((show Xi U16 974 (q).toNat = Xi S 974 (q).toNat from by rw [eU16]; exact Xi_ne (by omega))))))
              have w443 : Xi T31 975 (q).toNat = Xi S 975 (q).toNat := (show Xi T31 975 (q).toNat = Xi U19 975 (q).toNat from (w437.cx 975 rfl _).1).trans ( (show Xi U19 975 (q).toNat = Xi T18 975 (q).toNat from by rw [eU19]; exact Xi_ne (by omega)).trans ( (show Xi T18 975 (q).toNat = Xi U17 975 (q).toNat from (w213.cx 975 rfl _).1).trans ( (show Xi U17 975 (q).toNat = Xi U16 975 (q).toNat from by rw [eU17]; exact Xi_ne (by omega)).trans ((show Xi U16 975 (q).toNat = Xi S 975 (q).toNat from by rw [eU16]; exact Xi_ne (by omega))))))
              have w444 : Xi T31 904 106 = Xi T18 904 106 := (show Xi T31 904 106 = Xi U19 904 106 from w437.x _ _ rfl).trans ((show Xi U19 904 106 = Xi T18 904 106 from by rw [eU19]; exact Xi_ne (by omega)))
              have w445 : 0 ≤ Xi T18 904 106 ∧ Xi T18 904 106 ≤ 9 := hHT18.c _ _
              have w446 : -1 ≤ Xi T31 904 113 ∧ Xi T31 904 113 ≤ 6411 := hHT31.c _ _
              have w447 : Xi T31 904 69 = Xi S 904 69 := (show Xi T31 904 69 = Xi U19 904 69 from w437.x _ _ rfl).trans ( (show Xi U19 904 69 = Xi T18 904 69 from by rw [eU19]; exact Xi_ne (by omega)).trans ( (show Xi T18 904 69 = Xi U17 904 69 from w213.x _ _ rfl).trans ( (show Xi U17 904 69 = Xi U16 904 69 from by rw [eU17]; exact Xi_ne (by omega)).trans ((show Xi U16 904 69 = Xi S 904 69 from by rw [eU16]; exact Xi_ne (by omega))))))
              have w448 : 0 ≤ Xi S 904 69 ∧ Xi S 904 69 ≤ 2600 := hH.c _ _
              exact Rl_weak (C209 T31 hHT31 hFT31 ((Xi U19 956 ((i).toNat))) (z436) (by omega) (by omega) (by omega) (by omega) (by omega) (by omega) (by omega) (th107 (by omega)) (g151) (by first | exact A204 | exact fun x => absurd x (by omega)) ((KQ_FR w437 rfl (KQ.w (KQ_FR w213 rfl (KQ.w (KQ.w KQ.rf eU16 (by omega)) eU17 (by omega))) eU19 (by omega))))) (And.intro rfl (And.intro rfl (And.intro rfl (And.intro rfl (True.intro)))))
          · refine l_iconst rfl ?_
            refine l_goto rfl rfl ?_
            refine l_aload_n rfl rfl ?_
            refine l_gfr rfl rfl rfl rfl rfl (hHU19.r 904 83 953 rfl) ?_
            refine l_iload_n rfl rfl ?_
            refine l_baload (n := 1700) rfl rfl rfl (by decide) (by omega) (by omega) (by unfold rg; omega) ?_
            have w449 : (Xi U19 953 ((i).toNat)) = (Xi U16 953 ((i).toNat)) := (show Xi U19 953 ((i).toNat) = Xi T18 953 ((i).toNat) from by rw [eU19]; exact Xi_ne (by omega)).trans ( (show Xi T18 953 ((i).toNat) = Xi U17 953 ((i).toNat) from w213.x _ _ rfl).trans ((show Xi U17 953 ((i).toNat) = Xi U16 953 ((i).toNat) from by rw [eU17]; exact Xi_ne (by omega))))
            rw [w449]
            refine l_if_ne rfl rfl (by unfold rg; omega) (fun w450 => ?_) (fun w451 => ?_)
            · refine l_iconst rfl ?_
              have w452 : Xi U19 904 106 = Xi T18 904 106 := (show Xi U19 904 106 = Xi T18 904 106 from by rw [eU19]; exact Xi_ne (by omega))
              have w453 : 0 ≤ Xi T18 904 106 ∧ Xi T18 904 106 ≤ 9 := hHT18.c _ _
              have w454 : Xi U19 904 113 = Xi S 904 113 := (show Xi U19 904 113 = Xi T18 904 113 from by rw [eU19]; exact Xi_ne (by omega)).trans ( (show Xi T18 904 113 = Xi U17 904 113 from w213.x _ _ rfl).trans ( (show Xi U17 904 113 = Xi U16 904 113 from by rw [eU17]; exact Xi_ne (by omega)).trans ((show Xi U16 904 113 = Xi S 904 113 from by rw [eU16]; exact Xi_ne (by omega)))))
              have w455 : -1 ≤ Xi S 904 113 ∧ Xi S 904 113 ≤ 6411 := hH.c _ _
              have w456 : Xi U19 904 69 = Xi S 904 69 := (show Xi U19 904 69 = Xi T18 904 69 from by rw [eU19]; exact Xi_ne (by omega)).trans ( (show Xi T18 904 69 = Xi U17 904 69 from w213.x _ _ rfl).trans ( (show Xi U17 904 69 = Xi U16 904 69 from by rw [eU17]; exact Xi_ne (by omega)).trans ((show Xi U16 904 69 = Xi S 904 69 from by rw [eU16]; exact Xi_ne (by omega)))))
              have w457 : 0 ≤ Xi S 904 69 ∧ Xi S 904 69 ≤ 2600 := hH.c _ _
              refine l_callV rfl rfl rfl (t_mo_adjective__2 hHU19 (Xi U19 950 (((Xi U19 956 ((i).toNat))).toNat)) (Xi U19 951 (((Xi U19 956 ((i).toNat))).toNat)) z399 1 0 ⟨by omega, by omega⟩ ⟨by omega, by omega⟩ ⟨by omega, by omega⟩ ⟨by omega, by omega⟩ ⟨by omega, by omega⟩ (by first | assumption | omega) (by first | assumption | exact (LXM_FR hFU19 rfl (by assumption : LXM S))) (by first | assumption | exact (ABV_FR hFU19 rfl (by assumption : ABV S))) (by first | assumption | exact (DCM_FR hFU19 rfl (by assumption : DCM S))) _) ?_
              rintro _ T32 ⟨hHT32, w462, z461, rfl, w461, w458, w459, w460⟩
              have hFT32 : FR md_mo_testMeant S T32 := FR.tr hFU19 w462 rfl
              show Rl _ _ _ _ _ [iv z461] _ _
              have A204 : 1 ≤ z461 → ADX S (1 - isNow) (Xi T32 904 113) := fun x => ⟨by have t := (by assumption : 1 ≤ z461 → ADM T32 (Xi T32 904 113)) x; unfold ADM at *; rw [hFT32.x 904 23 rfl, hFT32.x 904 32 rfl] at t; exact t, fun y z => by have t := (by assumption : 1 ≤ z461 → _ = 0 → Xi T32 904 113 < 100 → _) x (by omega) z; rw [(hFU19.cx 922 rfl _).1] at t; exact t⟩
              refine l_istore rfl rfl rfl ?_
              have w463 : Xi T32 969 (q).toNat = Xi U16 969 (q).toNat := (show Xi T32 969 (q).toNat = Xi U19 969 (q).toNat from (w462.cx 969 rfl _).1).trans ( (show Xi U19 969 (q).toNat = Xi T18 969 (q).toNat from by rw [eU19]; exact Xi_ne (by omega)).trans ( (show Xi T18 969 (q).toNat = Xi U17 969 (q).toNat from (w213.cx 969 rfl _).1).trans ((show Xi U17 969 (q).toNat = Xi U16 969 (q).toNat from by rw [eU17]; exact Xi_ne (by omega)))))
              have w464 : Xi T32 971 (q).toNat = Xi U19 971 (q).toNat := (show Xi T32 971 (q).toNat = Xi U19 971 (q).toNat from (w462.cx 971 rfl _).1)
              have w465 : Xi T32 972 (q).toNat = Xi S 972 (q).toNat := (show Xi T32 972 (q).toNat = Xi U19 972 (q).toNat from (w462.cx 972 rfl _).1).trans ( (show Xi U19 972 (q).toNat = Xi T18 972 (q).toNat from by rw [eU19]; exact Xi_ne (by omega)).trans ( (show Xi T18 972 (q).toNat = Xi U17 972 (q).toNat from (w213.cx 972 rfl _).1).trans ( (show Xi U17 972 (q).toNat = Xi U16 972 (q).toNat from by rw [eU17]; exact Xi_ne (by omega)).trans ((show Xi U16 972 (q).toNat = Xi S 972 (q).toNat from by rw [eU16]; exact Xi_ne (by omega))))))
              have w466 : Xi T32 973 (q).toNat = Xi S 973 (q).toNat := (show Xi T32 973 (q).toNat = Xi U19 973 (q).toNat from (w462.cx 973 rfl _).1).trans ( (show Xi U19 973 (q).toNat = Xi T18 973 (q).toNat from by rw [eU19]; exact Xi_ne (by omega)).trans ( (show Xi T18 973 (q).toNat = Xi U17 973 (q).toNat from (w213.cx 973 rfl _).1).trans ( (show Xi U17 973 (q).toNat = Xi U16 973 (q).toNat from by rw [eU17]; exact Xi_ne (by omega)).trans ((show Xi U16 973 (q).toNat = Xi S 973 (q).toNat from by rw [eU16]; exact Xi_ne (by omega))))))
              have w467 : Xi T32 974 (q).toNat = Xi S 974 (q).toNat := (show Xi T32 974 (q).toNat = Xi U19 974 (q).toNat from (w462.cx 974 rfl _).1).trans ( (show Xi U19 974 (q).toNat = Xi T18 974 (q).toNat from by rw [eU19]; exact Xi_ne (by omega)).trans ( (show Xi T18 974 (q).toNat = Xi U17 974 (q).toNat from (w213.cx 974 rfl _).1).trans ( (show Xi U17 974 (q).toNat = Xi U16 974 (q).toNat from by rw [eU17]; exact Xi_ne (by omega)).trans ((show Xi U16 974 (q).toNat = Xi S 974 (q).toNat from by rw [eU16]; exact Xi_ne (by omega))))))
              have w468 : Xi T32 975 (q).toNat = Xi S 975 (q).toNat := (show Xi T32 975 (q).toNat = Xi U19 975 (q).toNat from (w462.cx 975 rfl _).1).trans ( (show Xi U19 975 (q).toNat = Xi T18 975 (q).toNat from by rw [eU19]; exact Xi_ne (by omega)).trans ( (show Xi T18 975 (q).toNat = Xi U17 975 (q).toNat from (w213.cx 975 rfl _).1).trans ( (show Xi U17 975 (q).toNat = Xi U16 975 (q).toNat from by rw [eU17]; exact Xi_ne (by omega)).trans ((show Xi U16 975 (q).toNat = Xi S 975 (q).toNat from by rw [eU16]; exact Xi_ne (by omega))))))
              have w469 : Xi T32 904 106 = Xi T18 904 106 := (show Xi T32 904 106 = Xi U19 904 106 from w462.x _ _ rfl).trans ((show Xi U19 904 106 = Xi T18 904 106 from by rw [eU19]; exact Xi_ne (by omega)))
              have w470 : 0 ≤ Xi T18 904 106 ∧ Xi T18 904 106 ≤ 9 := hHT18.c _ _
              have w471 : -1 ≤ Xi T32 904 113 ∧ Xi T32 904 113 ≤ 6411 := hHT32.c _ _
              have w472 : Xi T32 904 69 = Xi S 904 69 := (show Xi T32 904 69 = Xi U19 904 69 from w462.x _ _ rfl).trans ( (show Xi U19 904 69 = Xi T18 904 69 from by rw [eU19]; exact Xi_ne (by omega)).trans ( (show Xi T18 904 69 = Xi U17 904 69 from w213.x _ _ rfl).trans ( (show Xi U17 904 69 = Xi U16 904 69 from by rw [eU17]; exact Xi_ne (by omega)).trans ((show Xi U16 904 69 = Xi S 904 69 from by rw [eU16]; exact Xi_ne (by omega))))))
              have w473 : 0 ≤ Xi S 904 69 ∧ Xi S 904 69 ≤ 2600 := hH.c _ _
              exact Rl_weak (C209 T32 hHT32 hFT32 ((Xi U19 956 ((i).toNat))) (z461) (by omega) (by omega) (by omega) (by omega) (by omega) (by omega) (by omega) (th107 (by omega)) (g151) (by first | exact A204 | exact fun x => absurd x (by omega)) ((KQ_FR w462 rfl (KQ.w (KQ_FR w213 rfl (KQ.w (KQ.w KQ.rf eU16 (by omega)) eU17 (by omega))) eU19 (by omega))))) (And.intro rfl (And.intro rfl (And.intro rfl (And.intro rfl (True.intro)))))
            · refine l_iconst rfl ?_
              refine l_goto rfl rfl ?_
              have w474 : Xi U19 904 106 = Xi T18 904 106 := (show Xi U19 904 106 = Xi T18 904 106 from by rw [eU19]; exact Xi_ne (by omega))
              have w475 : 0 ≤ Xi T18 904 106 ∧ Xi T18 904 106 ≤ 9 := hHT18.c _ _
              have w476 : Xi U19 904 113 = Xi S 904 113 := (show Xi U19 904 113 = Xi T18 904 113 from by rw [eU19]; exact Xi_ne (by omega)).trans ( (show Xi T18 904 113 = Xi U17 904 113 from w213.x _ _ rfl).trans ( (show Xi U17 904 113 = Xi U16 904 113 from by rw [eU17]; exact Xi_ne (by omega)).trans ((show Xi U16 904 113 = Xi S 904 113 from by rw [eU16]; exact Xi_ne (by omega)))))
              have w477 : -1 ≤ Xi S 904 113 ∧ Xi S 904 113 ≤ 6411 := hH.c _ _
              have w478 : Xi U19 904 69 = Xi S 904 69 := (show Xi U19 904 69 = Xi T18 904 69 from by rw [eU19]; exact Xi_ne (by omega)).trans ( (show Xi T18 904 69 = Xi U17 904 69 from w213.x _ _ rfl).trans ( (show Xi U17 904 69 = Xi U16 904 69 from by rw [eU17]; exact Xi_ne (by omega)).trans ((show Xi U16 904 69 = Xi S 904 69 from by rw [eU16]; exact Xi_ne (by omega)))))
              have w479 : 0 ≤ Xi S 904 69 ∧ Xi S 904 69 ≤ 2600 := hH.c _ _
              refine l_callV rfl rfl rfl (t_mo_adjective__2 hHU19 (Xi U19 950 (((Xi U19 956 ((i).toNat))).toNat)) (Xi U19 951 (((Xi U19 956 ((i).toNat))).toNat)) z399 1 1 ⟨by omega, by omega⟩ ⟨by omega, by omega⟩ ⟨by omega, by omega⟩ ⟨by omega, by omega⟩ ⟨by omega, by omega⟩ (by first | assumption | omega) (by first | assumption | exact (LXM_FR hFU19 rfl (by assumption : LXM S))) (by first | assumption | exact (ABV_FR hFU19 rfl (by assumption : ABV S))) (by first | assumption | exact (DCM_FR hFU19 rfl (by assumption : DCM S))) _) ?_
              rintro _ T33 ⟨hHT33, w484, z483, rfl, w483, w480, w481, w482⟩
              have hFT33 : FR md_mo_testMeant S T33 := FR.tr hFU19 w484 rfl
              show Rl _ _ _ _ _ [iv z483] _ _
              have A204 : 1 ≤ z483 → ADX S (1 - isNow) (Xi T33 904 113) := fun x => ⟨by have t := (by assumption : 1 ≤ z483 → ADM T33 (Xi T33 904 113)) x; unfold ADM at *; rw [hFT33.x 904 23 rfl, hFT33.x 904 32 rfl] at t; exact t, fun y z => by have t := (by assumption : 1 ≤ z483 → _ = 0 → Xi T33 904 113 < 100 → _) x (by omega) z; rw [(hFU19.cx 922 rfl _).1] at t; exact t⟩
              refine l_istore rfl rfl rfl ?_
              have w485 : Xi T33 969 (q).toNat = Xi U16 969 (q).toNat := (show Xi T33 969 (q).toNat = Xi U19 969 (q).toNat from (w484.cx 969 rfl _).1).trans ( (show Xi U19 969 (q).toNat = Xi T18 969 (q).toNat from by rw [eU19]; exact Xi_ne (by omega)).trans ( (show Xi T18 969 (q).toNat = Xi U17 969 (q).toNat from (w213.cx 969 rfl _).1).trans ((show Xi U17 969 (q).toNat = Xi U16 969 (q).toNat from by rw [eU17]; exact Xi_ne (by omega)))))
              have w486 : Xi T33 971 (q).toNat = Xi U19 971 (q).toNat := (show Xi T33 971 (q).toNat = Xi U19 971 (q).toNat from (w484.cx 971 rfl _).1)
              have w487 : Xi T33 972 (q).toNat = Xi S 972 (q).toNat := (show Xi T33 972 (q).toNat = Xi U19 972 (q).toNat from (w484.cx 972 rfl _).1).trans ( (show Xi U19 972 (q).toNat = Xi T18 972 (q).toNat from by rw [eU19]; exact Xi_ne (by omega)).trans ( (show Xi T18 972 (q).toNat = Xi U17 972 (q).toNat from (w213.cx 972 rfl _).1).trans ( (show Xi U17 972 (q).toNat = Xi U16 972 (q).toNat from by rw [eU17]; exact Xi_ne (by omega)).trans ((show Xi U16 972 (q).toNat = Xi S 972 (q).toNat from by rw [eU16]; exact Xi_ne (by omega))))))
              have w488 : Xi T33 973 (q).toNat = Xi S 973 (q).toNat := (show Xi T33 973 (q).toNat = Xi U19 973 (q).toNat from (w484.cx 973 rfl _).1).trans ( (show Xi U19 973 (q).toNat = Xi T18 973 (q).toNat from by rw [eU19]; exact Xi_ne (by omega)).trans ( (show Xi T18 973 (q).toNat = Xi U17 973 (q).toNat from (w213.cx 973 rfl _).1).trans ( (show Xi U17 973 (q).toNat = Xi U16 973 (q).toNat from by rw [eU17]; exact Xi_ne (by omega)).trans ((show Xi U16 973 (q).toNat = Xi S 973 (q).toNat from by rw [eU16]; exact Xi_ne (by omega))))))
              have w489 : Xi T33 974 (q).toNat = Xi S 974 (q).toNat := (show Xi T33 974 (q).toNat = Xi U19 974 (q).toNat from (w484.cx 974 rfl _).1).trans ( (show Xi U19 974 (q).toNat = Xi T18 974 (q).toNat from by rw [eU19]; exact Xi_ne (by omega)).trans ( (show Xi T18 974 (q).toNat = Xi U17 974 (q).toNat from (w213.cx 974 rfl _).1).trans ( (show Xi U17 974 (q).toNat = Xi U16 974 (q).toNat from by rw [eU17]; exact Xi_ne (by omega)).trans ((show Xi U16 974 (q).toNat = Xi S 974 (q).toNat from by rw [eU16]; exact Xi_ne (by omega))))))
              have w490 : Xi T33 975 (q).toNat = Xi S 975 (q).toNat := (show Xi T33 975 (q).toNat = Xi U19 975 (q).toNat from (w484.cx 975 rfl _).1).trans ( (show Xi U19 975 (q).toNat = Xi T18 975 (q).toNat from by rw [eU19]; exact Xi_ne (by omega)).trans ( (show Xi T18 975 (q).toNat = Xi U17 975 (q).toNat from (w213.cx 975 rfl _).1).trans ( (show Xi U17 975 (q).toNat = Xi U16 975 (q).toNat from by rw [eU17]; exact Xi_ne (by omega)).trans ((show Xi U16 975 (q).toNat = Xi S 975 (q).toNat from by rw [eU16]; exact Xi_ne (by omega))))))
              have w491 : Xi T33 904 106 = Xi T18 904 106 := (show Xi T33 904 106 = Xi U19 904 106 from w484.x _ _ rfl).trans ((show Xi U19 904 106 = Xi T18 904 106 from by rw [eU19]; exact Xi_ne (by omega)))
              have w492 : 0 ≤ Xi T18 904 106 ∧ Xi T18 904 106 ≤ 9 := hHT18.c _ _
              have w493 : -1 ≤ Xi T33 904 113 ∧ Xi T33 904 113 ≤ 6411 := hHT33.c _ _
              have w494 : Xi T33 904 69 = Xi S 904 69 := (show Xi T33 904 69 = Xi U19 904 69 from w484.x _ _ rfl).trans ( (show Xi U19 904 69 = Xi T18 904 69 from by rw [eU19]; exact Xi_ne (by omega)).trans ( (show Xi T18 904 69 = Xi U17 904 69 from w213.x _ _ rfl).trans ( (show Xi U17 904 69 = Xi U16 904 69 from by rw [eU17]; exact Xi_ne (by omega)).trans ((show Xi U16 904 69 = Xi S 904 69 from by rw [eU16]; exact Xi_ne (by omega))))))
              have w495 : 0 ≤ Xi S 904 69 ∧ Xi S 904 69 ≤ 2600 := hH.c _ _
              exact Rl_weak (C209 T33 hHT33 hFT33 ((Xi U19 956 ((i).toNat))) (z483) (by omega) (by omega) (by omega) (by omega) (by omega) (by omega) (by omega) (th107 (by omega)) (g151) (by first | exact A204 | exact fun x => absurd x (by omega)) ((KQ_FR w484 rfl (KQ.w (KQ_FR w213 rfl (KQ.w (KQ.w KQ.rf eU16 (by omega)) eU17 (by omega))) eU19 (by omega))))) (And.intro rfl (And.intro rfl (And.intro rfl (And.intro rfl (True.intro)))))
        · refine l_iconst rfl ?_
          refine l_goto rfl rfl ?_
          refine l_istore rfl rfl rfl ?_
          have w496 : Xi U19 969 (q).toNat = Xi U16 969 (q).toNat := (show Xi U19 969 (q).toNat = Xi T18 969 (q).toNat from by rw [eU19]; exact Xi_ne (by omega)).trans ( (show Xi T18 969 (q).toNat = Xi U17 969 (q).toNat from (w213.cx 969 rfl _).1).trans ((show Xi U17 969 (q).toNat = Xi U16 969 (q).toNat from by rw [eU17]; exact Xi_ne (by omega))))
          have w497 : Xi U19 972 (q).toNat = Xi S 972 (q).toNat := (show Xi U19 972 (q).toNat = Xi T18 972 (q).toNat from by rw [eU19]; exact Xi_ne (by omega)).trans ( (show Xi T18 972 (q).toNat = Xi U17 972 (q).toNat from (w213.cx 972 rfl _).1).trans ( (show Xi U17 972 (q).toNat = Xi U16 972 (q).toNat from by rw [eU17]; exact Xi_ne (by omega)).trans ((show Xi U16 972 (q).toNat = Xi S 972 (q).toNat from by rw [eU16]; exact Xi_ne (by omega)))))
          have w498 : Xi U19 973 (q).toNat = Xi S 973 (q).toNat := (show Xi U19 973 (q).toNat = Xi T18 973 (q).toNat from by rw [eU19]; exact Xi_ne (by omega)).trans ( (show Xi T18 973 (q).toNat = Xi U17 973 (q).toNat from (w213.cx 973 rfl _).1).trans ( (show Xi U17 973 (q).toNat = Xi U16 973 (q).toNat from by rw [eU17]; exact Xi_ne (by omega)).trans ((show Xi U16 973 (q).toNat = Xi S 973 (q).toNat from by rw [eU16]; exact Xi_ne (by omega)))))
          have w499 : Xi U19 974 (q).toNat = Xi S 974 (q).toNat := (show Xi U19 974 (q).toNat = Xi T18 974 (q).toNat from by rw [eU19]; exact Xi_ne (by omega)).trans ( (show Xi T18 974 (q).toNat = Xi U17 974 (q).toNat from (w213.cx 974 rfl _).1).trans ( (show Xi U17 974 (q).toNat = Xi U16 974 (q).toNat from by rw [eU17]; exact Xi_ne (by omega)).trans ((show Xi U16 974 (q).toNat = Xi S 974 (q).toNat from by rw [eU16]; exact Xi_ne (by omega)))))
          have w500 : Xi U19 975 (q).toNat = Xi S 975 (q).toNat := (show Xi U19 975 (q).toNat = Xi T18 975 (q).toNat from by rw [eU19]; exact Xi_ne (by omega)).trans ( (show Xi T18 975 (q).toNat = Xi U17 975 (q).toNat from (w213.cx 975 rfl _).1).trans ( (show Xi U17 975 (q).toNat = Xi U16 975 (q).toNat from by rw [eU17]; exact Xi_ne (by omega)).trans ((show Xi U16 975 (q).toNat = Xi S 975 (q).toNat from by rw [eU16]; exact Xi_ne (by omega)))))
          have w501 : Xi U19 904 106 = Xi T18 904 106 := (show Xi U19 904 106 = Xi T18 904 106 from by rw [eU19]; exact Xi_ne (by omega))
          have w502 : 0 ≤ Xi T18 904 106 ∧ Xi T18 904 106 ≤ 9 := hHT18.c _ _
          have w503 : Xi U19 904 113 = Xi S 904 113 := (show Xi U19 904 113 = Xi T18 904 113 from by rw [eU19]; exact Xi_ne (by omega)).trans ( (show Xi T18 904 113 = Xi U17 904 113 from w213.x _ _ rfl).trans ( (show Xi U17 904 113 = Xi U16 904 113 from by rw [eU17]; exact Xi_ne (by omega)).trans ((show Xi U16 904 113 = Xi S 904 113 from by rw [eU16]; exact Xi_ne (by omega)))))
          have w504 : -1 ≤ Xi S 904 113 ∧ Xi S 904 113 ≤ 6411 := hH.c _ _
          have w505 : Xi U19 904 69 = Xi S 904 69 := (show Xi U19 904 69 = Xi T18 904 69 from by rw [eU19]; exact Xi_ne (by omega)).trans ( (show Xi T18 904 69 = Xi U17 904 69 from w213.x _ _ rfl).trans ( (show Xi U17 904 69 = Xi U16 904 69 from by rw [eU17]; exact Xi_ne (by omega)).trans ((show Xi U16 904 69 = Xi S 904 69 from by rw [eU16]; exact Xi_ne (by omega)))))
          have w506 : 0 ≤ Xi S 904 69 ∧ Xi S 904 69 ≤ 2600 := hH.c _ _
          exact Rl_weak (C209 U19 hHU19 hFU19 ((Xi U19 956 ((i).toNat))) (0) (by omega) (by omega) (by omega) (by omega) (by omega) (by omega) (by omega) (th107 (by omega)) (g151) (by first | exact A204 | exact fun x => absurd x (by omega)) ((KQ.w (KQ_FR w213 rfl (KQ.w (KQ.w KQ.rf eU16 (by omega)) eU17 (by omega))) eU19 (by omega)))) (And.intro rfl (And.intro rfl (And.intro rfl (And.intro rfl (True.intro)))))
  · refine l_aload_n rfl rfl ?_
    refine l_gfr rfl rfl rfl rfl rfl (hHU17.r 904 91 961 rfl) ?_
    refine l_iload_n rfl rfl ?_
    refine l_iaload (n := 1700) rfl rfl (by omega) (by omega) (by unfold rg; omega) ?_
    have w507 : 0 ≤ (Xi U17 961 ((i).toNat)) ∧ (Xi U17 961 ((i).toNat)) ≤ 5010 := hHU17.c _ _
    have e39 : (Xi U17 961 ((i).toNat)) = Xi S 961 (i).toNat := by first | rfl | exact (hFU17.cx 961 rfl _).1
    refine l_istore rfl rfl rfl ?_
    refine l_aload_n rfl rfl ?_
    refine l_iload rfl rfl ?_
    refine l_aload_n rfl rfl ?_
    refine l_gfr rfl rfl rfl rfl rfl (hHU17.r 904 92 962 rfl) ?_
    refine l_iload_n rfl rfl ?_
    refine l_iaload (n := 1700) rfl rfl (by omega) (by omega) (by unfold rg; omega) ?_
    have w508 : 0 ≤ (Xi U17 962 ((i).toNat)) ∧ (Xi U17 962 ((i).toNat)) ≤ 5010 := hHU17.c _ _
    have e50 : (Xi U17 962 ((i).toNat)) = Xi S 962 (i).toNat := by first | rfl | exact (hFU17.cx 962 rfl _).1
    refine l_iload_n rfl rfl ?_
    have w509 : Xi U17 904 106 = Xi S 904 106 := (show Xi U17 904 106 = Xi U16 904 106 from by rw [eU17]; exact Xi_ne (by omega)).trans ((show Xi U16 904 106 = Xi S 904 106 from by rw [eU16]; exact Xi_ne (by omega)))
    have w510 : 0 ≤ Xi S 904 106 ∧ Xi S 904 106 ≤ 9 := hH.c _ _
    have w511 : Xi U17 904 113 = Xi S 904 113 := (show Xi U17 904 113 = Xi U16 904 113 from by rw [eU17]; exact Xi_ne (by omega)).trans ((show Xi U16 904 113 = Xi S 904 113 from by rw [eU16]; exact Xi_ne (by omega)))
    have w512 : -1 ≤ Xi S 904 113 ∧ Xi S 904 113 ≤ 6411 := hH.c _ _
    have w513 : Xi U17 904 69 = Xi S 904 69 := (show Xi U17 904 69 = Xi U16 904 69 from by rw [eU17]; exact Xi_ne (by omega)).trans ((show Xi U16 904 69 = Xi S 904 69 from by rw [eU16]; exact Xi_ne (by omega)))
    have w514 : 0 ≤ Xi S 904 69 ∧ Xi S 904 69 ≤ 2600 := hH.c _ _
    refine l_callV rfl rfl rfl (t_mo_sayings hHU17 (Xi U17 961 ((i).toNat)) (Xi U17 962 ((i).toNat)) q ⟨by omega, by omega⟩ ⟨by omega, by omega⟩ ⟨by omega, by omega⟩ (by first | assumption | exact (LXM_FR hFU17 rfl (by assumption : LXM S))) (by first | assumption | exact (ABV_FR hFU17 rfl (by assumption : ABV S))) (by first | assumption | omega) _) ?_
    rintro _ T34 ⟨hHT34, w517, z516, rfl, w516, f52, w515⟩
    have hFT34 : FR md_mo_testMeant S T34 := FR.tr hFU17 w517 rfl
    show Rl _ _ _ _ _ [iv z516] _ _
    have h52 : Xi T34 904 19 = Xi S 904 19 ∧ Xi T34 904 115 = Xi S 904 115 ∧ Xi T34 904 116 = Xi S 904 116 := ⟨hFT34.x 904 19 rfl, hFT34.x 904 115 rfl, hFT34.x 904 116 rfl⟩
    refine l_istore rfl rfl rfl ?_
    refine l_aload_n rfl rfl ?_
    refine l_iload rfl rfl ?_
    refine l_if_le rfl rfl (by unfold rg; omega) (fun w518 => ?_) (fun w519 => ?_)
    · refine l_iconst rfl ?_
      refine l_iconst rfl ?_
      refine l_iload rfl rfl ?_
      have w520 : Xi T34 904 106 = Xi S 904 106 := (show Xi T34 904 106 = Xi U17 904 106 from w517.x _ _ rfl).trans ( (show Xi U17 904 106 = Xi U16 904 106 from by rw [eU17]; exact Xi_ne (by omega)).trans ((show Xi U16 904 106 = Xi S 904 106 from by rw [eU16]; exact Xi_ne (by omega))))
      have w521 : 0 ≤ Xi S 904 106 ∧ Xi S 904 106 ≤ 9 := hH.c _ _
      have w522 : Xi T34 904 113 = Xi S 904 113 := (show Xi T34 904 113 = Xi U17 904 113 from w517.x _ _ rfl).trans ( (show Xi U17 904 113 = Xi U16 904 113 from by rw [eU17]; exact Xi_ne (by omega)).trans ((show Xi U16 904 113 = Xi S 904 113 from by rw [eU16]; exact Xi_ne (by omega))))
      have w523 : -1 ≤ Xi S 904 113 ∧ Xi S 904 113 ≤ 6411 := hH.c _ _
      have w524 : Xi T34 904 69 = Xi S 904 69 := (show Xi T34 904 69 = Xi U17 904 69 from w517.x _ _ rfl).trans ( (show Xi U17 904 69 = Xi U16 904 69 from by rw [eU17]; exact Xi_ne (by omega)).trans ((show Xi U16 904 69 = Xi S 904 69 from by rw [eU16]; exact Xi_ne (by omega))))
      have w525 : 0 ≤ Xi S 904 69 ∧ Xi S 904 69 ≤ 2600 := hH.c _ _
      refine l_callV rfl rfl rfl (t_mo_need hHT34 0 4 (Xi U17 961 ((i).toNat)) ⟨by omega, by omega⟩ ⟨by omega, by omega⟩ ⟨by omega, by omega⟩ _) ?_
      rintro _ T35 ⟨hHT35, w529, rfl, w526, w527⟩
      have hFT35 : FR md_mo_testMeant S T35 := FR.tr hFT34 w529 rfl
      show Rl _ _ _ _ _ [] _ _
      refine l_aload_n rfl rfl ?_
      refine l_iload rfl rfl ?_
      refine l_iconst rfl ?_
      refine l_icmp_ge rfl rfl (by unfold rg; omega) (by unfold rg; omega) (fun w530 => ?_) (fun w531 => ?_)
      · refine l_iconst rfl ?_
        refine l_bipush rfl rfl ?_
        refine l_iload rfl rfl ?_
        have w532 : 0 ≤ Xi T35 904 106 ∧ Xi T35 904 106 ≤ 9 := hHT35.c _ _
        have w533 : Xi T35 904 113 = Xi S 904 113 := (show Xi T35 904 113 = Xi T34 904 113 from w529.x _ _ rfl).trans ( (show Xi T34 904 113 = Xi U17 904 113 from w517.x _ _ rfl).trans ( (show Xi U17 904 113 = Xi U16 904 113 from by rw [eU17]; exact Xi_ne (by omega)).trans ((show Xi U16 904 113 = Xi S 904 113 from by rw [eU16]; exact Xi_ne (by omega)))))
        have w534 : -1 ≤ Xi S 904 113 ∧ Xi S 904 113 ≤ 6411 := hH.c _ _
        have w535 : Xi T35 904 69 = Xi S 904 69 := (show Xi T35 904 69 = Xi T34 904 69 from w529.x _ _ rfl).trans ( (show Xi T34 904 69 = Xi U17 904 69 from w517.x _ _ rfl).trans ( (show Xi U17 904 69 = Xi U16 904 69 from by rw [eU17]; exact Xi_ne (by omega)).trans ((show Xi U16 904 69 = Xi S 904 69 from by rw [eU16]; exact Xi_ne (by omega)))))
        have w536 : 0 ≤ Xi S 904 69 ∧ Xi S 904 69 ≤ 2600 := hH.c _ _
        refine l_callV rfl rfl rfl (t_mo_need hHT35 0 7 (Xi U17 961 ((i).toNat)) ⟨by omega, by omega⟩ ⟨by omega, by omega⟩ ⟨by omega, by omega⟩ _) ?_
        rintro _ T36 ⟨hHT36, w540, rfl, w537, w538⟩
        have hFT36 : FR md_mo_testMeant S T36 := FR.tr hFT35 w540 rfl
        show Rl _ _ _ _ _ [] _ _
        refine l_return rfl rfl ?_
        have w541 : Xi T36 969 (q).toNat = Xi U16 969 (q).toNat := (show Xi T36 969 (q).toNat = Xi T35 969 (q).toNat from (w540.cx 969 rfl _).1).trans ( (show Xi T35 969 (q).toNat = Xi T34 969 (q).toNat from (w529.cx 969 rfl _).1).trans ( (show Xi T34 969 (q).toNat = Xi U17 969 (q).toNat from (w517.cx 969 rfl _).1).trans ((show Xi U17 969 (q).toNat = Xi U16 969 (q).toNat from by rw [eU17]; exact Xi_ne (by omega)))))
        have w542 : Xi T36 971 (q).toNat = Xi T34 971 (q).toNat := (show Xi T36 971 (q).toNat = Xi T35 971 (q).toNat from (w540.cx 971 rfl _).1).trans ((show Xi T35 971 (q).toNat = Xi T34 971 (q).toNat from (w529.cx 971 rfl _).1))
        have w543 : Xi T36 972 (q).toNat = Xi T34 972 (q).toNat := (show Xi T36 972 (q).toNat = Xi T35 972 (q).toNat from (w540.cx 972 rfl _).1).trans ((show Xi T35 972 (q).toNat = Xi T34 972 (q).toNat from (w529.cx 972 rfl _).1))
        have w544 : Xi T36 973 (q).toNat = Xi S 973 (q).toNat := (show Xi T36 973 (q).toNat = Xi T35 973 (q).toNat from (w540.cx 973 rfl _).1).trans ( (show Xi T35 973 (q).toNat = Xi T34 973 (q).toNat from (w529.cx 973 rfl _).1).trans ( (show Xi T34 973 (q).toNat = Xi U17 973 (q).toNat from (w517.cx 973 rfl _).1).trans ( (show Xi U17 973 (q).toNat = Xi U16 973 (q).toNat from by rw [eU17]; exact Xi_ne (by omega)).trans ((show Xi U16 973 (q).toNat = Xi S 973 (q).toNat from by rw [eU16]; exact Xi_ne (by omega))))))
        have w545 : Xi T36 974 (q).toNat = Xi S 974 (q).toNat := (show Xi T36 974 (q).toNat = Xi T35 974 (q).toNat from (w540.cx 974 rfl _).1).trans ( (show Xi T35 974 (q).toNat = Xi T34 974 (q).toNat from (w529.cx 974 rfl _).1).trans ( (show Xi T34 974 (q).toNat = Xi U17 974 (q).toNat from (w517.cx 974 rfl _).1).trans ( (show Xi U17 974 (q).toNat = Xi U16 974 (q).toNat from by rw [eU17]; exact Xi_ne (by omega)).trans ((show Xi U16 974 (q).toNat = Xi S 974 (q).toNat from by rw [eU16]; exact Xi_ne (by omega))))))
        have w546 : Xi T36 975 (q).toNat = Xi T34 975 (q).toNat := (show Xi T36 975 (q).toNat = Xi T35 975 (q).toNat from (w540.cx 975 rfl _).1).trans ((show Xi T35 975 (q).toNat = Xi T34 975 (q).toNat from (w529.cx 975 rfl _).1))
        have w547 : 0 ≤ Xi T36 904 106 ∧ Xi T36 904 106 ≤ 9 := hHT36.c _ _
        have w548 : Xi T36 904 113 = Xi S 904 113 := (show Xi T36 904 113 = Xi T35 904 113 from w540.x _ _ rfl).trans ( (show Xi T35 904 113 = Xi T34 904 113 from w529.x _ _ rfl).trans ( (show Xi T34 904 113 = Xi U17 904 113 from w517.x _ _ rfl).trans ( (show Xi U17 904 113 = Xi U16 904 113 from by rw [eU17]; exact Xi_ne (by omega)).trans ((show Xi U16 904 113 = Xi S 904 113 from by rw [eU16]; exact Xi_ne (by omega))))))
        have w549 : -1 ≤ Xi S 904 113 ∧ Xi S 904 113 ≤ 6411 := hH.c _ _
        have w550 : Xi T36 904 69 = Xi S 904 69 := (show Xi T36 904 69 = Xi T35 904 69 from w540.x _ _ rfl).trans ( (show Xi T35 904 69 = Xi T34 904 69 from w529.x _ _ rfl).trans ( (show Xi T34 904 69 = Xi U17 904 69 from w517.x _ _ rfl).trans ( (show Xi U17 904 69 = Xi U16 904 69 from by rw [eU17]; exact Xi_ne (by omega)).trans ((show Xi U16 904 69 = Xi S 904 69 from by rw [eU16]; exact Xi_ne (by omega))))))
        have w551 : 0 ≤ Xi S 904 69 ∧ Xi S 904 69 ≤ 2600 := hH.c _ _
        exact ⟨hHT36, hFT36, rfl, (by omega), (by first | exact (fun _ q => (by have s := f52 (by omega); exact tq_5 (by omega) (thk_c (b := 0 ≤ Xi S 904 115) (c := 0 ≤ Xi S 904 116) (S := S) (by have t := s.1; unfold thK at *; have a := h52; omega) (hFT36.x 904 19 rfl) (by omega)) (thk_c (S := S) (by have t := s.2.1; unfold thK at *; have a := h52; omega) (hFT36.x 904 19 rfl) (by omega)) (by have t := s.2.2; omega))) f52 | exact (fun _ q => tq_3 (by omega) (thk_c (H209) (hFT36.x 904 19 rfl) (by omega)) (adx_c (W209 (by omega)) (hFT36.x 904 23 rfl) (hFT36.x 904 32 rfl) (by omega))) W209 | exact (fun _ q => tq_4 (by omega) (thk_c (th107 (by omega)) (hFT36.x 904 19 rfl) (by omega))) q299 | exact (fun _ q => tq_2 (by omega) (thk_c (th107 (by omega)) (hFT36.x 904 19 rfl) (by omega)) (by have a := hFT36.x 904 32 rfl; omega) (fun _ => o386)) o386 | exact (fun _ q => tq_2 (by omega) (thk_c (th107 (by omega)) (hFT36.x 904 19 rfl) (by omega)) (by have a := hFT36.x 904 32 rfl; omega) (fun y => absurd y (by omega))) p337 | exact fun x => absurd x (by omega)), (by first | exact fun x y => ⟨by omega, fun z => absurd z (by omega)⟩ | exact (fun _ q => fun y => ⟨by omega, fun _ z => by rw [(hFT36.cx 922 rfl _).1, show Xi T36 973 (q).toNat = _ from by omega]; exact (W209 (by omega)).2 (by omega) (by omega)⟩) W209 | exact fun x => absurd x (by omega)), ((KQ_FR w540 rfl (KQ_FR w529 rfl (KQ.tr (KQ.w (KQ.w KQ.rf eU16 (by omega)) eU17 (by omega)) (by assumption : KQ T34 U17 _)))))⟩
      · refine l_iconst rfl ?_
        refine l_goto rfl rfl ?_
        refine l_bipush rfl rfl ?_
        refine l_iload rfl rfl ?_
        have w552 : 0 ≤ Xi T35 904 106 ∧ Xi T35 904 106 ≤ 9 := hHT35.c _ _
        have w553 : Xi T35 904 113 = Xi S 904 113 := (show Xi T35 904 113 = Xi T34 904 113 from w529.x _ _ rfl).trans ( (show Xi T34 904 113 = Xi U17 904 113 from w517.x _ _ rfl).trans ( (show Xi U17 904 113 = Xi U16 904 113 from by rw [eU17]; exact Xi_ne (by omega)).trans ((show Xi U16 904 113 = Xi S 904 113 from by rw [eU16]; exact Xi_ne (by omega)))))
        have w554 : -1 ≤ Xi S 904 113 ∧ Xi S 904 113 ≤ 6411 := hH.c _ _
        have w555 : Xi T35 904 69 = Xi S 904 69 := (show Xi T35 904 69 = Xi T34 904 69 from w529.x _ _ rfl).trans ( (show Xi T34 904 69 = Xi U17 904 69 from w517.x _ _ rfl).trans ( (show Xi U17 904 69 = Xi U16 904 69 from by rw [eU17]; exact Xi_ne (by omega)).trans ((show Xi U16 904 69 = Xi S 904 69 from by rw [eU16]; exact Xi_ne (by omega)))))
        have w556 : 0 ≤ Xi S 904 69 ∧ Xi S 904 69 ≤ 2600 := hH.c _ _
        refine l_callV rfl rfl rfl (t_mo_need hHT35 1 7 (Xi U17 961 ((i).toNat)) ⟨by omega, by omega⟩ ⟨by omega, by omega⟩ ⟨by omega, by omega⟩ _) ?_
        rintro _ T37 ⟨hHT37, w560, rfl, w557, w558⟩
        have hFT37 : FR md_mo_testMeant S T37 := FR.tr hFT35 w560 rfl
        show Rl _ _ _ _ _ [] _ _
        refine l_return rfl rfl ?_
        have w561 : Xi T37 969 (q).toNat = Xi U16 969 (q).toNat := (show Xi T37 969 (q).toNat = Xi T35 969 (q).toNat from (w560.cx 969 rfl _).1).trans ( (show Xi T35 969 (q).toNat = Xi T34 969 (q).toNat from (w529.cx 969 rfl _).1).trans ( (show Xi T34 969 (q).toNat = Xi U17 969 (q).toNat from (w517.cx 969 rfl _).1).trans ((show Xi U17 969 (q).toNat = Xi U16 969 (q).toNat from by rw [eU17]; exact Xi_ne (by omega)))))
        have w562 : Xi T37 971 (q).toNat = Xi T34 971 (q).toNat := (show Xi T37 971 (q).toNat = Xi T35 971 (q).toNat from (w560.cx 971 rfl _).1).trans ((show Xi T35 971 (q).toNat = Xi T34 971 (q).toNat from (w529.cx 971 rfl _).1))
        have w563 : Xi T37 972 (q).toNat = Xi T34 972 (q).toNat := (show Xi T37 972 (q).toNat = Xi T35 972 (q).toNat from (w560.cx 972 rfl _).1).trans ((show Xi T35 972 (q).toNat = Xi T34 972 (q).toNat from (w529.cx 972 rfl _).1))
        have w564 : Xi T37 973 (q).toNat = Xi S 973 (q).toNat := (show Xi T37 973 (q).toNat = Xi T35 973 (q).toNat from (w560.cx 973 rfl _).1).trans ( (show Xi T35 973 (q).toNat = Xi T34 973 (q).toNat from (w529.cx 973 rfl _).1).trans ( (show Xi T34 973 (q).toNat = Xi U17 973 (q).toNat from (w517.cx 973 rfl _).1).trans ( (show Xi U17 973 (q).toNat = Xi U16 973 (q).toNat from by rw [eU17]; exact Xi_ne (by omega)).trans ((show Xi U16 973 (q).toNat = Xi S 973 (q).toNat from by rw [eU16]; exact Xi_ne (by omega))))))
        have w565 : Xi T37 974 (q).toNat = Xi S 974 (q).toNat := (show Xi T37 974 (q).toNat = Xi T35 974 (q).toNat from (w560.cx 974 rfl _).1).trans ( (show Xi T35 974 (q).toNat = Xi T34 974 (q).toNat from (w529.cx 974 rfl _).1).trans ( (show Xi T34 974 (q).toNat = Xi U17 974 (q).toNat from (w517.cx 974 rfl _).1).trans ( (show Xi U17 974 (q).toNat = Xi U16 974 (q).toNat from by rw [eU17]; exact Xi_ne (by omega)).trans ((show Xi U16 974 (q).toNat = Xi S 974 (q).toNat from by rw [eU16]; exact Xi_ne (by omega))))))
        have w566 : Xi T37 975 (q).toNat = Xi T34 975 (q).toNat := (show Xi T37 975 (q).toNat = Xi T35 975 (q).toNat from (w560.cx 975 rfl _).1).trans ((show Xi T35 975 (q).toNat = Xi T34 975 (q).toNat from (w529.cx 975 rfl _).1))
        have w567 : 0 ≤ Xi T37 904 106 ∧ Xi T37 904 106 ≤ 9 := hHT37.c _ _
        have w568 : Xi T37 904 113 = Xi S 904 113 := (show Xi T37 904 113 = Xi T35 904 113 from w560.x _ _ rfl).trans ( (show Xi T35 904 113 = Xi T34 904 113 from w529.x _ _ rfl).trans ( (show Xi T34 904 113 = Xi U17 904 113 from w517.x _ _ rfl).trans ( (show Xi U17 904 113 = Xi U16 904 113 from by rw [eU17]; exact Xi_ne (by omega)).trans ((show Xi U16 904 113 = Xi S 904 113 from by rw [eU16]; exact Xi_ne (by omega))))))
        have w569 : -1 ≤ Xi S 904 113 ∧ Xi S 904 113 ≤ 6411 := hH.c _ _
        have w570 : Xi T37 904 69 = Xi S 904 69 := (show Xi T37 904 69 = Xi T35 904 69 from w560.x _ _ rfl).trans ( (show Xi T35 904 69 = Xi T34 904 69 from w529.x _ _ rfl).trans ( (show Xi T34 904 69 = Xi U17 904 69 from w517.x _ _ rfl).trans ( (show Xi U17 904 69 = Xi U16 904 69 from by rw [eU17]; exact Xi_ne (by omega)).trans ((show Xi U16 904 69 = Xi S 904 69 from by rw [eU16]; exact Xi_ne (by omega))))))
        have w571 : 0 ≤ Xi S 904 69 ∧ Xi S 904 69 ≤ 2600 := hH.c _ _
        exact ⟨hHT37, hFT37, rfl, (by omega), (by first | exact (fun _ q => (by have s := f52 (by omega); exact tq_5 (by omega) (thk_c (b := 0 ≤ Xi S 904 115) (c := 0 ≤ Xi S 904 116) (S := S) (by have t := s.1; unfold thK at *; have a := h52; omega) (hFT37.x 904 19 rfl) (by omega)) (thk_c (S := S) (by have t := s.2.1; unfold thK at *; have a := h52; omega) (hFT37.x 904 19 rfl) (by omega)) (by have t := s.2.2; omega))) f52 | exact (fun _ q => tq_3 (by omega) (thk_c (H209) (hFT37.x 904 19 rfl) (by omega)) (adx_c (W209 (by omega)) (hFT37.x 904 23 rfl) (hFT37.x 904 32 rfl) (by omega))) W209 | exact (fun _ q => tq_4 (by omega) (thk_c (th107 (by omega)) (hFT37.x 904 19 rfl) (by omega))) q299 | exact (fun _ q => tq_2 (by omega) (thk_c (th107 (by omega)) (hFT37.x 904 19 rfl) (by omega)) (by have a := hFT37.x 904 32 rfl; omega) (fun _ => o386)) o386 | exact (fun _ q => tq_2 (by omega) (thk_c (th107 (by omega)) (hFT37.x 904 19 rfl) (by omega)) (by have a := hFT37.x 904 32 rfl; omega) (fun y => absurd y (by omega))) p337 | exact fun x => absurd x (by omega)), (by first | exact fun x y => ⟨by omega, fun z => absurd z (by omega)⟩ | exact (fun _ q => fun y => ⟨by omega, fun _ z => by rw [(hFT37.cx 922 rfl _).1, show Xi T37 973 (q).toNat = _ from by omega]; exact (W209 (by omega)).2 (by omega) (by omega)⟩) W209 | exact fun x => absurd x (by omega)), ((KQ_FR w560 rfl (KQ_FR w529 rfl (KQ.tr (KQ.w (KQ.w KQ.rf eU16 (by omega)) eU17 (by omega)) (by assumption : KQ T34 U17 _)))))⟩
    · refine l_iconst rfl ?_
      refine l_goto rfl rfl ?_
      refine l_iconst rfl ?_
      refine l_iload rfl rfl ?_
      have w572 : Xi T34 904 106 = Xi S 904 106 := (show Xi T34 904 106 = Xi U17 904 106 from w517.x _ _ rfl).trans ( (show Xi U17 904 106 = Xi U16 904 106 from by rw [eU17]; exact Xi_ne (by omega)).trans ((show Xi U16 904 106 = Xi S 904 106 from by rw [eU16]; exact Xi_ne (by omega))))
      have w573 : 0 ≤ Xi S 904 106 ∧ Xi S 904 106 ≤ 9 := hH.c _ _
      have w574 : Xi T34 904 113 = Xi S 904 113 := (show Xi T34 904 113 = Xi U17 904 113 from w517.x _ _ rfl).trans ( (show Xi U17 904 113 = Xi U16 904 113 from by rw [eU17]; exact Xi_ne (by omega)).trans ((show Xi U16 904 113 = Xi S 904 113 from by rw [eU16]; exact Xi_ne (by omega))))
      have w575 : -1 ≤ Xi S 904 113 ∧ Xi S 904 113 ≤ 6411 := hH.c _ _
      have w576 : Xi T34 904 69 = Xi S 904 69 := (show Xi T34 904 69 = Xi U17 904 69 from w517.x _ _ rfl).trans ( (show Xi U17 904 69 = Xi U16 904 69 from by rw [eU17]; exact Xi_ne (by omega)).trans ((show Xi U16 904 69 = Xi S 904 69 from by rw [eU16]; exact Xi_ne (by omega))))
      have w577 : 0 ≤ Xi S 904 69 ∧ Xi S 904 69 ≤ 2600 := hH.c _ _
      refine l_callV rfl rfl rfl (t_mo_need hHT34 1 4 (Xi U17 961 ((i).toNat)) ⟨by omega, by omega⟩ ⟨by omega, by omega⟩ ⟨by omega, by omega⟩ _) ?_
      rintro _ T38 ⟨hHT38, w581, rfl, w578, w579⟩
      have hFT38 : FR md_mo_testMeant S T38 := FR.tr hFT34 w581 rfl
      show Rl _ _ _ _ _ [] _ _
      refine l_aload_n rfl rfl ?_
      refine l_iload rfl rfl ?_
      refine l_iconst rfl ?_
      refine l_icmp_ge rfl rfl (by unfold rg; omega) (by unfold rg; omega) (fun w582 => ?_) (fun w583 => ?_)
      · refine l_iconst rfl ?_
        refine l_bipush rfl rfl ?_
        refine l_iload rfl rfl ?_
        have w584 : 0 ≤ Xi T38 904 106 ∧ Xi T38 904 106 ≤ 9 := hHT38.c _ _
        have w585 : Xi T38 904 113 = Xi S 904 113 := (show Xi T38 904 113 = Xi T34 904 113 from w581.x _ _ rfl).trans ( (show Xi T34 904 113 = Xi U17 904 113 from w517.x _ _ rfl).trans ( (show Xi U17 904 113 = Xi U16 904 113 from by rw [eU17]; exact Xi_ne (by omega)).trans ((show Xi U16 904 113 = Xi S 904 113 from by rw [eU16]; exact Xi_ne (by omega)))))
        have w586 : -1 ≤ Xi S 904 113 ∧ Xi S 904 113 ≤ 6411 := hH.c _ _
        have w587 : Xi T38 904 69 = Xi S 904 69 := (show Xi T38 904 69 = Xi T34 904 69 from w581.x _ _ rfl).trans ( (show Xi T34 904 69 = Xi U17 904 69 from w517.x _ _ rfl).trans ( (show Xi U17 904 69 = Xi U16 904 69 from by rw [eU17]; exact Xi_ne (by omega)).trans ((show Xi U16 904 69 = Xi S 904 69 from by rw [eU16]; exact Xi_ne (by omega)))))
        have w588 : 0 ≤ Xi S 904 69 ∧ Xi S 904 69 ≤ 2600 := hH.c _ _
        refine l_callV rfl rfl rfl (t_mo_need hHT38 0 7 (Xi U17 961 ((i).toNat)) ⟨by omega, by omega⟩ ⟨by omega, by omega⟩ ⟨by omega, by omega⟩ _) ?_
        rintro _ T39 ⟨hHT39, w592, rfl, w589, w590⟩
        have hFT39 : FR md_mo_testMeant S T39 := FR.tr hFT38 w592 rfl
        show Rl _ _ _ _ _ [] _ _
        refine l_return rfl rfl ?_
        have w593 : Xi T39 969 (q).toNat = Xi U16 969 (q).toNat := (show Xi T39 969 (q).toNat = Xi T38 969 (q).toNat from (w592.cx 969 rfl _).1).trans ( (show Xi T38 969 (q).toNat = Xi T34 969 (q).toNat from (w581.cx 969 rfl _).1).trans ( (show Xi T34 969 (q).toNat = Xi U17 969 (q).toNat from (w517.cx 969 rfl _).1).trans ((show Xi U17 969 (q).toNat = Xi U16 969 (q).toNat from by rw [eU17]; exact Xi_ne (by omega)))))
        have w594 : Xi T39 971 (q).toNat = Xi T34 971 (q).toNat := (show Xi T39 971 (q).toNat = Xi T38 971 (q).toNat from (w592.cx 971 rfl _).1).trans ((show Xi T38 971 (q).toNat = Xi T34 971 (q).toNat from (w581.cx 971 rfl _).1))
        have w595 : Xi T39 972 (q).toNat = Xi T34 972 (q).toNat := (show Xi T39 972 (q).toNat = Xi T38 972 (q).toNat from (w592.cx 972 rfl _).1).trans ((show Xi T38 972 (q).toNat = Xi T34 972 (q).toNat from (w581.cx 972 rfl _).1))
        have w596 : Xi T39 973 (q).toNat = Xi S 973 (q).toNat := (show Xi T39 973 (q).toNat = Xi T38 973 (q).toNat from (w592.cx 973 rfl _).1).trans ( (show Xi T38 973 (q).toNat = Xi T34 973 (q).toNat from (w581.cx 973 rfl _).1).trans ( (show Xi T34 973 (q).toNat = Xi U17 973 (q).toNat from (w517.cx 973 rfl _).1).trans ( (show Xi U17 973 (q).toNat = Xi U16 973 (q).toNat from by rw [eU17]; exact Xi_ne (by omega)).trans ((show Xi U16 973 (q).toNat = Xi S 973 (q).toNat from by rw [eU16]; exact Xi_ne (by omega))))))
        have w597 : Xi T39 974 (q).toNat = Xi S 974 (q).toNat := (show Xi T39 974 (q).toNat = Xi T38 974 (q).toNat from (w592.cx 974 rfl _).1).trans ( (show Xi T38 974 (q).toNat = Xi T34 974 (q).toNat from (w581.cx 974 rfl _).1).trans ( (show Xi T34 974 (q).toNat = Xi U17 974 (q).toNat from (w517.cx 974 rfl _).1).trans ( (show Xi U17 974 (q).toNat = Xi U16 974 (q).toNat from by rw [eU17]; exact Xi_ne (by omega)).trans ((show Xi U16 974 (q).toNat = Xi S 974 (q).toNat from by rw [eU16]; exact Xi_ne (by omega))))))
        have w598 : Xi T39 975 (q).toNat = Xi T34 975 (q).toNat := (show Xi T39 975 (q).toNat = Xi T38 975 (q).toNat from (w592.cx 975 rfl _).1).trans ((show Xi T38 975 (q).toNat = Xi T34 975 (q).toNat from (w581.cx 975 rfl _).1))
        have w599 : 0 ≤ Xi T39 904 106 ∧ Xi T39 904 106 ≤ 9 := hHT39.c _ _
        have w600 : Xi T39 904 113 = Xi S 904 113 := (show Xi T39 904 113 = Xi T38 904 113 from w592.x _ _ rfl).trans ( (show Xi T38 904 113 = Xi T34 904 113 from w581.x _ _ rfl).trans ( (show Xi T34 904 113 = Xi U17 904 113 from w517.x _ _ rfl).trans ( (show Xi U17 904 113 = Xi U16 904 113 from by rw [eU17]; exact Xi_ne (by omega)).trans ((show Xi U16 904 113 = Xi S 904 113 from by rw [eU16]; exact Xi_ne (by omega))))))
        have w601 : -1 ≤ Xi S 904 113 ∧ Xi S 904 113 ≤ 6411 := hH.c _ _
        have w602 : Xi T39 904 69 = Xi S 904 69 := (show Xi T39 904 69 = Xi T38 904 69 from w592.x _ _ rfl).trans ( (show Xi T38 904 69 = Xi T34 904 69 from w581.x _ _ rfl).trans ( (show Xi T34 904 69 = Xi U17 904 69 from w517.x _ _ rfl).trans ( (show Xi U17 904 69 = Xi U16 904 69 from by rw [eU17]; exact Xi_ne (by omega)).trans ((show Xi U16 904 69 = Xi S 904 69 from by rw [eU16]; exact Xi_ne (by omega))))))
        have w603 : 0 ≤ Xi S 904 69 ∧ Xi S 904 69 ≤ 2600 := hH.c _ _
        exact ⟨hHT39, hFT39, rfl, (by omega), (by first | exact (fun _ q => (by have s := f52 (by omega); exact tq_5 (by omega) (thk_c (b := 0 ≤ Xi S 904 115) (c := 0 ≤ Xi S 904 116) (S := S) (by have t := s.1; unfold thK at *; have a := h52; omega) (hFT39.x 904 19 rfl) (by omega)) (thk_c (S := S) (by have t := s.2.1; unfold thK at *; have a := h52; omega) (hFT39.x 904 19 rfl) (by omega)) (by have t := s.2.2; omega))) f52 | exact (fun _ q => tq_3 (by omega) (thk_c (H209) (hFT39.x 904 19 rfl) (by omega)) (adx_c (W209 (by omega)) (hFT39.x 904 23 rfl) (hFT39.x 904 32 rfl) (by omega))) W209 | exact (fun _ q => tq_4 (by omega) (thk_c (th107 (by omega)) (hFT39.x 904 19 rfl) (by omega))) q299 | exact (fun _ q => tq_2 (by omega) (thk_c (th107 (by omega)) (hFT39.x 904 19 rfl) (by omega)) (by have a := hFT39.x 904 32 rfl; omega) (fun _ => o386)) o386 | exact (fun _ q => tq_2 (by omega) (thk_c (th107 (by omega)) (hFT39.x 904 19 rfl) (by omega)) (by have a := hFT39.x 904 32 rfl; omega) (fun y => absurd y (by omega))) p337 | exact fun x => absurd x (by omega)), (by first | exact fun x y => ⟨by omega, fun z => absurd z (by omega)⟩ | exact (fun _ q => fun y => ⟨by omega, fun _ z => by rw [(hFT39.cx 922 rfl _).1, show Xi T39 973 (q).toNat = _ from by omega]; exact (W209 (by omega)).2 (by omega) (by omega)⟩) W209 | exact fun x => absurd x (by omega)), ((KQ_FR w592 rfl (KQ_FR w581 rfl (KQ.tr (KQ.w (KQ.w KQ.rf eU16 (by omega)) eU17 (by omega)) (by assumption : KQ T34 U17 _)))))⟩
      · refine l_iconst rfl ?_
        refine l_goto rfl rfl ?_
        refine l_bipush rfl rfl ?_
        refine l_iload rfl rfl ?_
        have w604 : 0 ≤ Xi T38 904 106 ∧ Xi T38 904 106 ≤ 9 := hHT38.c _ _
        have w605 : Xi T38 904 113 = Xi S 904 113 := (show Xi T38 904 113 = Xi T34 904 113 from w581.x _ _ rfl).trans ( (show Xi T34 904 113 = Xi U17 904 113 from w517.x _ _ rfl).trans ( (show Xi U17 904 113 = Xi U16 904 113 from by rw [eU17]; exact Xi_ne (by omega)).trans ((show Xi U16 904 113 = Xi S 904 113 from by rw [eU16]; exact Xi_ne (by omega)))))
        have w606 : -1 ≤ Xi S 904 113 ∧ Xi S 904 113 ≤ 6411 := hH.c _ _
        have w607 : Xi T38 904 69 = Xi S 904 69 := (show Xi T38 904 69 = Xi T34 904 69 from w581.x _ _ rfl).trans ( (show Xi T34 904 69 = Xi U17 904 69 from w517.x _ _ rfl).trans ( (show Xi U17 904 69 = Xi U16 904 69 from by rw [eU17]; exact Xi_ne (by omega)).trans ((show Xi U16 904 69 = Xi S 904 69 from by rw [eU16]; exact Xi_ne (by omega)))))
        have w608 : 0 ≤ Xi S 904 69 ∧ Xi S 904 69 ≤ 2600 := hH.c _ _
        refine l_callV rfl rfl rfl (t_mo_need hHT38 1 7 (Xi U17 961 ((i).toNat)) ⟨by omega, by omega⟩ ⟨by omega, by omega⟩ ⟨by omega, by omega⟩ _) ?_
        rintro _ T40 ⟨hHT40, w612, rfl, w609, w610⟩
        have hFT40 : FR md_mo_testMeant S T40 := FR.tr hFT38 w612 rfl
        show Rl _ _ _ _ _ [] _ _
        refine l_return rfl rfl ?_
        have w613 : Xi T40 969 (q).toNat = Xi U16 969 (q).toNat := (show Xi T40 969 (q).toNat = Xi T38 969 (q).toNat from (w612.cx 969 rfl _).1).trans ( (show Xi T38 969 (q).toNat = Xi T34 969 (q).toNat from (w581.cx 969 rfl _).1).trans ( (show Xi T34 969 (q).toNat = Xi U17 969 (q).toNat from (w517.cx 969 rfl _).1).trans ((show Xi U17 969 (q).toNat = Xi U16 969 (q).toNat from by rw [eU17]; exact Xi_ne (by omega)))))
        have w614 : Xi T40 971 (q).toNat = Xi T34 971 (q).toNat := (show Xi T40 971 (q).toNat = Xi T38 971 (q).toNat from (w612.cx 971 rfl _).1).trans ((show Xi T38 971 (q).toNat = Xi T34 971 (q).toNat from (w581.cx 971 rfl _).1))
        have w615 : Xi T40 972 (q).toNat = Xi T34 972 (q).toNat := (show Xi T40 972 (q).toNat = Xi T38 972 (q).toNat from (w612.cx 972 rfl _).1).trans ((show Xi T38 972 (q).toNat = Xi T34 972 (q).toNat from (w581.cx 972 rfl _).1))
        have w616 : Xi T40 973 (q).toNat = Xi S 973 (q).toNat := (show Xi T40 973 (q).toNat = Xi T38 973 (q).toNat from (w612.cx 973 rfl _).1).trans ( (show Xi T38 973 (q).toNat = Xi T34 973 (q).toNat from (w581.cx 973 rfl _).1).trans ( (show Xi T34 973 (q).toNat = Xi U17 973 (q).toNat from (w517.cx 973 rfl _).1).trans ( (show Xi U17 973 (q).toNat = Xi U16 973 (q).toNat from by rw [eU17]; exact Xi_ne (by omega)).trans ((show Xi U16 973 (q).toNat = Xi S 973 (q).toNat from by rw [eU16]; exact Xi_ne (by omega))))))
        have w617 : Xi T40 974 (q).toNat = Xi S 974 (q).toNat := (show Xi T40 974 (q).toNat = Xi T38 974 (q).toNat from (w612.cx 974 rfl _).1).trans ( (show Xi T38 974 (q).toNat = Xi T34 974 (q).toNat from (w581.cx 974 rfl _).1).trans ( (show Xi T34 974 (q).toNat = Xi U17 974 (q).toNat from (w517.cx 974 rfl _).1).trans ( (show Xi U17 974 (q).toNat = Xi U16 974 (q).toNat from by rw [eU17]; exact Xi_ne (by omega)).trans ((show Xi U16 974 (q).toNat = Xi S 974 (q).toNat from by rw [eU16]; exact Xi_ne (by omega))))))
        have w618 : Xi T40 975 (q).toNat = Xi T34 975 (q).toNat := (show Xi T40 975 (q).toNat = Xi T38 975 (q).toNat from (w612.cx 975 rfl _).1).trans ((show Xi T38 975 (q).toNat = Xi T34 975 (q).toNat from (w581.cx 975 rfl _).1))
        have w619 : 0 ≤ Xi T40 904 106 ∧ Xi T40 904 106 ≤ 9 := hHT40.c _ _
        have w620 : Xi T40 904 113 = Xi S 904 113 := (show Xi T40 904 113 = Xi T38 904 113 from w612.x _ _ rfl).trans ( (show Xi T38 904 113 = Xi T34 904 113 from w581.x _ _ rfl).trans ( (show Xi T34 904 113 = Xi U17 904 113 from w517.x _ _ rfl).trans ( (show Xi U17 904 113 = Xi U16 904 113 from by rw [eU17]; exact Xi_ne (by omega)).trans ((show Xi U16 904 113 = Xi S 904 113 from by rw [eU16]; exact Xi_ne (by omega))))))
        have w621 : -1 ≤ Xi S 904 113 ∧ Xi S 904 113 ≤ 6411 := hH.c _ _
        have w622 : Xi T40 904 69 = Xi S 904 69 := (show Xi T40 904 69 = Xi T38 904 69 from w612.x _ _ rfl).trans ( (show Xi T38 904 69 = Xi T34 904 69 from w581.x _ _ rfl).trans ( (show Xi T34 904 69 = Xi U17 904 69 from w517.x _ _ rfl).trans ( (show Xi U17 904 69 = Xi U16 904 69 from by rw [eU17]; exact Xi_ne (by omega)).trans ((show Xi U16 904 69 = Xi S 904 69 from by rw [eU16]; exact Xi_ne (by omega))))))
        have w623 : 0 ≤ Xi S 904 69 ∧ Xi S 904 69 ≤ 2600 := hH.c _ _
        exact ⟨hHT40, hFT40, rfl, (by omega), (by first | exact (fun _ q => (by have s := f52 (by omega); exact tq_5 (by omega) (thk_c (b := 0 ≤ Xi S 904 115) (c := 0 ≤ Xi S 904 116) (S := S) (by have t := s.1; unfold thK at *; have a := h52; omega) (hFT40.x 904 19 rfl) (by omega)) (thk_c (S := S) (by have t := s.2.1; unfold thK at *; have a := h52; omega) (hFT40.x 904 19 rfl) (by omega)) (by have t := s.2.2; omega))) f52 | exact (fun _ q => tq_3 (by omega) (thk_c (H209) (hFT40.x 904 19 rfl) (by omega)) (adx_c (W209 (by omega)) (hFT40.x 904 23 rfl) (hFT40.x 904 32 rfl) (by omega))) W209 | exact (fun _ q => tq_4 (by omega) (thk_c (th107 (by omega)) (hFT40.x 904 19 rfl) (by omega))) q299 | exact (fun _ q => tq_2 (by omega) (thk_c (th107 (by omega)) (hFT40.x 904 19 rfl) (by omega)) (by have a := hFT40.x 904 32 rfl; omega) (fun _ => o386)) o386 | exact (fun _ q => tq_2 (by omega) (thk_c (th107 (by omega)) (hFT40.x 904 19 rfl) (by omega)) (by have a := hFT40.x 904 32 rfl; omega) (fun y => absurd y (by omega))) p337 | exact fun x => absurd x (by omega)), (by first | exact fun x y => ⟨by omega, fun z => absurd z (by omega)⟩ | exact (fun _ q => fun y => ⟨by omega, fun _ z => by rw [(hFT40.cx 922 rfl _).1, show Xi T40 973 (q).toNat = _ from by omega]; exact (W209 (by omega)).2 (by omega) (by omega)⟩) W209 | exact fun x => absurd x (by omega)), ((KQ_FR w612 rfl (KQ_FR w581 rfl (KQ.tr (KQ.w (KQ.w KQ.rf eU16 (by omega)) eU17 (by omega)) (by assumption : KQ T34 U17 _)))))⟩
/-! SAFETY of the reference: tests and phrases of a sentence, meant -/
/-- entries of meant tests below m stay -/
def KQL (T S : sS) (m : Int) : Prop := ∀ i : Nat, (i : Int) < m → ∀ k : Nat, 969 ≤ k → k ≤ 975 → Xi T k i = Xi S k i
theorem KQL.rf {S : sS} {m : Int} : KQL S S m := fun _ _ _ _ _ => rfl
theorem KQL.tr {S T U : sS} {m m2 : Int} (h : KQL T S m) (g : KQL U T m2) (e : m ≤ m2) : KQL U S m := fun i hi k a b => (g i (by omega) k a b).trans (h i hi k a b)
theorem KQL.q {S T U : sS} {m q : Int} (h : KQL T S m) (g : KQ U T q) (e : m ≤ q) : KQL U S m := fun i hi k a b => (g i (by omega) k a b).trans (h i hi k a b)
theorem KQL_FR {l : List rec} {T U S : sS} {m : Int} (f : FR l T U) (e : kdis l [(969, 976)] = true) (h : KQL T S m) : KQL U S m := fun i hi k a b => (kdis_q f e k a b i).trans (h i hi k a b)
theorem tq_k {S T : sS} {b c : Prop} {q : Nat} (h : TQ S b c q) (hk : ∀ k : Nat, 969 ≤ k → k ≤ 975 → Xi T k q = Xi S k q) (e1 : Xi T 904 19 = Xi S 904 19) (e2 : Xi T 904 23 = Xi S 904 23) (e3 : Xi T 904 32 = Xi S 904 32) : TQ T b c q := by
  unfold TQ ADM thK at *
  rw [e1, e2, e3, hk 969 (by omega) (by omega), hk 971 (by omega) (by omega), hk 972 (by omega) (by omega), hk 973 (by omega) (by omega), hk 974 (by omega) (by omega), hk 975 (by omega) (by omega)]
  exact h
/-- the tests from f on, so many of them, are meant -/
def TQA (S : sS) (b c : Prop) (f v : Int) : Prop := ∀ j : Int, 0 ≤ j → j < v → TQ S b c (f + j).toNat
theorem TQA.mv {S T : sS} {b c : Prop} {f v : Int} (h : TQA S b c f v) (hk : ∀ j : Int, 0 ≤ j → j < v → ∀ k : Nat, 969 ≤ k → k ≤ 975 → Xi T k (f + j).toNat = Xi S k (f + j).toNat) (e1 : Xi T 904 19 = Xi S 904 19) (e2 : Xi T 904 23 = Xi S 904 23) (e3 : Xi T 904 32 = Xi S 904 32) : TQA T b c f v := fun j a d => tq_k (h j a d) (hk j a d) e1 e2 e3
theorem TQA.add {S : sS} {b c : Prop} {f v : Int} (h : TQA S b c f v) (g : TQ S b c (f + v).toNat) : TQA S b c f (v + 1) := fun j a d => by
  rcases (by omega : j < v ∨ j = v) with q | q
  · exact h j a q
  · rw [q]; exact g
theorem TQA.b {S : sS} {b c b2 c2 : Prop} {f v : Int} (h : TQA S b c f v) (hb : b → b2) (hc : c → c2) : TQA S b2 c2 f v := fun j a d => (h j a d).mono hb hc
def PQt (S : sS) (c : Prop) (w : Int) (q : Nat) : Prop := (w = 0 → 0 ≤ Xi S 973 q ∧ 0 ≤ Xi S 974 q ∧ Xi S 973 q + Xi S 974 q ≤ 5000) ∧ (w = 1 → NQ S c q) ∧ (w = 2 → thK S False c (Xi S 971 q) ∧ thK S False c (Xi S 975 q)) ∧ (w = 3 ∨ w = 4 → thK S False c (Xi S 971 q) ∧ 0 ≤ Xi S 972 q ∧ Xi S 972 q < Xi S 904 32 ∧ Xi S 928 (Xi S 972 q).toNat ≠ 1) ∧
  (w = 5 → (0 ≤ Xi S 972 q ∧ Xi S 972 q < Xi S 904 49) ∧ (Xi S 970 q = 0 → thK S False c (Xi S 971 q)) ∧ (Xi S 970 q ≠ 0 → Xi S 942 (Xi S 972 q).toNat < 0))
theorem pq_i {S : sS} {c : Prop} {i q : Nat} {w : Int} (h : PQt S c w q) (e1 : Xi S 976 i = w) (e2 : Xi S 977 i = q) (h4 : q < 2400) : PQ S c i := by
  unfold PQ
  rw [e1, e2]
  exact ⟨by omega, h⟩
theorem pqt_0 {S : sS} {c : Prop} {q : Nat} (h : 0 ≤ Xi S 973 q ∧ 0 ≤ Xi S 974 q ∧ Xi S 973 q + Xi S 974 q ≤ 5000) : PQt S c 0 q := ⟨fun _ => h, fun e => absurd e (by decide), fun e => absurd e (by decide), fun e => absurd e (by decide), fun e => absurd e (by decide)⟩
theorem pqt_1 {S : sS} {c : Prop} {q : Nat} (h : NQ S c q) : PQt S c 1 q := ⟨fun e => absurd e (by decide), fun _ => h, fun e => absurd e (by decide), fun e => absurd e (by decide), fun e => absurd e (by decide)⟩
theorem pqt_2 {S : sS} {c : Prop} {q : Nat} (h : thK S False c (Xi S 971 q)) (h2 : thK S False c (Xi S 975 q)) : PQt S c 2 q := ⟨fun e => absurd e (by decide), fun e => absurd e (by decide), fun _ => ⟨h, h2⟩, fun e => absurd e (by decide), fun e => absurd e (by decide)⟩
theorem pqt_3 {S : sS} {c : Prop} {q : Nat} {w : Int} (hw : w = 3 ∨ w = 4) (h : thK S False c (Xi S 971 q)) (h2 : 0 ≤ Xi S 972 q ∧ Xi S 972 q < Xi S 904 32) (h3 : Xi S 928 (Xi S 972 q).toNat ≠ 1) : PQt S c w q := ⟨fun e => by omega, fun e => by omega, fun e => by omega, fun _ => ⟨h, h2.1, h2.2, h3⟩, fun e => by omega⟩
theorem pqt_5 {S : sS} {c : Prop} {q : Nat} (h : 0 ≤ Xi S 972 q ∧ Xi S 972 q < Xi S 904 49) (h2 : Xi S 970 q = 0 → thK S False c (Xi S 971 q)) (h3 : Xi S 970 q ≠ 0 → Xi S 942 (Xi S 972 q).toNat < 0) : PQt S c 5 q := ⟨fun e => absurd e (by decide), fun e => absurd e (by decide), fun e => absurd e (by decide), fun e => absurd e (by decide), fun _ => ⟨h, h2, h3⟩⟩
theorem pqt_6 {S : sS} {c : Prop} {q : Nat} : PQt S c 6 q := ⟨fun e => absurd e (by decide), fun e => absurd e (by decide), fun e => absurd e (by decide), fun e => absurd e (by decide), fun e => absurd e (by decide)⟩
/-- other phrases than p stay -/
def KH (T S : sS) (p : Int) : Prop := ∀ i : Nat, (i : Int) ≠ p → Xi T 976 i = Xi S 976 i ∧ Xi T 977 i = Xi S 977 i
theorem KH.w2 {S U1 U2 : sS} {p : Int} {j : Nat} {v w : Int32} (e1 : U1 = uI S 976 j v) (e2 : U2 = uI U1 977 j w) (hj : (j : Int) = p) : KH U2 S p := fun i hi => by
  rw [e2, Xi_ne (by omega), Xi_ne (by omega), e1, Xi_ne (by omega), Xi_ne (by omega)]
  exact ⟨rfl, rfl⟩
theorem KH_FR {l : List rec} {T U S : sS} {p : Int} (f : FR l T U) (e : kdis l [(976, 978)] = true) (h : KH T S p) : KH U S p := fun i hi => by
  have q := f.smk e
  rw [q.x 976 rfl, q.x 977 rfl]
  exact h i hi
theorem TV_FR {l : List rec} {S T : sS} {n i : Nat} (h : FR l S T) (e : (kdis l [(907, 908), (952, 963)] && mD l [69]) = true) (hq : TV S n i) : TV T n i := (TVA_FR (m := (i : Int) + 1) h e (S := S) (T := T) (n := n) |> fun f => by
  rw [Bool.and_eq_true] at e
  have k := h.smk e.1
  refine hq.mv (fun k2 a b => ?_) (by rw [mD_x h e.2 69 (by decide)]; exact Int.le_refl _) (fun j => k.x 907 rfl j)
  rcases (by omega : k2 = 952 ∨ k2 = 953 ∨ k2 = 954 ∨ k2 = 955 ∨ k2 = 956 ∨ k2 = 957 ∨ k2 = 958 ∨ k2 = 959 ∨ k2 = 960 ∨ k2 = 961 ∨ k2 = 962) with h | h | h | h | h | h | h | h | h | h | h <;> subst h <;> exact k.x _ rfl i)
def md_mo_testsMeant : List rec := [(904, 905, 64, 65), (904, 905, 104, 105), (904, 905, 105, 106), (904, 905, 106, 107), (904, 905, 113, 114), (969, 970, 0, 100000), (970, 971, 0, 100000), (971, 972, 0, 100000), (972, 973, 0, 100000), (973, 974, 0, 100000), (974, 975, 0, 100000), (975, 976, 0, 100000)]
abbrev Q_mo_testsMeant (S : sS) (n : Nat) : pst := fun r S1 => HI S1 ∧ FR md_mo_testsMeant S S1 ∧ (r = none ∧ (Xi S 904 106 ≠ 0 → Xi S1 904 106 ≠ 0) ∧ (Xi S1 904 106 = 0 → Xi S 904 94 ≤ 6 ∧ TQA S1 (0 ≤ Xi S 904 115) (0 ≤ Xi S 904 116) (Xi S 904 117) (Xi S 904 94)) ∧ (KQL S1 S (Xi S 904 117)))
set_option maxRecDepth 100000 in
theorem t_mo_testsMeant {S : sS} (hH : HI S) (n : Nat) (hT : TK S n) (hv : RNV S n) (hM : LXM S) (hB : ABV S) (hC : DCM S) (hK : TXK S n) (htv : TVA S n (Xi S 904 94)) (h94 : Xi S 904 94 ≤ 1668) (d : Nat) : Mt lay0 (d + 8) m_mo_testsMeant [.ref 904] S (Q_mo_testsMeant S n) := by
  refine Mt_R rfl rfl ?_
  have hF : FR md_mo_testsMeant S S := FR.rf
  have w1 : 0 ≤ Xi S 904 106 ∧ Xi S 904 106 ≤ 9 := hH.c _ _
  have w2 : -1 ≤ Xi S 904 115 ∧ Xi S 904 115 ≤ 15 := hH.c _ _
  have w3 : -1 ≤ Xi S 904 116 ∧ Xi S 904 116 ≤ 15 := hH.c _ _
  have w4 : 0 ≤ Xi S 904 117 ∧ Xi S 904 117 ≤ 480 := hH.c _ _
  have w5 : 0 ≤ Xi S 904 94 ∧ Xi S 904 94 ≤ 1700 := hH.c _ _
  have hn5 := hT.1
  have hc94 : 0 ≤ Xi S 904 94 := (hH.c 904 94).1
  have hc117 : 0 ≤ Xi S 904 117 ∧ Xi S 904 117 ≤ 480 := hH.c _ _
  have hfi : ∀ j : Int, 0 ≤ j → j < Xi S 904 94 → Xi S 961 j.toNat ≤ n := fun j a b => by have t := (htv j.toNat (by omega)).1; omega
  have C2 : ∀ (n2 : Nat) (T1 : sS) (_ : HI T1) (_ : FR md_mo_testsMeant S T1) (v1 : Int), (0 ≤ v1 ∧ v1 ≤ 1700) → (Xi T1 904 94 = Xi S 904 94) → (Xi T1 904 117 = Xi S 904 117) → (v1 ≤ Xi S 904 94) → (Xi S 904 106 ≠ 0 → Xi T1 904 106 ≠ 0) → (Xi T1 904 106 = 0 → v1 ≤ 6 ∧ TQA T1 (0 ≤ Xi S 904 115) (0 ≤ Xi S 904 116) (Xi S 904 117) v1) → (KQL T1 S (Xi S 904 117)) → n2 = (1701 - v1).toNat → Rl lay0 (d + 7) m_mo_testsMeant 2 [(0, .ref 904), (1, iv v1)] [] T1 (Q_mo_testsMeant S n) := by
    intro n2
    induction n2 using Nat.strongRecOn with
    | ind n2 ih2 =>
      intro T1 hHT1 hFT1 v1 w6 w7 w8 w9 w10 E2 K2 hm2
      have w11 : Xi T1 904 115 = Xi S 904 115 := hFT1.x _ _ rfl
      have w12 : Xi T1 904 116 = Xi S 904 116 := hFT1.x _ _ rfl
      have w13 : Xi T1 904 117 = Xi S 904 117 := hFT1.x _ _ rfl
      have w14 : Xi T1 904 94 = Xi S 904 94 := hFT1.x _ _ rfl
      have w15 : 0 ≤ Xi T1 904 106 ∧ Xi T1 904 106 ≤ 9 := hHT1.c _ _
      have w16 : 0 ≤ Xi T1 904 117 ∧ Xi T1 904 117 ≤ 480 := hHT1.c _ _
      have w17 : 0 ≤ Xi T1 904 94 ∧ Xi T1 904 94 ≤ 1700 := hHT1.c _ _
      refine l_iload_n rfl rfl ?_
      refine l_aload_n rfl rfl ?_
      refine l_gfi rfl rfl rfl rfl rfl ?_
      refine l_icmp_ge rfl rfl (by unfold rg; omega) (by unfold rg; omega) (fun w18 => ?_) (fun w19 => ?_)
      · refine l_return rfl rfl ?_
        have w20 : 0 ≤ Xi T1 904 106 ∧ Xi T1 904 106 ≤ 9 := hHT1.c _ _
        have w21 : 0 ≤ Xi T1 904 117 ∧ Xi T1 904 117 ≤ 480 := hHT1.c _ _
        have w22 : 0 ≤ Xi T1 904 94 ∧ Xi T1 904 94 ≤ 1700 := hHT1.c _ _
        exact ⟨hHT1, hFT1, rfl, (by omega), (fun x => by rw [show Xi S 904 94 = v1 by omega]; exact E2 x), (K2)⟩
      · refine l_aload_n rfl rfl ?_
        refine l_iload_n rfl rfl ?_
        refine l_bipush rfl rfl ?_
        refine l_icmp_ge rfl rfl (by unfold rg; omega) (by unfold rg; omega) (fun w23 => ?_) (fun w24 => ?_)
        · refine l_iconst rfl ?_
          refine l_bipush rfl rfl ?_
          refine l_aload_n rfl rfl ?_
          refine l_gfr rfl rfl rfl rfl rfl (hHT1.r 904 91 961 rfl) ?_
          refine l_iload_n rfl rfl ?_
          refine l_iaload (n := 1700) rfl rfl (by omega) (by omega) (by unfold rg; omega) ?_
          have w25 : 0 ≤ (Xi T1 961 ((v1).toNat)) ∧ (Xi T1 961 ((v1).toNat)) ≤ 5010 := hHT1.c _ _
          have e29 : (Xi T1 961 ((v1).toNat)) = Xi S 961 (v1).toNat := by first | rfl | exact (hFT1.cx 961 rfl _).1
          have f29 := hfi v1 (by omega) (by omega)
          have w26 : 0 ≤ Xi T1 904 106 ∧ Xi T1 904 106 ≤ 9 := hHT1.c _ _
          have w27 : 0 ≤ Xi T1 904 117 ∧ Xi T1 904 117 ≤ 480 := hHT1.c _ _
          have w28 : 0 ≤ Xi T1 904 94 ∧ Xi T1 904 94 ≤ 1700 := hHT1.c _ _
          refine l_callV rfl rfl rfl (t_mo_need hHT1 0 9 (Xi T1 961 ((v1).toNat)) ⟨by omega, by omega⟩ ⟨by omega, by omega⟩ ⟨by omega, by omega⟩ _) ?_
          rintro _ T2 ⟨hHT2, w32, rfl, w29, w30⟩
          have hFT2 : FR md_mo_testsMeant S T2 := FR.tr hFT1 w32 rfl
          show Rl _ _ _ _ _ [] _ _
          have k30 : KQL T2 S (Xi S 904 117) := KQL_FR (by assumption : FR md_mo_need T1 T2) rfl K2
          have T30 : Xi T2 904 106 = 0 → TQA T2 (0 ≤ Xi S 904 115) (0 ≤ Xi S 904 116) (Xi S 904 117) v1 := fun x => (E2 (by omega)).2.mv (fun j _ _ k a b => kdis_q (by assumption : FR md_mo_need T1 T2) rfl k a b _) ((by assumption : FR md_mo_need T1 T2).x 904 19 rfl) ((by assumption : FR md_mo_need T1 T2).x 904 23 rfl) ((by assumption : FR md_mo_need T1 T2).x 904 32 rfl)
          refine l_aload_n rfl rfl ?_
          refine l_iload_n rfl rfl ?_
          refine l_aload_n rfl rfl ?_
          refine l_gfi rfl rfl rfl rfl rfl ?_
          have w33 : (Xi T2 904 117) = (Xi T1 904 117) := (show Xi T2 904 117 = Xi T1 904 117 from w32.x _ _ rfl)
          rw [w33]
          refine l_iload_n rfl rfl ?_
          refine l_iadd rfl ?_
          refine l_iconst rfl ?_
          have w34 : 0 ≤ Xi T2 904 106 ∧ Xi T2 904 106 ≤ 9 := hHT2.c _ _
          have w35 : Xi T2 904 115 = Xi T1 904 115 := (show Xi T2 904 115 = Xi T1 904 115 from w32.x _ _ rfl)
          have w36 : -1 ≤ Xi T1 904 115 ∧ Xi T1 904 115 ≤ 15 := hHT1.c _ _
          have w37 : Xi T2 904 116 = Xi T1 904 116 := (show Xi T2 904 116 = Xi T1 904 116 from w32.x _ _ rfl)
          have w38 : -1 ≤ Xi T1 904 116 ∧ Xi T1 904 116 ≤ 15 := hHT1.c _ _
          have w39 : Xi T2 904 117 = Xi T1 904 117 := (show Xi T2 904 117 = Xi T1 904 117 from w32.x _ _ rfl)
          have w40 : 0 ≤ Xi T1 904 117 ∧ Xi T1 904 117 ≤ 480 := hHT1.c _ _
          have w41 : Xi T2 904 94 = Xi T1 904 94 := (show Xi T2 904 94 = Xi T1 904 94 from w32.x _ _ rfl)
          have w42 : 0 ≤ Xi T1 904 94 ∧ Xi T1 904 94 ≤ 1700 := hHT1.c _ _
          refine l_callV rfl rfl rfl (t_mo_testMeant hHT2 n v1 ((Xi T1 904 117) + v1) 0 ⟨by omega, by omega⟩ ⟨by omega, by omega⟩ ⟨by omega, by omega⟩ (by first | assumption | exact (TK_FR hFT2 rfl (by assumption : TK S _))) (by first | assumption | exact (RNV_FR hFT2 rfl (by assumption : RNV S _))) (by first | assumption | exact (LXM_FR hFT2 rfl (by assumption : LXM S))) (by first | assumption | exact (ABV_FR hFT2 rfl (by assumption : ABV S))) (by first | assumption | exact (DCM_FR hFT2 rfl (by assumption : DCM S))) (by first | assumption | exact (TXK_FR hFT2 rfl (by assumption : TXK S _))) ((TVA_FR hFT2 rfl htv) (v1).toNat (by omega)) (fun x => absurd x (by decide)) _) ?_
          rintro _ T3 ⟨hHT3, w46, rfl, w43, tq42, w44, kq42⟩
          have hFT3 : FR md_mo_testsMeant S T3 := FR.tr hFT2 w46 rfl
          show Rl _ _ _ _ _ [] _ _
          have k42 : KQL T3 S (Xi S 904 117) := KQL.q k30 kq42 (by omega)
          have T42 : Xi T3 904 106 = 0 → TQA T3 (0 ≤ Xi S 904 115) (0 ≤ Xi S 904 116) (Xi S 904 117) (v1 + 1) := fun x => (TQA.mv (T30 (by omega)) (fun j a1 b1 k a b => kq42 _ (by omega) k a b) ((by assumption : FR md_mo_testMeant T2 T3).x 904 19 rfl) ((by assumption : FR md_mo_testMeant T2 T3).x 904 23 rfl) ((by assumption : FR md_mo_testMeant T2 T3).x 904 32 rfl)).add (by have t := tq42 x; rw [hFT2.x 904 115 rfl, hFT2.x 904 116 rfl] at t; rw [show (Xi S 904 117 + v1 : Int) = Xi T2 904 117 + v1 by omega]; exact t)
          refine l_iinc rfl rfl rfl rfl ?_
          refine l_goto rfl rfl ?_
          have w47 : 0 ≤ Xi T3 904 106 ∧ Xi T3 904 106 ≤ 9 := hHT3.c _ _
          have w48 : Xi T3 904 117 = Xi T1 904 117 := (show Xi T3 904 117 = Xi T2 904 117 from w46.x _ _ rfl).trans ((show Xi T2 904 117 = Xi T1 904 117 from w32.x _ _ rfl))
          have w49 : 0 ≤ Xi T1 904 117 ∧ Xi T1 904 117 ≤ 480 := hHT1.c _ _
          have w50 : Xi T3 904 94 = Xi T1 904 94 := (show Xi T3 904 94 = Xi T2 904 94 from w46.x _ _ rfl).trans ((show Xi T2 904 94 = Xi T1 904 94 from w32.x _ _ rfl))
          have w51 : 0 ≤ Xi T1 904 94 ∧ Xi T1 904 94 ≤ 1700 := hHT1.c _ _
          exact Rl_weak (ih2 _ (by omega) T3 hHT3 hFT3 ((v1 + 1)) (by omega) (by omega) (by omega) (by omega) (by omega) (by first | exact fun x => ⟨by omega, T42 x⟩ | exact fun x => ⟨by omega, fun j a b => absurd b (by omega)⟩) (by first | exact k42 | exact KQL.rf) rfl) (And.intro rfl (And.intro rfl (True.intro)))
        · refine l_iconst rfl ?_
          refine l_goto rfl rfl ?_
          refine l_bipush rfl rfl ?_
          refine l_aload_n rfl rfl ?_
          refine l_gfr rfl rfl rfl rfl rfl (hHT1.r 904 91 961 rfl) ?_
          refine l_iload_n rfl rfl ?_
          refine l_iaload (n := 1700) rfl rfl (by omega) (by omega) (by unfold rg; omega) ?_
          have w52 : 0 ≤ (Xi T1 961 ((v1).toNat)) ∧ (Xi T1 961 ((v1).toNat)) ≤ 5010 := hHT1.c _ _
          have e29 : (Xi T1 961 ((v1).toNat)) = Xi S 961 (v1).toNat := by first | rfl | exact (hFT1.cx 961 rfl _).1
          have f29 := hfi v1 (by omega) (by omega)
          have w53 : 0 ≤ Xi T1 904 106 ∧ Xi T1 904 106 ≤ 9 := hHT1.c _ _
          have w54 : 0 ≤ Xi T1 904 117 ∧ Xi T1 904 117 ≤ 480 := hHT1.c _ _
          have w55 : 0 ≤ Xi T1 904 94 ∧ Xi T1 904 94 ≤ 1700 := hHT1.c _ _
          refine l_callV rfl rfl rfl (t_mo_need hHT1 1 9 (Xi T1 961 ((v1).toNat)) ⟨by omega, by omega⟩ ⟨by omega, by omega⟩ ⟨by omega, by omega⟩ _) ?_
          rintro _ T4 ⟨hHT4, w59, rfl, w56, w57⟩
          have hFT4 : FR md_mo_testsMeant S T4 := FR.tr hFT1 w59 rfl
          show Rl _ _ _ _ _ [] _ _
          have k30 : KQL T4 S (Xi S 904 117) := KQL_FR (by assumption : FR md_mo_need T1 T4) rfl K2
          have T30 : Xi T4 904 106 = 0 → TQA T4 (0 ≤ Xi S 904 115) (0 ≤ Xi S 904 116) (Xi S 904 117) v1 := fun x => (E2 (by omega)).2.mv (fun j _ _ k a b => kdis_q (by assumption : FR md_mo_need T1 T4) rfl k a b _) ((by assumption : FR md_mo_need T1 T4).x 904 19 rfl) ((by assumption : FR md_mo_need T1 T4).x 904 23 rfl) ((by assumption : FR md_mo_need T1 T4).x 904 32 rfl)
          refine l_aload_n rfl rfl ?_
          refine l_iload_n rfl rfl ?_
          refine l_aload_n rfl rfl ?_
          refine l_gfi rfl rfl rfl rfl rfl ?_
          have w60 : (Xi T4 904 117) = (Xi T1 904 117) := (show Xi T4 904 117 = Xi T1 904 117 from w59.x _ _ rfl)
          rw [w60]
          refine l_iload_n rfl rfl ?_
          refine l_iadd rfl ?_
          refine l_iconst rfl ?_
          have w61 : 0 ≤ Xi T4 904 106 ∧ Xi T4 904 106 ≤ 9 := hHT4.c _ _
          have w62 : Xi T4 904 115 = Xi T1 904 115 := (show Xi T4 904 115 = Xi T1 904 115 from w59.x _ _ rfl)
          have w63 : -1 ≤ Xi T1 904 115 ∧ Xi T1 904 115 ≤ 15 := hHT1.c _ _
          have w64 : Xi T4 904 116 = Xi T1 904 116 := (show Xi T4 904 116 = Xi T1 904 116 from w59.x _ _ rfl)
          have w65 : -1 ≤ Xi T1 904 116 ∧ Xi T1 904 116 ≤ 15 := hHT1.c _ _
          have w66 : Xi T4 904 117 = Xi T1 904 117 := (show Xi T4 904 117 = Xi T1 904 117 from w59.x _ _ rfl)
          have w67 : 0 ≤ Xi T1 904 117 ∧ Xi T1 904 117 ≤ 480 := hHT1.c _ _
          have w68 : Xi T4 904 94 = Xi T1 904 94 := (show Xi T4 904 94 = Xi T1 904 94 from w59.x _ _ rfl)
          have w69 : 0 ≤ Xi T1 904 94 ∧ Xi T1 904 94 ≤ 1700 := hHT1.c _ _
          refine l_callV rfl rfl rfl (t_mo_testMeant hHT4 n v1 ((Xi T1 904 117) + v1) 0 ⟨by omega, by omega⟩ ⟨by omega, by omega⟩ ⟨by omega, by omega⟩ (by first | assumption | exact (TK_FR hFT4 rfl (by assumption : TK S _))) (by first | assumption | exact (RNV_FR hFT4 rfl (by assumption : RNV S _))) (by first | assumption | exact (LXM_FR hFT4 rfl (by assumption : LXM S))) (by first | assumption | exact (ABV_FR hFT4 rfl (by assumption : ABV S))) (by first | assumption | exact (DCM_FR hFT4 rfl (by assumption : DCM S))) (by first | assumption | exact (TXK_FR hFT4 rfl (by assumption : TXK S _))) ((TVA_FR hFT4 rfl htv) (v1).toNat (by omega)) (fun x => absurd x (by decide)) _) ?_
          rintro _ T5 ⟨hHT5, w73, rfl, w70, tq42, w71, kq42⟩
          have hFT5 : FR md_mo_testsMeant S T5 := FR.tr hFT4 w73 rfl
          show Rl _ _ _ _ _ [] _ _
          have k42 : KQL T5 S (Xi S 904 117) := KQL.q k30 kq42 (by omega)
          have T42 : Xi T5 904 106 = 0 → TQA T5 (0 ≤ Xi S 904 115) (0 ≤ Xi S 904 116) (Xi S 904 117) (v1 + 1) := fun x => (TQA.mv (T30 (by omega)) (fun j a1 b1 k a b => kq42 _ (by omega) k a b) ((by assumption : FR md_mo_testMeant T4 T5).x 904 19 rfl) ((by assumption : FR md_mo_testMeant T4 T5).x 904 23 rfl) ((by assumption : FR md_mo_testMeant T4 T5).x 904 32 rfl)).add (by have t := tq42 x; rw [hFT4.x 904 115 rfl, hFT4.x 904 116 rfl] at t; rw [show (Xi S 904 117 + v1 : Int) = Xi T4 904 117 + v1 by omega]; exact t)
          refine l_iinc rfl rfl rfl rfl ?_
          refine l_goto rfl rfl ?_
          have w74 : 0 ≤ Xi T5 904 106 ∧ Xi T5 904 106 ≤ 9 := hHT5.c _ _
          have w75 : Xi T5 904 117 = Xi T1 904 117 := (show Xi T5 904 117 = Xi T4 904 117 from w73.x _ _ rfl).trans ((show Xi T4 904 117 = Xi T1 904 117 from w59.x _ _ rfl))
          have w76 : 0 ≤ Xi T1 904 117 ∧ Xi T1 904 117 ≤ 480 := hHT1.c _ _
          have w77 : Xi T5 904 94 = Xi T1 904 94 := (show Xi T5 904 94 = Xi T4 904 94 from w73.x _ _ rfl).trans ((show Xi T4 904 94 = Xi T1 904 94 from w59.x _ _ rfl))
          have w78 : 0 ≤ Xi T1 904 94 ∧ Xi T1 904 94 ≤ 1700 := hHT1.c _ _
          exact Rl_weak (ih2 _ (by omega) T5 hHT5 hFT5 ((v1 + 1)) (by omega) (by omega) (by omega) (by omega) (by omega) (by first | exact fun x => ⟨by omega, T42 x⟩ | exact fun x => ⟨by omega, fun j a b => absurd b (by omega)⟩) (by first | exact k42 | exact KQL.rf) rfl) (And.intro rfl (And.intro rfl (True.intro)))
  refine l_iconst rfl ?_
  refine l_istore_n rfl rfl rfl ?_
  have w79 : 0 ≤ Xi S 904 106 ∧ Xi S 904 106 ≤ 9 := hH.c _ _
  have w80 : 0 ≤ Xi S 904 117 ∧ Xi S 904 117 ≤ 480 := hH.c _ _
  have w81 : 0 ≤ Xi S 904 94 ∧ Xi S 904 94 ≤ 1700 := hH.c _ _
  exact Rl_weak (C2 _ S hH hF (0) (by omega) (by omega) (by omega) (by omega) (by omega) (by first | exact fun x => ⟨by omega, T42 x⟩ | exact fun x => ⟨by omega, fun j a b => absurd b (by omega)⟩) (by first | exact k42 | exact KQL.rf) rfl) (And.intro rfl (And.intro rfl (True.intro)))
