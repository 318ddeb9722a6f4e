/-! SAFETY of methods: printed by wip/safe (vc.py, decl.py) -/
/-! SAFETY of the reference: tests that were meant -/
theorem q_thv {m m2 : Int} {n : Nat} {td rn x y : Int} (h : THV m n td rn) (e1 : x = td) (e2 : y = rn) (e3 : m2 = m) (hn : n ≤ 5000) : (20000 ≤ x → 0 ≤ y ∧ y < m2) ∧ x % 10000 ≤ 5001 := by
  unfold THV at h
  refine ⟨fun q => ?_, by omega⟩
  have := h.2 (by omega)
  omega
theorem thk_c {S T : sS} {b c : Prop} {x y : Int} (h : thK S b c x) (e : Xi T 904 19 = Xi S 904 19) (e2 : y = x) : thK T b c y := by
  unfold thK at *
  rw [e, e2]
  exact h
theorem adx_c {S T : sS} {f a y : Int} (h : ADX S f a) (e1 : Xi T 904 23 = Xi S 904 23) (e2 : Xi T 904 32 = Xi S 904 32) (e : y = a) : ADM T y := by
  have t := h.1
  unfold ADM at *
  rw [e1, e2, e]
  exact t
theorem tq_5 {S : sS} {b c : Prop} {q : Nat} (h : Xi S 969 q = 5) (h1 : thK S b c (Xi S 971 q)) (h2 : thK S b c (Xi S 975 q)) (h3 : 0 ≤ Xi S 972 q ∧ Xi S 972 q ≤ 5) : TQ S b c q := ⟨h1, fun _ => ⟨h2, h3⟩, fun e => by omega, fun e => by omega, fun e => by omega⟩
theorem tq_3 {S : sS} {b c : Prop} {q : Nat} (h : Xi S 969 q = 3) (h1 : thK S b c (Xi S 971 q)) (h2 : ADM S (Xi S 973 q)) : TQ S b c q := ⟨h1, fun e => by omega, fun _ => h2, fun e => by omega, fun e => by omega⟩
theorem tq_4 {S : sS} {b c : Prop} {q : Nat} (h : Xi S 969 q = 4) (h1 : thK S b c (Xi S 971 q)) : TQ S b c q := ⟨h1, fun e => by omega, fun e => by omega, fun e => by omega, fun e => by omega⟩
theorem tq_2 {S : sS} {b c : Prop} {q : Nat} (h : Xi S 969 q ≤ 2) (h1 : thK S b c (Xi S 971 q)) (h2 : 0 ≤ Xi S 972 q ∧ Xi S 972 q < Xi S 904 32) (h3 : Xi S 969 q = 0 → OKT (Xi S 973 q) (Xi S 974 q)) : TQ S b c q := ⟨h1, fun e => by omega, fun e => by omega, fun _ => h2, h3⟩
/-- what phrases of the sort NOW may be -/
def NF (S : sS) (q : Nat) : Prop := (Xi S 969 q = 0 ∨ Xi S 969 q = 3 ∨ Xi S 969 q = 5) ∧ (Xi S 969 q = 3 → Xi S 973 q < 100 → Xi S 922 (Xi S 973 q).toNat ≠ -1)
/-- what may be told now -/
def NFX (S : sS) (w i : Int) : Prop := w = 1 → Xi S 952 i.toNat = 0 ∨ Xi S 952 i.toNat = 3 ∨ Xi S 952 i.toNat = 5
theorem syq_5 {S T U : sS} {q : Int} (h : SYQ T q) (e19 : Xi T 904 19 = Xi S 904 19) (e115 : Xi T 904 115 = Xi S 904 115) (e116 : Xi T 904 116 = Xi S 904 116) (u19 : Xi U 904 19 = Xi S 904 19) (u1 : Xi U 971 q.toNat = Xi T 971 q.toNat) (u2 : Xi U 972 q.toNat = Xi T 972 q.toNat) (u5 : Xi U 975 q.toNat = Xi T 975 q.toNat) (f : Xi U 969 q.toNat = 5) : TQ U (0 ≤ Xi S 904 115) (0 ≤ Xi S 904 116) q.toNat := by
  unfold SYQ at h
  rw [e115, e116] at h
  exact tq_5 f (thk_c h.1 (by rw [u19, e19]) u1) (thk_c h.2.1 (by rw [u19, e19]) u5) (by rw [u2]; exact h.2.2)
def md_mo_testMeant : List rec := [(904, 905, 64, 65), (904, 905, 104, 105), (904, 905, 105, 106), (904, 905, 106, 107), (904, 905, 113, 114), (969, 970, 0, 100000), (970, 971, 0, 100000), (971, 972, 0, 100000), (972, 973, 0, 100000), (973, 974, 0, 100000), (974, 975, 0, 100000), (975, 976, 0, 100000)]
abbrev Q_mo_testMeant (S : sS) (n : Nat) (i : Int) (q : Int) (isNow : Int) : pst := fun r S1 => HI S1 ∧ FR md_mo_testMeant S S1 ∧ (r = none ∧ (Xi S 904 106 ≠ 0 → Xi S1 904 106 ≠ 0) ∧ (Xi S1 904 106 = 0 → TQ S1 (0 ≤ Xi S 904 115) (0 ≤ Xi S 904 116) q.toNat) ∧ (Xi S1 904 106 = 0 → isNow = 1 → NF S1 q.toNat) ∧ (KQ S1 S q))
set_option maxRecDepth 100000 in
set_option maxHeartbeats 8000000 in
theorem t_mo_testMeant {S : sS} (hH : HI S) (n : Nat) (i : Int) (q : Int) (isNow : Int) (hi : 0 ≤ i ∧ i ≤ 1699) (hq : 0 ≤ q ∧ q ≤ 2399) (hisNow : 0 ≤ isNow ∧ isNow ≤ 1) (hT : TK S n) (hv : RNV S n) (hM : LXM S) (hB : ABV S) (hC : DCM S) (hK : TXK S n) (htv : TV S n i.toNat) (hnf : NFX S isNow i) (d : Nat) : Mt lay0 (d + 7) m_mo_testMeant [.ref 904, iv i, iv q, iv isNow] S (Q_mo_testMeant S n i q isNow) := by
  refine Mt_R rfl rfl ?_
  have hF : FR md_mo_testMeant S S := FR.rf
  have w1 : 0 ≤ Xi S 904 106 ∧ Xi S 904 106 ≤ 9 := hH.c _ _
  have w2 : -1 ≤ Xi S 904 113 ∧ Xi S 904 113 ≤ 6411 := hH.c _ _
  have w3 : -1 ≤ Xi S 904 115 ∧ Xi S 904 115 ≤ 15 := hH.c _ _
  have w4 : -1 ≤ Xi S 904 116 ∧ Xi S 904 116 ≤ 15 := hH.c _ _
  have w5 : 0 ≤ Xi S 904 69 ∧ Xi S 904 69 ≤ 2600 := hH.c _ _
  have hn5 := hT.1
  have hc69 : 0 ≤ Xi S 904 69 ∧ Xi S 904 69 ≤ 2600 := hH.c _ _
  have hc32 : 0 ≤ Xi S 904 32 ∧ Xi S 904 32 ≤ 12 := hH.c _ _
  have hc952 : 0 ≤ Xi S 952 i.toNat ∧ Xi S 952 i.toNat ≤ 5 := hH.c 952 _
  have hte := htv.1
  have hrf : ∀ r : Int, 0 ≤ r → r < Xi S 904 69 → Xi S 950 r.toNat + Xi S 951 r.toNat ≤ n ∧ 1 ≤ Xi S 951 r.toNat := fun r a b => hv r.toNat (by omega)
  have C94 : ∀  (T1 : sS) (_ : HI T1) (_ : FR md_mo_testMeant S T1), (Xi T1 969 (q).toNat = Xi S 952 i.toNat) → (Xi S 904 106 ≠ 0 → Xi T1 904 106 ≠ 0) → (Xi T1 904 69 = Xi S 904 69) → (KQ T1 S q) → (Xi S 952 i.toNat ≠ 5) → Rl lay0 (d + 6) m_mo_testMeant 94 [(0, .ref 904), (1, iv i), (2, iv q), (3, iv isNow)] [] T1 (Q_mo_testMeant S n i q isNow) := by
    intro T1 hHT1 hFT1 w6 w7 w8 K94 w9
    have w10 : Xi T1 904 115 = Xi S 904 115 := hFT1.x _ _ rfl
    have w11 : Xi T1 904 116 = Xi S 904 116 := hFT1.x _ _ rfl
    have w12 : Xi T1 904 19 = Xi S 904 19 := hFT1.x _ _ rfl
    have w13 : Xi T1 904 32 = Xi S 904 32 := hFT1.x _ _ rfl
    have w14 : Xi T1 904 69 = Xi S 904 69 := hFT1.x _ _ rfl
    have w15 : 0 ≤ Xi T1 904 106 ∧ Xi T1 904 106 ≤ 9 := hHT1.c _ _
    have w16 : 0 ≤ Xi T1 904 69 ∧ Xi T1 904 69 ≤ 2600 := hHT1.c _ _
    have C209 : ∀  (T2 : sS) (_ : HI T2) (_ : FR md_mo_testMeant S T2) (v5 : Int) (v6 : Int), (0 ≤ v5 ∧ v5 ≤ 2599) → (0 ≤ v6 ∧ v6 ≤ 12) → (Xi T2 971 (q).toNat ≠ -9) → (0 ≤ v5 ∧ v5 < Xi S 904 69) → (Xi T2 969 (q).toNat = 3) → (Xi S 904 106 ≠ 0 → Xi T2 904 106 ≠ 0) → (thK S (0 ≤ Xi S 904 115) (0 ≤ Xi S 904 116) (Xi T2 971 (q).toNat)) → (Xi S 950 (v5).toNat + Xi S 951 (v5).toNat ≤ n ∧ 1 ≤ Xi S 951 (v5).toNat) → (1 ≤ v6 → ADX S (1 - isNow) (Xi T2 904 113)) → (KQ T2 S q) → Rl lay0 (d + 6) m_mo_testMeant 209 [(0, .ref 904), (2, iv q), (5, iv v5), (6, iv v6)] [] T2 (Q_mo_testMeant S n i q isNow) := by
      intro T2 hHT2 hFT2 v5 v6 w17 w18 w19 w20 w21 w22 H209 G209 W209 K209
      have w23 : Xi T2 904 115 = Xi S 904 115 := hFT2.x _ _ rfl
      have w24 : Xi T2 904 116 = Xi S 904 116 := hFT2.x _ _ rfl
      have w25 : Xi T2 904 19 = Xi S 904 19 := hFT2.x _ _ rfl
      have w26 : Xi T2 904 32 = Xi S 904 32 := hFT2.x _ _ rfl
      have w27 : Xi T2 904 69 = Xi S 904 69 := hFT2.x _ _ rfl
      have w28 : 0 ≤ Xi T2 904 106 ∧ Xi T2 904 106 ≤ 9 := hHT2.c _ _
      have w29 : -1 ≤ Xi T2 904 113 ∧ Xi T2 904 113 ≤ 6411 := hHT2.c _ _
      refine l_aload_n rfl rfl ?_
      refine l_iload rfl rfl ?_
      refine l_if_le rfl rfl (by unfold rg; omega) (fun w30 => ?_) (fun w31 => ?_)
      · refine l_iconst rfl ?_
        refine l_iconst rfl ?_
        refine l_aload_n rfl rfl ?_
        refine l_gfr rfl rfl rfl rfl rfl (hHT2.r 904 67 950 rfl) ?_
        refine l_iload rfl rfl ?_
        refine l_iaload (n := 2600) rfl rfl (by omega) (by omega) (by unfold rg; omega) ?_
        have w32 : 0 ≤ (Xi T2 950 ((v5).toNat)) ∧ (Xi T2 950 ((v5).toNat)) ≤ 5010 := hHT2.c _ _
        have e227 : (Xi T2 950 ((v5).toNat)) = Xi S 950 (v5).toNat := by first | rfl | exact (hFT2.cx 950 rfl _).1 | exact (hFT2.cx 950 rfl _).1 | exact (hFT2.cx 950 rfl _).1
        have w33 : 0 ≤ Xi T2 904 106 ∧ Xi T2 904 106 ≤ 9 := hHT2.c _ _
        have w34 : -1 ≤ Xi T2 904 113 ∧ Xi T2 904 113 ≤ 6411 := hHT2.c _ _
        have w35 : 0 ≤ Xi T2 904 69 ∧ Xi T2 904 69 ≤ 2600 := hHT2.c _ _
        refine l_callV rfl rfl rfl (t_mo_need hHT2 0 4 (Xi T2 950 ((v5).toNat)) ⟨by omega, by omega⟩ ⟨by omega, by omega⟩ ⟨by omega, by omega⟩ _) ?_
        rintro _ T3 ⟨hHT3, w39, rfl, w36, w37⟩
        have hFT3 : FR md_mo_testMeant S T3 := FR.tr hFT2 w39 rfl
        show Rl _ _ _ _ _ [] _ _
        refine l_aload_n rfl rfl ?_
        refine l_iload rfl rfl ?_
        refine l_iconst rfl ?_
        refine l_icmp_ge rfl rfl (by unfold rg; omega) (by unfold rg; omega) (fun w40 => ?_) (fun w41 => ?_)
        · refine l_iconst rfl ?_
          refine l_bipush rfl rfl ?_
          refine l_aload_n rfl rfl ?_
          refine l_gfr rfl rfl rfl rfl rfl (hHT3.r 904 67 950 rfl) ?_
          refine l_iload rfl rfl ?_
          refine l_iaload (n := 2600) rfl rfl (by omega) (by omega) (by unfold rg; omega) ?_
          have w42 : (Xi T3 950 ((v5).toNat)) = (Xi T2 950 ((v5).toNat)) := (show Xi T3 950 ((v5).toNat) = Xi T2 950 ((v5).toNat) from w39.x _ _ rfl)
          rw [w42]
          have e251 : (Xi T2 950 ((v5).toNat)) = Xi S 950 (v5).toNat := by first | rfl | exact (hFT3.cx 950 rfl _).1 | exact (hFT2.cx 950 rfl _).1 | exact (hFT2.cx 950 rfl _).1
          have w43 : 0 ≤ Xi T3 904 106 ∧ Xi T3 904 106 ≤ 9 := hHT3.c _ _
          have w44 : Xi T3 904 113 = Xi T2 904 113 := (show Xi T3 904 113 = Xi T2 904 113 from w39.x _ _ rfl)
          have w45 : -1 ≤ Xi T2 904 113 ∧ Xi T2 904 113 ≤ 6411 := hHT2.c _ _
          have w46 : Xi T3 904 69 = Xi T2 904 69 := (show Xi T3 904 69 = Xi T2 904 69 from w39.x _ _ rfl)
          have w47 : 0 ≤ Xi T2 904 69 ∧ Xi T2 904 69 ≤ 2600 := hHT2.c _ _
          refine l_callV rfl rfl rfl (t_mo_need hHT3 0 7 (Xi T2 950 ((v5).toNat)) ⟨by omega, by omega⟩ ⟨by omega, by omega⟩ ⟨by omega, by omega⟩ _) ?_
          rintro _ T4 ⟨hHT4, w51, rfl, w48, w49⟩
          have hFT4 : FR md_mo_testMeant S T4 := FR.tr hFT3 w51 rfl
          show Rl _ _ _ _ _ [] _ _
          refine l_aload_n rfl rfl ?_
          refine l_gfr rfl rfl rfl rfl rfl (hHT4.r 904 122 973 rfl) ?_
          refine l_iload_n rfl rfl ?_
          refine l_iload rfl rfl ?_
          refine l_if_le rfl rfl (by unfold rg; omega) (fun w52 => ?_) (fun w53 => ?_)
          · refine l_iconst rfl ?_
            refine l_iastore (n := 2400) rfl rfl (by omega) (by omega) (by unfold rg; omega) ?_
            obtain ⟨U5, eU5⟩ : ∃ T : sS, T = uI T4 973 ((q).toNat) (Int32.ofInt 0) := ⟨_, rfl⟩
            rw [← eU5]
            have hHU5 : HI U5 := by rw [eU5]; exact HI_any hHT4 (rfl)
            have hFU5 : FR md_mo_testMeant S U5 := by rw [eU5]; exact FR.wI hFT4 (mdf_i (r := (973, 974, 0, 100000)) (List.mem_of_getElem? (i := 9) rfl) (inR_i (by omega) (by omega) (by omega) (by omega)))
            have w54 : Xi U5 973 ((q).toNat) = 0 := by rw [eU5]; exact Xi_same (by unfold rg; omega)
            refine l_goto rfl rfl ?_
            refine l_return rfl rfl ?_
            have w55 : Xi U5 969 (q).toNat = Xi T2 969 (q).toNat := (show Xi U5 969 (q).toNat = Xi T4 969 (q).toNat from by rw [eU5]; exact Xi_ne (by omega)).trans ( (show Xi T4 969 (q).toNat = Xi T3 969 (q).toNat from (w51.cx 969 rfl _).1).trans ((show Xi T3 969 (q).toNat = Xi T2 969 (q).toNat from (w39.cx 969 rfl _).1)))
            have w56 : Xi U5 971 (q).toNat = Xi T2 971 (q).toNat := (show Xi U5 971 (q).toNat = Xi T4 971 (q).toNat from by rw [eU5]; exact Xi_ne (by omega)).trans ( (show Xi T4 971 (q).toNat = Xi T3 971 (q).toNat from (w51.cx 971 rfl _).1).trans ((show Xi T3 971 (q).toNat = Xi T2 971 (q).toNat from (w39.cx 971 rfl _).1)))
            have w57 : Xi U5 972 (q).toNat = Xi T2 972 (q).toNat := (show Xi U5 972 (q).toNat = Xi T4 972 (q).toNat from by rw [eU5]; exact Xi_ne (by omega)).trans ( (show Xi T4 972 (q).toNat = Xi T3 972 (q).toNat from (w51.cx 972 rfl _).1).trans ((show Xi T3 972 (q).toNat = Xi T2 972 (q).toNat from (w39.cx 972 rfl _).1)))
            have w58 : Xi U5 974 (q).toNat = Xi T2 974 (q).toNat := (show Xi U5 974 (q).toNat = Xi T4 974 (q).toNat from by rw [eU5]; exact Xi_ne (by omega)).trans ( (show Xi T4 974 (q).toNat = Xi T3 974 (q).toNat from (w51.cx 974 rfl _).1).trans ((show Xi T3 974 (q).toNat = Xi T2 974 (q).toNat from (w39.cx 974 rfl _).1)))
            have w59 : Xi U5 975 (q).toNat = Xi T2 975 (q).toNat := (show Xi U5 975 (q).toNat = Xi T4 975 (q).toNat from by rw [eU5]; exact Xi_ne (by omega)).trans ( (show Xi T4 975 (q).toNat = Xi T3 975 (q).toNat from (w51.cx 975 rfl _).1).trans ((show Xi T3 975 (q).toNat = Xi T2 975 (q).toNat from (w39.cx 975 rfl _).1)))
            have w60 : Xi U5 904 106 = Xi T4 904 106 := (show Xi U5 904 106 = Xi T4 904 106 from by rw [eU5]; exact Xi_ne (by omega))
            have w61 : 0 ≤ Xi T4 904 106 ∧ Xi T4 904 106 ≤ 9 := hHT4.c _ _
            have w62 : Xi U5 904 113 = Xi T2 904 113 := (show Xi U5 904 113 = Xi T4 904 113 from by rw [eU5]; exact Xi_ne (by omega)).trans ( (show Xi T4 904 113 = Xi T3 904 113 from w51.x _ _ rfl).trans ((show Xi T3 904 113 = Xi T2 904 113 from w39.x _ _ rfl)))
            have w63 : -1 ≤ Xi T2 904 113 ∧ Xi T2 904 113 ≤ 6411 := hHT2.c _ _
            have w64 : Xi U5 904 69 = Xi T2 904 69 := (show Xi U5 904 69 = Xi T4 904 69 from by rw [eU5]; exact Xi_ne (by omega)).trans ( (show Xi T4 904 69 = Xi T3 904 69 from w51.x _ _ rfl).trans ((show Xi T3 904 69 = Xi T2 904 69 from w39.x _ _ rfl)))
            have w65 : 0 ≤ Xi T2 904 69 ∧ Xi T2 904 69 ≤ 2600 := hHT2.c _ _
            exact ⟨hHU5, hFU5, rfl, (by omega), (by first | exact (fun _ q => syq_5 (f52 (by omega)) h52.1 h52.2.1 h52.2.2 (hFU5.x 904 19 rfl) (by omega) (by omega) (by omega) (by omega)) f52 | exact (fun _ q => tq_3 (by omega) (thk_c (H209) (hFU5.x 904 19 rfl) (by omega)) (adx_c (W209 (by omega)) (hFU5.x 904 23 rfl) (hFU5.x 904 32 rfl) (by omega))) W209 | exact (fun _ q => tq_4 (by omega) (thk_c (H277 (by omega)) (hFU5.x 904 19 rfl) (by omega))) q299 | exact (fun _ q => tq_2 (by omega) (thk_c (H328 (by omega)) (hFU5.x 904 19 rfl) (by omega)) (by have a := hFU5.x 904 32 rfl; omega) (fun _ => o386)) o386 | exact (fun _ q => tq_2 (by omega) (thk_c (H328 (by omega)) (hFU5.x 904 19 rfl) (by omega)) (by have a := hFU5.x 904 32 rfl; omega) (fun y => absurd y (by omega))) p337 | exact fun x => absurd x (by omega)), (by first | exact fun x y => ⟨Or.inr (Or.inr (by omega)), fun z => absurd z (by omega)⟩ | exact fun x y => ⟨by have t := hnf y; omega, fun z => absurd z (by omega)⟩ | exact (fun _ x0 => fun y => ⟨by omega, fun _ z => by rw [(hFU5.cx 922 rfl _).1, show Xi U5 973 (q).toNat = Xi T2 904 113 by omega]; exact (W209 (by omega)).2 (by omega) (by omega)⟩) W209 | exact fun x => absurd x (by omega)), ((KQ.w (KQ_FR w51 rfl (KQ_FR w39 rfl (by assumption : KQ T2 S _))) eU5 (by omega)))⟩
          · refine l_aload_n rfl rfl ?_
            refine l_gfi rfl rfl rfl rfl rfl ?_
            have w66 : (Xi T4 904 113) = (Xi T2 904 113) := (show Xi T4 904 113 = Xi T3 904 113 from w51.x _ _ rfl).trans ((show Xi T3 904 113 = Xi T2 904 113 from w39.x _ _ rfl))
            rw [w66]
            refine l_goto rfl rfl ?_
            refine l_iastore (n := 2400) rfl rfl (by omega) (by omega) (by unfold rg; omega) ?_
            obtain ⟨U6, eU6⟩ : ∃ T : sS, T = uI T4 973 ((q).toNat) (Int32.ofInt (Xi T2 904 113)) := ⟨_, rfl⟩
            rw [← eU6]
            have hHU6 : HI U6 := by rw [eU6]; exact HI_any hHT4 (rfl)
            have hFU6 : FR md_mo_testMeant S U6 := by rw [eU6]; exact FR.wI hFT4 (mdf_i (r := (973, 974, 0, 100000)) (List.mem_of_getElem? (i := 9) rfl) (inR_i (by omega) (by omega) (by omega) (by omega)))
            have w67 : Xi U6 973 ((q).toNat) = (Xi T2 904 113) := by rw [eU6]; exact Xi_same (by unfold rg; omega)
            refine l_goto rfl rfl ?_
            refine l_return rfl rfl ?_
            have w68 : Xi U6 969 (q).toNat = Xi T2 969 (q).toNat := (show Xi U6 969 (q).toNat = Xi T4 969 (q).toNat from by rw [eU6]; exact Xi_ne (by omega)).trans ( (show Xi T4 969 (q).toNat = Xi T3 969 (q).toNat from (w51.cx 969 rfl _).1).trans ((show Xi T3 969 (q).toNat = Xi T2 969 (q).toNat from (w39.cx 969 rfl _).1)))
            have w69 : Xi U6 971 (q).toNat = Xi T2 971 (q).toNat := (show Xi U6 971 (q).toNat = Xi T4 971 (q).toNat from by rw [eU6]; exact Xi_ne (by omega)).trans ( (show Xi T4 971 (q).toNat = Xi T3 971 (q).toNat from (w51.cx 971 rfl _).1).trans ((show Xi T3 971 (q).toNat = Xi T2 971 (q).toNat from (w39.cx 971 rfl _).1)))
            have w70 : Xi U6 972 (q).toNat = Xi T2 972 (q).toNat := (show Xi U6 972 (q).toNat = Xi T4 972 (q).toNat from by rw [eU6]; exact Xi_ne (by omega)).trans ( (show Xi T4 972 (q).toNat = Xi T3 972 (q).toNat from (w51.cx 972 rfl _).1).trans ((show Xi T3 972 (q).toNat = Xi T2 972 (q).toNat from (w39.cx 972 rfl _).1)))
            have w71 : Xi U6 974 (q).toNat = Xi T2 974 (q).toNat := (show Xi U6 974 (q).toNat = Xi T4 974 (q).toNat from by rw [eU6]; exact Xi_ne (by omega)).trans ( (show Xi T4 974 (q).toNat = Xi T3 974 (q).toNat from (w51.cx 974 rfl _).1).trans ((show Xi T3 974 (q).toNat = Xi T2 974 (q).toNat from (w39.cx 974 rfl _).1)))
            have w72 : Xi U6 975 (q).toNat = Xi T2 975 (q).toNat := (show Xi U6 975 (q).toNat = Xi T4 975 (q).toNat from by rw [eU6]; exact Xi_ne (by omega)).trans ( (show Xi T4 975 (q).toNat = Xi T3 975 (q).toNat from (w51.cx 975 rfl _).1).trans ((show Xi T3 975 (q).toNat = Xi T2 975 (q).toNat from (w39.cx 975 rfl _).1)))
            have w73 : Xi U6 904 106 = Xi T4 904 106 := (show Xi U6 904 106 = Xi T4 904 106 from by rw [eU6]; exact Xi_ne (by omega))
            have w74 : 0 ≤ Xi T4 904 106 ∧ Xi T4 904 106 ≤ 9 := hHT4.c _ _
            have w75 : Xi U6 904 113 = Xi T2 904 113 := (show Xi U6 904 113 = Xi T4 904 113 from by rw [eU6]; exact Xi_ne (by omega)).trans ( (show Xi T4 904 113 = Xi T3 904 113 from w51.x _ _ rfl).trans ((show Xi T3 904 113 = Xi T2 904 113 from w39.x _ _ rfl)))
            have w76 : -1 ≤ Xi T2 904 113 ∧ Xi T2 904 113 ≤ 6411 := hHT2.c _ _
            have w77 : Xi U6 904 69 = Xi T2 904 69 := (show Xi U6 904 69 = Xi T4 904 69 from by rw [eU6]; exact Xi_ne (by omega)).trans ( (show Xi T4 904 69 = Xi T3 904 69 from w51.x _ _ rfl).trans ((show Xi T3 904 69 = Xi T2 904 69 from w39.x _ _ rfl)))
            have w78 : 0 ≤ Xi T2 904 69 ∧ Xi T2 904 69 ≤ 2600 := hHT2.c _ _
            exact ⟨hHU6, hFU6, rfl, (by omega), (by first | exact (fun _ q => syq_5 (f52 (by omega)) h52.1 h52.2.1 h52.2.2 (hFU6.x 904 19 rfl) (by omega) (by omega) (by omega) (by omega)) f52 | exact (fun _ q => tq_3 (by omega) (thk_c (H209) (hFU6.x 904 19 rfl) (by omega)) (adx_c (W209 (by omega)) (hFU6.x 904 23 rfl) (hFU6.x 904 32 rfl) (by omega))) W209 | exact (fun _ q => tq_4 (by omega) (thk_c (H277 (by omega)) (hFU6.x 904 19 rfl) (by omega))) q299 | exact (fun _ q => tq_2 (by omega) (thk_c (H328 (by omega)) (hFU6.x 904 19 rfl) (by omega)) (by have a := hFU6.x 904 32 rfl; omega) (fun _ => o386)) o386 | exact (fun _ q => tq_2 (by omega) (thk_c (H328 (by omega)) (hFU6.x 904 19 rfl) (by omega)) (by have a := hFU6.x 904 32 rfl; omega) (fun y => absurd y (by omega))) p337 | exact fun x => absurd x (by omega)), (by first | exact fun x y => ⟨Or.inr (Or.inr (by omega)), fun z => absurd z (by omega)⟩ | exact fun x y => ⟨by have t := hnf y; omega, fun z => absurd z (by omega)⟩ | exact (fun _ x0 => fun y => ⟨by omega, fun _ z => by rw [(hFU6.cx 922 rfl _).1, show Xi U6 973 (q).toNat = Xi T2 904 113 by omega]; exact (W209 (by omega)).2 (by omega) (by omega)⟩) W209 | exact fun x => absurd x (by omega)), ((KQ.w (KQ_FR w51 rfl (KQ_FR w39 rfl (by assumption : KQ T2 S _))) eU6 (by omega)))⟩
        · refine l_iconst rfl ?_
          refine l_goto rfl rfl ?_
          refine l_bipush rfl rfl ?_
          refine l_aload_n rfl rfl ?_
          refine l_gfr rfl rfl rfl rfl rfl (hHT3.r 904 67 950 rfl) ?_
          refine l_iload rfl rfl ?_
          refine l_iaload (n := 2600) rfl rfl (by omega) (by omega) (by unfold rg; omega) ?_
          have w79 : (Xi T3 950 ((v5).toNat)) = (Xi T2 950 ((v5).toNat)) := (show Xi T3 950 ((v5).toNat) = Xi T2 950 ((v5).toNat) from w39.x _ _ rfl)
          rw [w79]
          have e251 : (Xi T2 950 ((v5).toNat)) = Xi S 950 (v5).toNat := by first | rfl | exact (hFT3.cx 950 rfl _).1 | exact (hFT2.cx 950 rfl _).1 | exact (hFT2.cx 950 rfl _).1
          have w80 : 0 ≤ Xi T3 904 106 ∧ Xi T3 904 106 ≤ 9 := hHT3.c _ _
          have w81 : Xi T3 904 113 = Xi T2 904 113 := (show Xi T3 904 113 = Xi T2 904 113 from w39.x _ _ rfl)
          have w82 : -1 ≤ Xi T2 904 113 ∧ Xi T2 904 113 ≤ 6411 := hHT2.c _ _
          have w83 : Xi T3 904 69 = Xi T2 904 69 := (show Xi T3 904 69 = Xi T2 904 69 from w39.x _ _ rfl)
          have w84 : 0 ≤ Xi T2 904 69 ∧ Xi T2 904 69 ≤ 2600 := hHT2.c _ _
          refine l_callV rfl rfl rfl (t_mo_need hHT3 1 7 (Xi T2 950 ((v5).toNat)) ⟨by omega, by omega⟩ ⟨by omega, by omega⟩ ⟨by omega, by omega⟩ _) ?_
          rintro _ T7 ⟨hHT7, w88, rfl, w85, w86⟩
          have hFT7 : FR md_mo_testMeant S T7 := FR.tr hFT3 w88 rfl
          show Rl _ _ _ _ _ [] _ _
          refine l_aload_n rfl rfl ?_
          refine l_gfr rfl rfl rfl rfl rfl (hHT7.r 904 122 973 rfl) ?_
          refine l_iload_n rfl rfl ?_
          refine l_iload rfl rfl ?_
          refine l_if_le rfl rfl (by unfold rg; omega) (fun w89 => ?_) (fun w90 => ?_)
          · refine l_iconst rfl ?_
            refine l_iastore (n := 2400) rfl rfl (by omega) (by omega) (by unfold rg; omega) ?_
            obtain ⟨U8, eU8⟩ : ∃ T : sS, T = uI T7 973 ((q).toNat) (Int32.ofInt 0) := ⟨_, rfl⟩
            rw [← eU8]
            have hHU8 : HI U8 := by rw [eU8]; exact HI_any hHT7 (rfl)
            have hFU8 : FR md_mo_testMeant S U8 := by rw [eU8]; exact FR.wI hFT7 (mdf_i (r := (973, 974, 0, 100000)) (List.mem_of_getElem? (i := 9) rfl) (inR_i (by omega) (by omega) (by omega) (by omega)))
            have w91 : Xi U8 973 ((q).toNat) = 0 := by rw [eU8]; exact Xi_same (by unfold rg; omega)
            refine l_goto rfl rfl ?_
            refine l_return rfl rfl ?_
            have w92 : Xi U8 969 (q).toNat = Xi T2 969 (q).toNat := (show Xi U8 969 (q).toNat = Xi T7 969 (q).toNat from by rw [eU8]; exact Xi_ne (by omega)).trans ( (show Xi T7 969 (q).toNat = Xi T3 969 (q).toNat from (w88.cx 969 rfl _).1).trans ((show Xi T3 969 (q).toNat = Xi T2 969 (q).toNat from (w39.cx 969 rfl _).1)))
            have w93 : Xi U8 971 (q).toNat = Xi T2 971 (q).toNat := (show Xi U8 971 (q).toNat = Xi T7 971 (q).toNat from by rw [eU8]; exact Xi_ne (by omega)).trans ( (show Xi T7 971 (q).toNat = Xi T3 971 (q).toNat from (w88.cx 971 rfl _).1).trans ((show Xi T3 971 (q).toNat = Xi T2 971 (q).toNat from (w39.cx 971 rfl _).1)))
            have w94 : Xi U8 972 (q).toNat = Xi T2 972 (q).toNat := (show Xi U8 972 (q).toNat = Xi T7 972 (q).toNat from by rw [eU8]; exact Xi_ne (by omega)).trans ( (show Xi T7 972 (q).toNat = Xi T3 972 (q).toNat from (w88.cx 972 rfl _).1).trans ((show Xi T3 972 (q).toNat = Xi T2 972 (q).toNat from (w39.cx 972 rfl _).1)))
            have w95 : Xi U8 974 (q).toNat = Xi T2 974 (q).toNat := (show Xi U8 974 (q).toNat = Xi T7 974 (q).toNat from by rw [eU8]; exact Xi_ne (by omega)).trans ( (show Xi T7 974 (q).toNat = Xi T3 974 (q).toNat from (w88.cx 974 rfl _).1).trans ((show Xi T3 974 (q).toNat = Xi T2 974 (q).toNat from (w39.cx 974 rfl _).1)))
            have w96 : Xi U8 975 (q).toNat = Xi T2 975 (q).toNat := (show Xi U8 975 (q).toNat = Xi T7 975 (q).toNat from by rw [eU8]; exact Xi_ne (by omega)).trans ( (show Xi T7 975 (q).toNat = Xi T3 975 (q).toNat from (w88.cx 975 rfl _).1).trans ((show Xi T3 975 (q).toNat = Xi T2 975 (q).toNat from (w39.cx 975 rfl _).1)))
            have w97 : Xi U8 904 106 = Xi T7 904 106 := (show Xi U8 904 106 = Xi T7 904 106 from by rw [eU8]; exact Xi_ne (by omega))
            have w98 : 0 ≤ Xi T7 904 106 ∧ Xi T7 904 106 ≤ 9 := hHT7.c _ _
            have w99 : Xi U8 904 113 = Xi T2 904 113 := (show Xi U8 904 113 = Xi T7 904 113 from by rw [eU8]; exact Xi_ne (by omega)).trans ( (show Xi T7 904 113 = Xi T3 904 113 from w88.x _ _ rfl).trans ((show Xi T3 904 113 = Xi T2 904 113 from w39.x _ _ rfl)))
            have w100 : -1 ≤ Xi T2 904 113 ∧ Xi T2 904 113 ≤ 6411 := hHT2.c _ _
            have w101 : Xi U8 904 69 = Xi T2 904 69 := (show Xi U8 904 69 = Xi T7 904 69 from by rw [eU8]; exact Xi_ne (by omega)).trans ( (show Xi T7 904 69 = Xi T3 904 69 from w88.x _ _ rfl).trans ((show Xi T3 904 69 = Xi T2 904 69 from w39.x _ _ rfl)))
            have w102 : 0 ≤ Xi T2 904 69 ∧ Xi T2 904 69 ≤ 2600 := hHT2.c _ _
            exact ⟨hHU8, hFU8, rfl, (by omega), (by first | exact (fun _ q => syq_5 (f52 (by omega)) h52.1 h52.2.1 h52.2.2 (hFU8.x 904 19 rfl) (by omega) (by omega) (by omega) (by omega)) f52 | exact (fun _ q => tq_3 (by omega) (thk_c (H209) (hFU8.x 904 19 rfl) (by omega)) (adx_c (W209 (by omega)) (hFU8.x 904 23 rfl) (hFU8.x 904 32 rfl) (by omega))) W209 | exact (fun _ q => tq_4 (by omega) (thk_c (H277 (by omega)) (hFU8.x 904 19 rfl) (by omega))) q299 | exact (fun _ q => tq_2 (by omega) (thk_c (H328 (by omega)) (hFU8.x 904 19 rfl) (by omega)) (by have a := hFU8.x 904 32 rfl; omega) (fun _ => o386)) o386 | exact (fun _ q => tq_2 (by omega) (thk_c (H328 (by omega)) (hFU8.x 904 19 rfl) (by omega)) (by have a := hFU8.x 904 32 rfl; omega) (fun y => absurd y (by omega))) p337 | exact fun x => absurd x (by omega)), (by first | exact fun x y => ⟨Or.inr (Or.inr (by omega)), fun z => absurd z (by omega)⟩ | exact fun x y => ⟨by have t := hnf y; omega, fun z => absurd z (by omega)⟩ | exact (fun _ x0 => fun y => ⟨by omega, fun _ z => by rw [(hFU8.cx 922 rfl _).1, show Xi U8 973 (q).toNat = Xi T2 904 113 by omega]; exact (W209 (by omega)).2 (by omega) (by omega)⟩) W209 | exact fun x => absurd x (by omega)), ((KQ.w (KQ_FR w88 rfl (KQ_FR w39 rfl (by assumption : KQ T2 S _))) eU8 (by omega)))⟩
          · refine l_aload_n rfl rfl ?_
            refine l_gfi rfl rfl rfl rfl rfl ?_
            have w103 : (Xi T7 904 113) = (Xi T2 904 113) := (show Xi T7 904 113 = Xi T3 904 113 from w88.x _ _ rfl).trans ((show Xi T3 904 113 = Xi T2 904 113 from w39.x _ _ rfl))
            rw [w103]
            refine l_goto rfl rfl ?_
            refine l_iastore (n := 2400) rfl rfl (by omega) (by omega) (by unfold rg; omega) ?_
            obtain ⟨U9, eU9⟩ : ∃ T : sS, T = uI T7 973 ((q).toNat) (Int32.ofInt (Xi T2 904 113)) := ⟨_, rfl⟩
            rw [← eU9]
            have hHU9 : HI U9 := by rw [eU9]; exact HI_any hHT7 (rfl)
            have hFU9 : FR md_mo_testMeant S U9 := by rw [eU9]; exact FR.wI hFT7 (mdf_i (r := (973, 974, 0, 100000)) (List.mem_of_getElem? (i := 9) rfl) (inR_i (by omega) (by omega) (by omega) (by omega)))
            have w104 : Xi U9 973 ((q).toNat) = (Xi T2 904 113) := by rw [eU9]; exact Xi_same (by unfold rg; omega)
            refine l_goto rfl rfl ?_
            refine l_return rfl rfl ?_
            have w105 : Xi U9 969 (q).toNat = Xi T2 969 (q).toNat := (show Xi U9 969 (q).toNat = Xi T7 969 (q).toNat from by rw [eU9]; exact Xi_ne (by omega)).trans ( (show Xi T7 969 (q).toNat = Xi T3 969 (q).toNat from (w88.cx 969 rfl _).1).trans ((show Xi T3 969 (q).toNat = Xi T2 969 (q).toNat from (w39.cx 969 rfl _).1)))
            have w106 : Xi U9 971 (q).toNat = Xi T2 971 (q).toNat := (show Xi U9 971 (q).toNat = Xi T7 971 (q).toNat from by rw [eU9]; exact Xi_ne (by omega)).trans ( (show Xi T7 971 (q).toNat = Xi T3 971 (q).toNat from (w88.cx 971 rfl _).1).trans ((show Xi T3 971 (q).toNat = Xi T2 971 (q).toNat from (w39.cx 971 rfl _).1)))
            have w107 : Xi U9 972 (q).toNat = Xi T2 972 (q).toNat := (show Xi U9 972 (q).toNat = Xi T7 972 (q).toNat from by rw [eU9]; exact Xi_ne (by omega)).trans ( (show Xi T7 972 (q).toNat = Xi T3 972 (q).toNat from (w88.cx 972 rfl _).1).trans ((show Xi T3 972 (q).toNat = Xi T2 972 (q).toNat from (w39.cx 972 rfl _).1)))
            have w108 : Xi U9 974 (q).toNat = Xi T2 974 (q).toNat := (show Xi U9 974 (q).toNat = Xi T7 974 (q).toNat from by rw [eU9]; exact Xi_ne (by omega)).trans ( (show Xi T7 974 (q).toNat = Xi T3 974 (q).toNat from (w88.cx 974 rfl _).1).trans ((show Xi T3 974 (q).toNat = Xi T2 974 (q).toNat from (w39.cx 974 rfl _).1)))
            have w109 : Xi U9 975 (q).toNat = Xi T2 975 (q).toNat := (show Xi U9 975 (q).toNat = Xi T7 975 (q).toNat from by rw [eU9]; exact Xi_ne (by omega)).trans ( (show Xi T7 975 (q).toNat = Xi T3 975 (q).toNat from (w88.cx 975 rfl _).1).trans ((show Xi T3 975 (q).toNat = Xi T2 975 (q).toNat from (w39.cx 975 rfl _).1)))
            have w110 : Xi U9 904 106 = Xi T7 904 106 := (show Xi U9 904 106 = Xi T7 904 106 from by rw [eU9]; exact Xi_ne (by omega))
            have w111 : 0 ≤ Xi T7 904 106 ∧ Xi T7 904 106 ≤ 9 := hHT7.c _ _
            have w112 : Xi U9 904 113 = Xi T2 904 113 := (show Xi U9 904 113 = Xi T7 904 113 from by rw [eU9]; exact Xi_ne (by omega)).trans ( (show Xi T7 904 113 = Xi T3 904 113 from w88.x _ _ rfl).trans ((show Xi T3 904 113 = Xi T2 904 113 from w39.x _ _ rfl)))
            have w113 : -1 ≤ Xi T2 904 113 ∧ Xi T2 904 113 ≤ 6411 := hHT2.c _ _
            have w114 : Xi U9 904 69 = Xi T2 904 69 := (show Xi U9 904 69 = Xi T7 904 69 from by rw [eU9]; exact Xi_ne (by omega)).trans ( (show Xi T7 904 69 = Xi T3 904 69 from w88.x _ _ rfl).trans ((show Xi T3 904 69 = Xi T2 904 69 from w39.x _ _ rfl)))
            have w115 : 0 ≤ Xi T2 904 69 ∧ Xi T2 904 69 ≤ 2600 := hHT2.c _ _
            exact ⟨hHU9, hFU9, rfl, (by omega), (by first | exact (fun _ q => syq_5 (f52 (by omega)) h52.1 h52.2.1 h52.2.2 (hFU9.x 904 19 rfl) (by omega) (by omega) (by omega) (by omega)) f52 | exact (fun _ q => tq_3 (by omega) (thk_c (H209) (hFU9.x 904 19 rfl) (by omega)) (adx_c (W209 (by omega)) (hFU9.x 904 23 rfl) (hFU9.x 904 32 rfl) (by omega))) W209 | exact (fun _ q => tq_4 (by omega) (thk_c (H277 (by omega)) (hFU9.x 904 19 rfl) (by omega))) q299 | exact (fun _ q => tq_2 (by omega) (thk_c (H328 (by omega)) (hFU9.x 904 19 rfl) (by omega)) (by have a := hFU9.x 904 32 rfl; omega) (fun _ => o386)) o386 | exact (fun _ q => tq_2 (by omega) (thk_c (H328 (by omega)) (hFU9.x 904 19 rfl) (by omega)) (by have a := hFU9.x 904 32 rfl; omega) (fun y => absurd y (by omega))) p337 | exact fun x => absurd x (by omega)), (by first | exact fun x y => ⟨Or.inr (Or.inr (by omega)), fun z => absurd z (by omega)⟩ | exact fun x y => ⟨by have t := hnf y; omega, fun z => absurd z (by omega)⟩ | exact (fun _ x0 => fun y => ⟨by omega, fun _ z => by rw [(hFU9.cx 922 rfl _).1, show Xi U9 973 (q).toNat = Xi T2 904 113 by omega]; exact (W209 (by omega)).2 (by omega) (by omega)⟩) W209 | exact fun x => absurd x (by omega)), ((KQ.w (KQ_FR w88 rfl (KQ_FR w39 rfl (by assumption : KQ T2 S _))) eU9 (by omega)))⟩
      · refine l_iconst rfl ?_
        refine l_goto rfl rfl ?_
        refine l_iconst rfl ?_
        refine l_aload_n rfl rfl ?_
        refine l_gfr rfl rfl rfl rfl rfl (hHT2.r 904 67 950 rfl) ?_
        refine l_iload rfl rfl ?_
        refine l_iaload (n := 2600) rfl rfl (by omega) (by omega) (by unfold rg; omega) ?_
        have w116 : 0 ≤ (Xi T2 950 ((v5).toNat)) ∧ (Xi T2 950 ((v5).toNat)) ≤ 5010 := hHT2.c _ _
        have e227 : (Xi T2 950 ((v5).toNat)) = Xi S 950 (v5).toNat := by first | rfl | exact (hFT2.cx 950 rfl _).1 | exact (hFT2.cx 950 rfl _).1 | exact (hFT2.cx 950 rfl _).1
        have w117 : 0 ≤ Xi T2 904 106 ∧ Xi T2 904 106 ≤ 9 := hHT2.c _ _
        have w118 : -1 ≤ Xi T2 904 113 ∧ Xi T2 904 113 ≤ 6411 := hHT2.c _ _
        have w119 : 0 ≤ Xi T2 904 69 ∧ Xi T2 904 69 ≤ 2600 := hHT2.c _ _
        refine l_callV rfl rfl rfl (t_mo_need hHT2 1 4 (Xi T2 950 ((v5).toNat)) ⟨by omega, by omega⟩ ⟨by omega, by omega⟩ ⟨by omega, by omega⟩ _) ?_
        rintro _ T10 ⟨hHT10, w123, rfl, w120, w121⟩
        have hFT10 : FR md_mo_testMeant S T10 := FR.tr hFT2 w123 rfl
        show Rl _ _ _ _ _ [] _ _
        refine l_aload_n rfl rfl ?_
        refine l_iload rfl rfl ?_
        refine l_iconst rfl ?_
        refine l_icmp_ge rfl rfl (by unfold rg; omega) (by unfold rg; omega) (fun w124 => ?_) (fun w125 => ?_)
        · refine l_iconst rfl ?_
          refine l_bipush rfl rfl ?_
          refine l_aload_n rfl rfl ?_
          refine l_gfr rfl rfl rfl rfl rfl (hHT10.r 904 67 950 rfl) ?_
          refine l_iload rfl rfl ?_
          refine l_iaload (n := 2600) rfl rfl (by omega) (by omega) (by unfold rg; omega) ?_
          have w126 : (Xi T10 950 ((v5).toNat)) = (Xi T2 950 ((v5).toNat)) := (show Xi T10 950 ((v5).toNat) = Xi T2 950 ((v5).toNat) from w123.x _ _ rfl)
          rw [w126]
          have e251 : (Xi T2 950 ((v5).toNat)) = Xi S 950 (v5).toNat := by first | rfl | exact (hFT10.cx 950 rfl _).1 | exact (hFT2.cx 950 rfl _).1 | exact (hFT2.cx 950 rfl _).1
          have w127 : 0 ≤ Xi T10 904 106 ∧ Xi T10 904 106 ≤ 9 := hHT10.c _ _
          have w128 : Xi T10 904 113 = Xi T2 904 113 := (show Xi T10 904 113 = Xi T2 904 113 from w123.x _ _ rfl)
          have w129 : -1 ≤ Xi T2 904 113 ∧ Xi T2 904 113 ≤ 6411 := hHT2.c _ _
          have w130 : Xi T10 904 69 = Xi T2 904 69 := (show Xi T10 904 69 = Xi T2 904 69 from w123.x _ _ rfl)
          have w131 : 0 ≤ Xi T2 904 69 ∧ Xi T2 904 69 ≤ 2600 := hHT2.c _ _
          refine l_callV rfl rfl rfl (t_mo_need hHT10 0 7 (Xi T2 950 ((v5).toNat)) ⟨by omega, by omega⟩ ⟨by omega, by omega⟩ ⟨by omega, by omega⟩ _) ?_
          rintro _ T11 ⟨hHT11, w135, rfl, w132, w133⟩
          have hFT11 : FR md_mo_testMeant S T11 := FR.tr hFT10 w135 rfl
          show Rl _ _ _ _ _ [] _ _
          refine l_aload_n rfl rfl ?_
          refine l_gfr rfl rfl rfl rfl rfl (hHT11.r 904 122 973 rfl) ?_
          refine l_iload_n rfl rfl ?_
          refine l_iload rfl rfl ?_
          refine l_if_le rfl rfl (by unfold rg; omega) (fun w136 => ?_) (fun w137 => ?_)
          · refine l_iconst rfl ?_
            refine l_iastore (n := 2400) rfl rfl (by omega) (by omega) (by unfold rg; omega) ?_
            obtain ⟨U12, eU12⟩ : ∃ T : sS, T = uI T11 973 ((q).toNat) (Int32.ofInt 0) := ⟨_, rfl⟩
            rw [← eU12]
            have hHU12 : HI U12 := by rw [eU12]; exact HI_any hHT11 (rfl)
            have hFU12 : FR md_mo_testMeant S U12 := by rw [eU12]; exact FR.wI hFT11 (mdf_i (r := (973, 974, 0, 100000)) (List.mem_of_getElem? (i := 9) rfl) (inR_i (by omega) (by omega) (by omega) (by omega)))
            have w138 : Xi U12 973 ((q).toNat) = 0 := by rw [eU12]; exact Xi_same (by unfold rg; omega)
            refine l_goto rfl rfl ?_
            refine l_return rfl rfl ?_
            have w139 : Xi U12 969 (q).toNat = Xi T2 969 (q).toNat := (show Xi U12 969 (q).toNat = Xi T11 969 (q).toNat from by rw [eU12]; exact Xi_ne (by omega)).trans ( (show Xi T11 969 (q).toNat = Xi T10 969 (q).toNat from (w135.cx 969 rfl _).1).trans ((show Xi T10 969 (q).toNat = Xi T2 969 (q).toNat from (w123.cx 969 rfl _).1)))
            have w140 : Xi U12 971 (q).toNat = Xi T2 971 (q).toNat := (show Xi U12 971 (q).toNat = Xi T11 971 (q).toNat from by rw [eU12]; exact Xi_ne (by omega)).trans ( (show Xi T11 971 (q).toNat = Xi T10 971 (q).toNat from (w135.cx 971 rfl _).1).trans ((show Xi T10 971 (q).toNat = Xi T2 971 (q).toNat from (w123.cx 971 rfl _).1)))
            have w141 : Xi U12 972 (q).toNat = Xi T2 972 (q).toNat := (show Xi U12 972 (q).toNat = Xi T11 972 (q).toNat from by rw [eU12]; exact Xi_ne (by omega)).trans ( (show Xi T11 972 (q).toNat = Xi T10 972 (q).toNat from (w135.cx 972 rfl _).1).trans ((show Xi T10 972 (q).toNat = Xi T2 972 (q).toNat from (w123.cx 972 rfl _).1)))
            have w142 : Xi U12 974 (q).toNat = Xi T2 974 (q).toNat := (show Xi U12 974 (q).toNat = Xi T11 974 (q).toNat from by rw [eU12]; exact Xi_ne (by omega)).trans ( (show Xi T11 974 (q).toNat = Xi T10 974 (q).toNat from (w135.cx 974 rfl _).1).trans ((show Xi T10 974 (q).toNat = Xi T2 974 (q).toNat from (w123.cx 974 rfl _).1)))
            have w143 : Xi U12 975 (q).toNat = Xi T2 975 (q).toNat := (show Xi U12 975 (q).toNat = Xi T11 975 (q).toNat from by rw [eU12]; exact Xi_ne (by omega)).trans ( (show Xi T11 975 (q).toNat = Xi T10 975 (q).toNat from (w135.cx 975 rfl _).1).trans ((show Xi T10 975 (q).toNat = Xi T2 975 (q).toNat from (w123.cx 975 rfl _).1)))
            have w144 : Xi U12 904 106 = Xi T11 904 106 := (show Xi U12 904 106 = Xi T11 904 106 from by rw [eU12]; exact Xi_ne (by omega))
            have w145 : 0 ≤ Xi T11 904 106 ∧ Xi T11 904 106 ≤ 9 := hHT11.c _ _
            have w146 : Xi U12 904 113 = Xi T2 904 113 := (show Xi U12 904 113 = Xi T11 904 113 from by rw [eU12]; exact Xi_ne (by omega)).trans ( (show Xi T11 904 113 = Xi T10 904 113 from w135.x _ _ rfl).trans ((show Xi T10 904 113 = Xi T2 904 113 from w123.x _ _ rfl)))
            have w147 : -1 ≤ Xi T2 904 113 ∧ Xi T2 904 113 ≤ 6411 := hHT2.c _ _
            have w148 : Xi U12 904 69 = Xi T2 904 69 := (show Xi U12 904 69 = Xi T11 904 69 from by rw [eU12]; exact Xi_ne (by omega)).trans ( (show Xi T11 904 69 = Xi T10 904 69 from w135.x _ _ rfl).trans ((show Xi T10 904 69 = Xi T2 904 69 from w123.x _ _ rfl)))
            have w149 : 0 ≤ Xi T2 904 69 ∧ Xi T2 904 69 ≤ 2600 := hHT2.c _ _
            exact ⟨hHU12, hFU12, rfl, (by omega), (by first | exact (fun _ q => syq_5 (f52 (by omega)) h52.1 h52.2.1 h52.2.2 (hFU12.x 904 19 rfl) (by omega) (by omega) (by omega) (by omega)) f52 | exact (fun _ q => tq_3 (by omega) (thk_c (H209) (hFU12.x 904 19 rfl) (by omega)) (adx_c (W209 (by omega)) (hFU12.x 904 23 rfl) (hFU12.x 904 32 rfl) (by omega))) W209 | exact (fun _ q => tq_4 (by omega) (thk_c (H277 (by omega)) (hFU12.x 904 19 rfl) (by omega))) q299 | exact (fun _ q => tq_2 (by omega) (thk_c (H328 (by omega)) (hFU12.x 904 19 rfl) (by omega)) (by have a := hFU12.x 904 32 rfl; omega) (fun _ => o386)) o386 | exact (fun _ q => tq_2 (by omega) (thk_c (H328 (by omega)) (hFU12.x 904 19 rfl) (by omega)) (by have a := hFU12.x 904 32 rfl; omega) (fun y => absurd y (by omega))) p337 | exact fun x => absurd x (by omega)), (by first | exact fun x y => ⟨Or.inr (Or.inr (by omega)), fun z => absurd z (by omega)⟩ | exact fun x y => ⟨by have t := hnf y; omega, fun z => absurd z (by omega)⟩ | exact (fun _ x0 => fun y => ⟨by omega, fun _ z => by rw [(hFU12.cx 922 rfl _).1, show Xi U12 973 (q).toNat = Xi T2 904 113 by omega]; exact (W209 (by omega)).2 (by omega) (by omega)⟩) W209 | exact fun x => absurd x (by omega)), ((KQ.w (KQ_FR w135 rfl (KQ_FR w123 rfl (by assumption : KQ T2 S _))) eU12 (by omega)))⟩
          · refine l_aload_n rfl rfl ?_
            refine l_gfi rfl rfl rfl rfl rfl ?_
            have w150 : (Xi T11 904 113) = (Xi T2 904 113) := (show Xi T11 904 113 = Xi T10 904 113 from w135.x _ _ rfl).trans ((show Xi T10 904 113 = Xi T2 904 113 from w123.x _ _ rfl))
            rw [w150]
            refine l_goto rfl rfl ?_
            refine l_iastore (n := 2400) rfl rfl (by omega) (by omega) (by unfold rg; omega) ?_
            obtain ⟨U13, eU13⟩ : ∃ T : sS, T = uI T11 973 ((q).toNat) (Int32.ofInt (Xi T2 904 113)) := ⟨_, rfl⟩
            rw [← eU13]
            have hHU13 : HI U13 := by rw [eU13]; exact HI_any hHT11 (rfl)
            have hFU13 : FR md_mo_testMeant S U13 := by rw [eU13]; exact FR.wI hFT11 (mdf_i (r := (973, 974, 0, 100000)) (List.mem_of_getElem? (i := 9) rfl) (inR_i (by omega) (by omega) (by omega) (by omega)))
            have w151 : Xi U13 973 ((q).toNat) = (Xi T2 904 113) := by rw [eU13]; exact Xi_same (by unfold rg; omega)
            refine l_goto rfl rfl ?_
            refine l_return rfl rfl ?_
            have w152 : Xi U13 969 (q).toNat = Xi T2 969 (q).toNat := (show Xi U13 969 (q).toNat = Xi T11 969 (q).toNat from by rw [eU13]; exact Xi_ne (by omega)).trans ( (show Xi T11 969 (q).toNat = Xi T10 969 (q).toNat from (w135.cx 969 rfl _).1).trans ((show Xi T10 969 (q).toNat = Xi T2 969 (q).toNat from (w123.cx 969 rfl _).1)))
            have w153 : Xi U13 971 (q).toNat = Xi T2 971 (q).toNat := (show Xi U13 971 (q).toNat = Xi T11 971 (q).toNat from by rw [eU13]; exact Xi_ne (by omega)).trans ( (show Xi T11 971 (q).toNat = Xi T10 971 (q).toNat from (w135.cx 971 rfl _).1).trans ((show Xi T10 971 (q).toNat = Xi T2 971 (q).toNat from (w123.cx 971 rfl _).1)))
            have w154 : Xi U13 972 (q).toNat = Xi T2 972 (q).toNat := (show Xi U13 972 (q).toNat = Xi T11 972 (q).toNat from by rw [eU13]; exact Xi_ne (by omega)).trans ( (show Xi T11 972 (q).toNat = Xi T10 972 (q).toNat from (w135.cx 972 rfl _).1).trans ((show Xi T10 972 (q).toNat = Xi T2 972 (q).toNat from (w123.cx 972 rfl _).1)))
            have w155 : Xi U13 974 (q).toNat = Xi T2 974 (q).toNat := (show Xi U13 974 (q).toNat = Xi T11 974 (q).toNat from by rw [eU13]; exact Xi_ne (by omega)).trans ( (show Xi T11 974 (q).toNat = Xi T10 974 (q).toNat from (w135.cx 974 rfl _).1).trans ((show Xi T10 974 (q).toNat = Xi T2 974 (q).toNat from (w123.cx 974 rfl _).1)))
            have w156 : Xi U13 975 (q).toNat = Xi T2 975 (q).toNat := (show Xi U13 975 (q).toNat = Xi T11 975 (q).toNat from by rw [eU13]; exact Xi_ne (by omega)).trans ( (show Xi T11 975 (q).toNat = Xi T10 975 (q).toNat from (w135.cx 975 rfl _).1).trans ((show Xi T10 975 (q).toNat = Xi T2 975 (q).toNat from (w123.cx 975 rfl _).1)))
            have w157 : Xi U13 904 106 = Xi T11 904 106 := (show Xi U13 904 106 = Xi T11 904 106 from by rw [eU13]; exact Xi_ne (by omega))
            have w158 : 0 ≤ Xi T11 904 106 ∧ Xi T11 904 106 ≤ 9 := hHT11.c _ _
            have w159 : Xi U13 904 113 = Xi T2 904 113 := (show Xi U13 904 113 = Xi T11 904 113 from by rw [eU13]; exact Xi_ne (by omega)).trans ( (show Xi T11 904 113 = Xi T10 904 113 from w135.x _ _ rfl).trans ((show Xi T10 904 113 = Xi T2 904 113 from w123.x _ _ rfl)))
            have w160 : -1 ≤ Xi T2 904 113 ∧ Xi T2 904 113 ≤ 6411 := hHT2.c _ _
            have w161 : Xi U13 904 69 = Xi T2 904 69 := (show Xi U13 904 69 = Xi T11 904 69 from by rw [eU13]; exact Xi_ne (by omega)).trans ( (show Xi T11 904 69 = Xi T10 904 69 from w135.x _ _ rfl).trans ((show Xi T10 904 69 = Xi T2 904 69 from w123.x _ _ rfl)))
            have w162 : 0 ≤ Xi T2 904 69 ∧ Xi T2 904 69 ≤ 2600 := hHT2.c _ _
            exact ⟨hHU13, hFU13, rfl, (by omega), (by first | exact (fun _ q => syq_5 (f52 (by omega)) h52.1 h52.2.1 h52.2.2 (hFU13.x 904 19 rfl) (by omega) (by omega) (by omega) (by omega)) f52 | exact (fun _ q => tq_3 (by omega) (thk_c (H209) (hFU13.x 904 19 rfl) (by omega)) (adx_c (W209 (by omega)) (hFU13.x 904 23 rfl) (hFU13.x 904 32 rfl) (by omega))) W209 | exact (fun _ q => tq_4 (by omega) (thk_c (H277 (by omega)) (hFU13.x 904 19 rfl) (by omega))) q299 | exact (fun _ q => tq_2 (by omega) (thk_c (H328 (by omega)) (hFU13.x 904 19 rfl) (by omega)) (by have a := hFU13.x 904 32 rfl; omega) (fun _ => o386)) o386 | exact (fun _ q => tq_2 (by omega) (thk_c (H328 (by omega)) (hFU13.x 904 19 rfl) (by omega)) (by have a := hFU13.x 904 32 rfl; omega) (fun y => absurd y (by omega))) p337 | exact fun x => absurd x (by omega)), (by first | exact fun x y => ⟨Or.inr (Or.inr (by omega)), fun z => absurd z (by omega)⟩ | exact fun x y => ⟨by have t := hnf y; omega, fun z => absurd z (by omega)⟩ | exact (fun _ x0 => fun y => ⟨by omega, fun _ z => by rw [(hFU13.cx 922 rfl _).1, show Xi U13 973 (q).toNat = Xi T2 904 113 by omega]; exact (W209 (by omega)).2 (by omega) (by omega)⟩) W209 | exact fun x => absurd x (by omega)), ((KQ.w (KQ_FR w135 rfl (KQ_FR w123 rfl (by assumption : KQ T2 S _))) eU13 (by omega)))⟩
        · refine l_iconst rfl ?_
          refine l_goto rfl rfl ?_
          refine l_bipush rfl rfl ?_
          refine l_aload_n rfl rfl ?_
          refine l_gfr rfl rfl rfl rfl rfl (hHT10.r 904 67 950 rfl) ?_
          refine l_iload rfl rfl ?_
          refine l_iaload (n := 2600) rfl rfl (by omega) (by omega) (by unfold rg; omega) ?_
          have w163 : (Xi T10 950 ((v5).toNat)) = (Xi T2 950 ((v5).toNat)) := (show Xi T10 950 ((v5).toNat) = Xi T2 950 ((v5).toNat) from w123.x _ _ rfl)
          rw [w163]
          have e251 : (Xi T2 950 ((v5).toNat)) = Xi S 950 (v5).toNat := by first | rfl | exact (hFT10.cx 950 rfl _).1 | exact (hFT2.cx 950 rfl _).1 | exact (hFT2.cx 950 rfl _).1
          have w164 : 0 ≤ Xi T10 904 106 ∧ Xi T10 904 106 ≤ 9 := hHT10.c _ _
          have w165 : Xi T10 904 113 = Xi T2 904 113 := (show Xi T10 904 113 = Xi T2 904 113 from w123.x _ _ rfl)
          have w166 : -1 ≤ Xi T2 904 113 ∧ Xi T2 904 113 ≤ 6411 := hHT2.c _ _
          have w167 : Xi T10 904 69 = Xi T2 904 69 := (show Xi T10 904 69 = Xi T2 904 69 from w123.x _ _ rfl)
          have w168 : 0 ≤ Xi T2 904 69 ∧ Xi T2 904 69 ≤ 2600 := hHT2.c _ _
          refine l_callV rfl rfl rfl (t_mo_need hHT10 1 7 (Xi T2 950 ((v5).toNat)) ⟨by omega, by omega⟩ ⟨by omega, by omega⟩ ⟨by omega, by omega⟩ _) ?_
          rintro _ T14 ⟨hHT14, w172, rfl, w169, w170⟩
          have hFT14 : FR md_mo_testMeant S T14 := FR.tr hFT10 w172 rfl
          show Rl _ _ _ _ _ [] _ _
          refine l_aload_n rfl rfl ?_
          refine l_gfr rfl rfl rfl rfl rfl (hHT14.r 904 122 973 rfl) ?_
          refine l_iload_n rfl rfl ?_
          refine l_iload rfl rfl ?_
          refine l_if_le rfl rfl (by unfold rg; omega) (fun w173 => ?_) (fun w174 => ?_)
          · refine l_iconst rfl ?_
            refine l_iastore (n := 2400) rfl rfl (by omega) (by omega) (by unfold rg; omega) ?_
            obtain ⟨U15, eU15⟩ : ∃ T : sS, T = uI T14 973 ((q).toNat) (Int32.ofInt 0) := ⟨_, rfl⟩
            rw [← eU15]
            have hHU15 : HI U15 := by rw [eU15]; exact HI_any hHT14 (rfl)
            have hFU15 : FR md_mo_testMeant S U15 := by rw [eU15]; exact FR.wI hFT14 (mdf_i (r := (973, 974, 0, 100000)) (List.mem_of_getElem? (i := 9) rfl) (inR_i (by omega) (by omega) (by omega) (by omega)))
            have w175 : Xi U15 973 ((q).toNat) = 0 := by rw [eU15]; exact Xi_same (by unfold rg; omega)
            refine l_goto rfl rfl ?_
            refine l_return rfl rfl ?_
            have w176 : Xi U15 969 (q).toNat = Xi T2 969 (q).toNat := (show Xi U15 969 (q).toNat = Xi T14 969 (q).toNat from by rw [eU15]; exact Xi_ne (by omega)).trans ( (show Xi T14 969 (q).toNat = Xi T10 969 (q).toNat from (w172.cx 969 rfl _).1).trans ((show Xi T10 969 (q).toNat = Xi T2 969 (q).toNat from (w123.cx 969 rfl _).1)))
            have w177 : Xi U15 971 (q).toNat = Xi T2 971 (q).toNat := (show Xi U15 971 (q).toNat = Xi T14 971 (q).toNat from by rw [eU15]; exact Xi_ne (by omega)).trans ( (show Xi T14 971 (q).toNat = Xi T10 971 (q).toNat from (w172.cx 971 rfl _).1).trans ((show Xi T10 971 (q).toNat = Xi T2 971 (q).toNat from (w123.cx 971 rfl _).1)))
            have w178 : Xi U15 972 (q).toNat = Xi T2 972 (q).toNat := (show Xi U15 972 (q).toNat = Xi T14 972 (q).toNat from by rw [eU15]; exact Xi_ne (by omega)).trans ( (show Xi T14 972 (q).toNat = Xi T10 972 (q).toNat from (w172.cx 972 rfl _).1).trans ((show Xi T10 972 (q).toNat = Xi T2 972 (q).toNat from (w123.cx 972 rfl _).1)))
            have w179 : Xi U15 974 (q).toNat = Xi T2 974 (q).toNat := (show Xi U15 974 (q).toNat = Xi T14 974 (q).toNat from by rw [eU15]; exact Xi_ne (by omega)).trans ( (show Xi T14 974 (q).toNat = Xi T10 974 (q).toNat from (w172.cx 974 rfl _).1).trans ((show Xi T10 974 (q).toNat = Xi T2 974 (q).toNat from (w123.cx 974 rfl _).1)))
            have w180 : Xi U15 975 (q).toNat = Xi T2 975 (q).toNat := (show Xi U15 975 (q).toNat = Xi T14 975 (q).toNat from by rw [eU15]; exact Xi_ne (by omega)).trans ( (show Xi T14 975 (q).toNat = Xi T10 975 (q).toNat from (w172.cx 975 rfl _).1).trans ((show Xi T10 975 (q).toNat = Xi T2 975 (q).toNat from (w123.cx 975 rfl _).1)))
            have w181 : Xi U15 904 106 = Xi T14 904 106 := (show Xi U15 904 106 = Xi T14 904 106 from by rw [eU15]; exact Xi_ne (by omega))
            have w182 : 0 ≤ Xi T14 904 106 ∧ Xi T14 904 106 ≤ 9 := hHT14.c _ _
            have w183 : Xi U15 904 113 = Xi T2 904 113 := (show Xi U15 904 113 = Xi T14 904 113 from by rw [eU15]; exact Xi_ne (by omega)).trans ( (show Xi T14 904 113 = Xi T10 904 113 from w172.x _ _ rfl).trans ((show Xi T10 904 113 = Xi T2 904 113 from w123.x _ _ rfl)))
            have w184 : -1 ≤ Xi T2 904 113 ∧ Xi T2 904 113 ≤ 6411 := hHT2.c _ _
            have w185 : Xi U15 904 69 = Xi T2 904 69 := (show Xi U15 904 69 = Xi T14 904 69 from by rw [eU15]; exact Xi_ne (by omega)).trans ( (show Xi T14 904 69 = Xi T10 904 69 from w172.x _ _ rfl).trans ((show Xi T10 904 69 = Xi T2 904 69 from w123.x _ _ rfl)))
            have w186 : 0 ≤ Xi T2 904 69 ∧ Xi T2 904 69 ≤ 2600 := hHT2.c _ _
            exact ⟨hHU15, hFU15, rfl, (by omega), (by first | exact (fun _ q => syq_5 (f52 (by omega)) h52.1 h52.2.1 h52.2.2 (hFU15.x 904 19 rfl) (by omega) (by omega) (by omega) (by omega)) f52 | exact (fun _ q => tq_3 (by omega) (thk_c (H209) (hFU15.x 904 19 rfl) (by omega)) (adx_c (W209 (by omega)) (hFU15.x 904 23 rfl) (hFU15.x 904 32 rfl) (by omega))) W209 | exact (fun _ q => tq_4 (by omega) (thk_c (H277 (by omega)) (hFU15.x 904 19 rfl) (by omega))) q299 | exact (fun _ q => tq_2 (by omega) (thk_c (H328 (by omega)) (hFU15.x 904 19 rfl) (by omega)) (by have a := hFU15.x 904 32 rfl; omega) (fun _ => o386)) o386 | exact (fun _ q => tq_2 (by omega) (thk_c (H328 (by omega)) (hFU15.x 904 19 rfl) (by omega)) (by have a := hFU15.x 904 32 rfl; omega) (fun y => absurd y (by omega))) p337 | exact fun x => absurd x (by omega)), (by first | exact fun x y => ⟨Or.inr (Or.inr (by omega)), fun z => absurd z (by omega)⟩ | exact fun x y => ⟨by have t := hnf y; omega, fun z => absurd z (by omega)⟩ | exact (fun _ x0 => fun y => ⟨by omega, fun _ z => by rw [(hFU15.cx 922 rfl _).1, show Xi U15 973 (q).toNat = Xi T2 904 113 by omega]; exact (W209 (by omega)).2 (by omega) (by omega)⟩) W209 | exact fun x => absurd x (by omega)), ((KQ.w (KQ_FR w172 rfl (KQ_FR w123 rfl (by assumption : KQ T2 S _))) eU15 (by omega)))⟩
          · refine l_aload_n rfl rfl ?_
            refine l_gfi rfl rfl rfl rfl rfl ?_
            have w187 : (Xi T14 904 113) = (Xi T2 904 113) := (show Xi T14 904 113 = Xi T10 904 113 from w172.x _ _ rfl).trans ((show Xi T10 904 113 = Xi T2 904 113 from w123.x _ _ rfl))
            rw [w187]
            refine l_goto rfl rfl ?_
            refine l_iastore (n := 2400) rfl rfl (by omega) (by omega) (by unfold rg; omega) ?_
            obtain ⟨U16, eU16⟩ : ∃ T : sS, T = uI T14 973 ((q).toNat) (Int32.ofInt (Xi T2 904 113)) := ⟨_, rfl⟩
            rw [← eU16]
            have hHU16 : HI U16 := by rw [eU16]; exact HI_any hHT14 (rfl)
            have hFU16 : FR md_mo_testMeant S U16 := by rw [eU16]; exact FR.wI hFT14 (mdf_i (r := (973, 974, 0, 100000)) (List.mem_of_getElem? (i := 9) rfl) (inR_i (by omega) (by omega) (by omega) (by omega)))
            have w188 : Xi U16 973 ((q).toNat) = (Xi T2 904 113) := by rw [eU16]; exact Xi_same (by unfold rg; omega)
            refine l_goto rfl rfl ?_
            refine l_return rfl rfl ?_
            have w189 : Xi U16 969 (q).toNat = Xi T2 969 (q).toNat := (show Xi U16 969 (q).toNat = Xi T14 969 (q).toNat from by rw [eU16]; exact Xi_ne (by omega)).trans ( (show Xi T14 969 (q).toNat = Xi T10 969 (q).toNat from (w172.cx 969 rfl _).1).trans ((show Xi T10 969 (q).toNat = Xi T2 969 (q).toNat from (w123.cx 969 rfl _).1)))
            have w190 : Xi U16 971 (q).toNat = Xi T2 971 (q).toNat := (show Xi U16 971 (q).toNat = Xi T14 971 (q).toNat from by rw [eU16]; exact Xi_ne (by omega)).trans ( (show Xi T14 971 (q).toNat = Xi T10 971 (q).toNat from (w172.cx 971 rfl _).1).trans ((show Xi T10 971 (q).toNat = Xi T2 971 (q).toNat from (w123.cx 971 rfl _).1)))
            have w191 : Xi U16 972 (q).toNat = Xi T2 972 (q).toNat := (show Xi U16 972 (q).toNat = Xi T14 972 (q).toNat from by rw [eU16]; exact Xi_ne (by omega)).trans ( (show Xi T14 972 (q).toNat = Xi T10 972 (q).toNat from (w172.cx 972 rfl _).1).trans ((show Xi T10 972 (q).toNat = Xi T2 972 (q).toNat from (w123.cx 972 rfl _).1)))
            have w192 : Xi U16 974 (q).toNat = Xi T2 974 (q).toNat := (show Xi U16 974 (q).toNat = Xi T14 974 (q).toNat from by rw [eU16]; exact Xi_ne (by omega)).trans ( (show Xi T14 974 (q).toNat = Xi T10 974 (q).toNat from (w172.cx 974 rfl _).1).trans ((show Xi T10 974 (q).toNat = Xi T2 974 (q).toNat from (w123.cx 974 rfl _).1)))
            have w193 : Xi U16 975 (q).toNat = Xi T2 975 (q).toNat := (show Xi U16 975 (q).toNat = Xi T14 975 (q).toNat from by rw [eU16]; exact Xi_ne (by omega)).trans ( (show Xi T14 975 (q).toNat = Xi T10 975 (q).toNat from (w172.cx 975 rfl _).1).trans ((show Xi T10 975 (q).toNat = Xi T2 975 (q).toNat from (w123.cx 975 rfl _).1)))
            have w194 : Xi U16 904 106 = Xi T14 904 106 := (show Xi U16 904 106 = Xi T14 904 106 from by rw [eU16]; exact Xi_ne (by omega))
            have w195 : 0 ≤ Xi T14 904 106 ∧ Xi T14 904 106 ≤ 9 := hHT14.c _ _
            have w196 : Xi U16 904 113 = Xi T2 904 113 := (show Xi U16 904 113 = Xi T14 904 113 from by rw [eU16]; exact Xi_ne (by omega)).trans ( (show Xi T14 904 113 = Xi T10 904 113 from w172.x _ _ rfl).trans ((show Xi T10 904 113 = Xi T2 904 113 from w123.x _ _ rfl)))
            have w197 : -1 ≤ Xi T2 904 113 ∧ Xi T2 904 113 ≤ 6411 := hHT2.c _ _
            have w198 : Xi U16 904 69 = Xi T2 904 69 := (show Xi U16 904 69 = Xi T14 904 69 from by rw [eU16]; exact Xi_ne (by omega)).trans ( (show Xi T14 904 69 = Xi T10 904 69 from w172.x _ _ rfl).trans ((show Xi T10 904 69 = Xi T2 904 69 from w123.x _ _ rfl)))
            have w199 : 0 ≤ Xi T2 904 69 ∧ Xi T2 904 69 ≤ 2600 := hHT2.c _ _
            exact ⟨hHU16, hFU16, rfl, (by omega), (by first | exact (fun _ q => syq_5 (f52 (by omega)) h52.1 h52.2.1 h52.2.2 (hFU16.x 904 19 rfl) (by omega) (by omega) (by omega) (by omega)) f52 | exact (fun _ q => tq_3 (by omega) (thk_c (H209) (hFU16.x 904 19 rfl) (by omega)) (adx_c (W209 (by omega)) (hFU16.x 904 23 rfl) (hFU16.x 904 32 rfl) (by omega))) W209 | exact (fun _ q => tq_4 (by omega) (thk_c (H277 (by omega)) (hFU16.x 904 19 rfl) (by omega))) q299 | exact (fun _ q => tq_2 (by omega) (thk_c (H328 (by omega)) (hFU16.x 904 19 rfl) (by omega)) (by have a := hFU16.x 904 32 rfl; omega) (fun _ => o386)) o386 | exact (fun _ q => tq_2 (by omega) (thk_c (H328 (by omega)) (hFU16.x 904 19 rfl) (by omega)) (by have a := hFU16.x 904 32 rfl; omega) (fun y => absurd y (by omega))) p337 | exact fun x => absurd x (by omega)), (by first | exact fun x y => ⟨Or.inr (Or.inr (by omega)), fun z => absurd z (by omega)⟩ | exact fun x y => ⟨by have t := hnf y; omega, fun z => absurd z (by omega)⟩ | exact (fun _ x0 => fun y => ⟨by omega, fun _ z => by rw [(hFU16.cx 922 rfl _).1, show Xi U16 973 (q).toNat = Xi T2 904 113 by omega]; exact (W209 (by omega)).2 (by omega) (by omega)⟩) W209 | exact fun x => absurd x (by omega)), ((KQ.w (KQ_FR w172 rfl (KQ_FR w123 rfl (by assumption : KQ T2 S _))) eU16 (by omega)))⟩
    have C277 : ∀  (T17 : sS) (_ : HI T17) (_ : FR md_mo_testMeant S T17) (v4 : Int), (-9 ≤ v4 ∧ v4 ≤ 23) → (Xi T17 969 (q).toNat = Xi S 952 i.toNat) → (Xi S 904 106 ≠ 0 → Xi T17 904 106 ≠ 0) → (Xi T17 904 69 = Xi S 904 69) → (KQ T17 S q) → (Xi T17 971 (q).toNat = v4) → (v4 = -9 → Xi T17 904 106 ≠ 0) → (v4 ≠ -9 → -2 ≤ v4) → (v4 ≠ -9 → thK S (0 ≤ Xi S 904 115) (0 ≤ Xi S 904 116) v4) → (Xi S 952 i.toNat ≠ 5) → (Xi S 952 i.toNat ≠ 3) → Rl lay0 (d + 6) m_mo_testMeant 277 [(0, .ref 904), (1, iv i), (2, iv q), (4, iv v4)] [] T17 (Q_mo_testMeant S n i q isNow) := by
      intro T17 hHT17 hFT17 v4 w200 w201 w202 w203 K277 w204 w205 w206 H277 w207 w208
      have w209 : Xi T17 904 115 = Xi S 904 115 := hFT17.x _ _ rfl
      have w210 : Xi T17 904 116 = Xi S 904 116 := hFT17.x _ _ rfl
      have w211 : Xi T17 904 19 = Xi S 904 19 := hFT17.x _ _ rfl
      have w212 : Xi T17 904 32 = Xi S 904 32 := hFT17.x _ _ rfl
      have w213 : Xi T17 904 69 = Xi S 904 69 := hFT17.x _ _ rfl
      have w214 : 0 ≤ Xi T17 904 106 ∧ Xi T17 904 106 ≤ 9 := hHT17.c _ _
      have w215 : 0 ≤ Xi T17 904 69 ∧ Xi T17 904 69 ≤ 2600 := hHT17.c _ _
      have C328 : ∀  (v4 : Int), (-9 ≤ v4 ∧ v4 ≤ 23) → (Xi T17 969 (q).toNat = Xi S 952 i.toNat) → (Xi S 904 106 ≠ 0 → Xi T17 904 106 ≠ 0) → (Xi T17 904 69 = Xi S 904 69) → (KQ T17 S q) → (Xi T17 971 (q).toNat = v4) → (v4 = -9 → Xi T17 904 106 ≠ 0) → (v4 ≠ -9 → -2 ≤ v4) → (v4 ≠ -9 → thK S (0 ≤ Xi S 904 115) (0 ≤ Xi S 904 116) v4) → (Xi S 952 i.toNat ≤ 2) → Rl lay0 (d + 6) m_mo_testMeant 328 [(0, .ref 904), (1, iv i), (2, iv q), (4, iv v4)] [] T17 (Q_mo_testMeant S n i q isNow) := by
        intro v4 w216 w217 w218 w219 K328 w220 w221 w222 H328 w223
        refine l_aload_n rfl rfl ?_
        refine l_aload_n rfl rfl ?_
        refine l_gfr rfl rfl rfl rfl rfl (hHT17.r 904 86 956 rfl) ?_
        refine l_iload_n rfl rfl ?_
        refine l_iaload (n := 1700) rfl rfl (by omega) (by omega) (by unfold rg; omega) ?_
        have w224 : 0 ≤ (Xi T17 956 ((i).toNat)) ∧ (Xi T17 956 ((i).toNat)) ≤ 2600 := hHT17.c _ _
        have e334 : (Xi T17 956 ((i).toNat)) = Xi S 956 (i).toNat := by first | rfl | exact (hFT17.cx 956 rfl _).1 | exact (hFT17.cx 956 rfl _).1 | exact (hFT17.cx 956 rfl _).1
        have t334 := htv.2.2.1 (by omega)
        refine l_iload rfl rfl ?_
        have w225 : 0 ≤ Xi T17 904 106 ∧ Xi T17 904 106 ≤ 9 := hHT17.c _ _
        have w226 : -1 ≤ Xi T17 904 113 ∧ Xi T17 904 113 ≤ 6411 := hHT17.c _ _
        have w227 : 0 ≤ Xi T17 904 32 ∧ Xi T17 904 32 ≤ 12 := hHT17.c _ _
        have w228 : 0 ≤ Xi T17 904 69 ∧ Xi T17 904 69 ≤ 2600 := hHT17.c _ _
        refine l_callV rfl rfl rfl (t_mo_propertyMeant__2 hHT17 n (Xi T17 956 ((i).toNat)) v4 ⟨by omega, by omega⟩ ⟨by omega, by omega⟩ (by first | assumption | exact (TK_FR hFT17 rfl (by assumption : TK S _))) (by first | assumption | exact (RNV_FR hFT17 rfl (by assumption : RNV S _))) (by first | assumption | omega) (by first | assumption | exact (LXM_FR hFT17 rfl (by assumption : LXM S))) (by first | assumption | exact (ABV_FR hFT17 rfl (by assumption : ABV S))) (by first | assumption | omega) _) ?_
        rintro _ T18 ⟨hHT18, w234, z233, rfl, w233, p337, w229, w230, w231, w232⟩
        have hFT18 : FR md_mo_testMeant S T18 := FR.tr hFT17 w234 rfl
        show Rl _ _ _ _ _ [iv z233] _ _
        refine l_istore rfl rfl rfl ?_
        refine l_aload_n rfl rfl ?_
        refine l_gfr rfl rfl rfl rfl rfl (hHT18.r 904 121 972 rfl) ?_
        refine l_iload_n rfl rfl ?_
        refine l_iload rfl rfl ?_
        refine l_iastore (n := 2400) rfl rfl (by omega) (by omega) (by unfold rg; omega) ?_
        obtain ⟨U19, eU19⟩ : ∃ T : sS, T = uI T18 972 ((q).toNat) (Int32.ofInt z233) := ⟨_, rfl⟩
        rw [← eU19]
        have hHU19 : HI U19 := by rw [eU19]; exact HI_w hHT18 (show -1 ≤ z233 by omega) (show z233 ≤ 11 by omega)
        have hFU19 : FR md_mo_testMeant S U19 := by rw [eU19]; exact FR.wI hFT18 (mdf_i (r := (972, 973, 0, 100000)) (List.mem_of_getElem? (i := 8) rfl) (inR_i (by omega) (by omega) (by omega) (by omega)))
        have w235 : Xi U19 972 ((q).toNat) = z233 := by rw [eU19]; exact Xi_same (by unfold rg; omega)
        refine l_iload rfl rfl ?_
        refine l_iconst rfl ?_
        refine l_icmp_eq rfl rfl (by unfold rg; omega) (by unfold rg; omega) (fun w236 => ?_) (fun w237 => ?_)
        · refine l_aload_n rfl rfl ?_
          refine l_gfr rfl rfl rfl rfl rfl (hHU19.r 904 82 952 rfl) ?_
          refine l_iload_n rfl rfl ?_
          refine l_iaload (n := 1700) rfl rfl (by omega) (by omega) (by unfold rg; omega) ?_
          have w238 : 0 ≤ (Xi U19 952 ((i).toNat)) ∧ (Xi U19 952 ((i).toNat)) ≤ 5 := hHU19.c _ _
          have e397 : (Xi U19 952 ((i).toNat)) = Xi S 952 (i).toNat := by first | rfl | exact (hFU19.cx 952 rfl _).1 | exact (hFT18.cx 952 rfl _).1 | exact (hFT17.cx 952 rfl _).1
          refine l_if_eq rfl rfl (by unfold rg; omega) (fun w239 => ?_) (fun w240 => ?_)
          · refine l_return rfl rfl ?_
            have w241 : Xi U19 969 (q).toNat = Xi T17 969 (q).toNat := (show Xi U19 969 (q).toNat = Xi T18 969 (q).toNat from by rw [eU19]; exact Xi_ne (by omega)).trans ((show Xi T18 969 (q).toNat = Xi T17 969 (q).toNat from (w234.cx 969 rfl _).1))
            have w242 : Xi U19 971 (q).toNat = Xi T17 971 (q).toNat := (show Xi U19 971 (q).toNat = Xi T18 971 (q).toNat from by rw [eU19]; exact Xi_ne (by omega)).trans ((show Xi T18 971 (q).toNat = Xi T17 971 (q).toNat from (w234.cx 971 rfl _).1))
            have w243 : Xi U19 973 (q).toNat = Xi T17 973 (q).toNat := (show Xi U19 973 (q).toNat = Xi T18 973 (q).toNat from by rw [eU19]; exact Xi_ne (by omega)).trans ((show Xi T18 973 (q).toNat = Xi T17 973 (q).toNat from (w234.cx 973 rfl _).1))
            have w244 : Xi U19 974 (q).toNat = Xi T17 974 (q).toNat := (show Xi U19 974 (q).toNat = Xi T18 974 (q).toNat from by rw [eU19]; exact Xi_ne (by omega)).trans ((show Xi T18 974 (q).toNat = Xi T17 974 (q).toNat from (w234.cx 974 rfl _).1))
            have w245 : Xi U19 975 (q).toNat = Xi T17 975 (q).toNat := (show Xi U19 975 (q).toNat = Xi T18 975 (q).toNat from by rw [eU19]; exact Xi_ne (by omega)).trans ((show Xi T18 975 (q).toNat = Xi T17 975 (q).toNat from (w234.cx 975 rfl _).1))
            have w246 : Xi U19 904 106 = Xi T18 904 106 := (show Xi U19 904 106 = Xi T18 904 106 from by rw [eU19]; exact Xi_ne (by omega))
            have w247 : 0 ≤ Xi T18 904 106 ∧ Xi T18 904 106 ≤ 9 := hHT18.c _ _
            have w248 : Xi U19 904 113 = Xi T17 904 113 := (show Xi U19 904 113 = Xi T18 904 113 from by rw [eU19]; exact Xi_ne (by omega)).trans ((show Xi T18 904 113 = Xi T17 904 113 from w234.x _ _ rfl))
            have w249 : -1 ≤ Xi T17 904 113 ∧ Xi T17 904 113 ≤ 6411 := hHT17.c _ _
            have w250 : Xi U19 904 69 = Xi T17 904 69 := (show Xi U19 904 69 = Xi T18 904 69 from by rw [eU19]; exact Xi_ne (by omega)).trans ((show Xi T18 904 69 = Xi T17 904 69 from w234.x _ _ rfl))
            have w251 : 0 ≤ Xi T17 904 69 ∧ Xi T17 904 69 ≤ 2600 := hHT17.c _ _
            exact ⟨hHU19, hFU19, rfl, (by omega), (by first | exact (fun _ q => syq_5 (f52 (by omega)) h52.1 h52.2.1 h52.2.2 (hFU19.x 904 19 rfl) (by omega) (by omega) (by omega) (by omega)) f52 | exact (fun _ q => tq_3 (by omega) (thk_c (H209) (hFU19.x 904 19 rfl) (by omega)) (adx_c (W209 (by omega)) (hFU19.x 904 23 rfl) (hFU19.x 904 32 rfl) (by omega))) W209 | exact (fun _ q => tq_4 (by omega) (thk_c (H277 (by omega)) (hFU19.x 904 19 rfl) (by omega))) q299 | exact (fun _ q => tq_2 (by omega) (thk_c (H328 (by omega)) (hFU19.x 904 19 rfl) (by omega)) (by have a := hFU19.x 904 32 rfl; omega) (fun _ => o386)) o386 | exact (fun _ q => tq_2 (by omega) (thk_c (H328 (by omega)) (hFU19.x 904 19 rfl) (by omega)) (by have a := hFU19.x 904 32 rfl; omega) (fun y => absurd y (by omega))) p337 | exact fun x => absurd x (by omega)), (by first | exact fun x y => ⟨Or.inr (Or.inr (by omega)), fun z => absurd z (by omega)⟩ | exact fun x y => ⟨by have t := hnf y; omega, fun z => absurd z (by omega)⟩ | exact (fun _ x0 => fun y => ⟨by omega, fun _ z => by rw [(hFU19.cx 922 rfl _).1, show Xi U19 973 (q).toNat = Xi T17 904 113 by omega]; exact (W209 (by omega)).2 (by omega) (by omega)⟩) W209 | exact fun x => absurd x (by omega)), ((KQ.w (KQ_FR w234 rfl (by assumption : KQ T17 S _)) eU19 (by omega)))⟩
          · refine l_aload_n rfl rfl ?_
            refine l_aload_n rfl rfl ?_
            refine l_gfr rfl rfl rfl rfl rfl (hHU19.r 904 86 956 rfl) ?_
            refine l_iload_n rfl rfl ?_
            refine l_iaload (n := 1700) rfl rfl (by omega) (by omega) (by unfold rg; omega) ?_
            have w252 : (Xi U19 956 ((i).toNat)) = (Xi T17 956 ((i).toNat)) := (show Xi U19 956 ((i).toNat) = Xi T18 956 ((i).toNat) from by rw [eU19]; exact Xi_ne (by omega)).trans ((show Xi T18 956 ((i).toNat) = Xi T17 956 ((i).toNat) from w234.x _ _ rfl))
            rw [w252]
            have e407 : (Xi T17 956 ((i).toNat)) = Xi S 956 (i).toNat := by first | rfl | exact (hFU19.cx 956 rfl _).1 | exact (hFT18.cx 956 rfl _).1 | exact (hFT17.cx 956 rfl _).1
            have t407 := htv.2.2.1 (by omega)
            have w253 : Xi U19 904 106 = Xi T18 904 106 := (show Xi U19 904 106 = Xi T18 904 106 from by rw [eU19]; exact Xi_ne (by omega))
            have w254 : 0 ≤ Xi T18 904 106 ∧ Xi T18 904 106 ≤ 9 := hHT18.c _ _
            have w255 : Xi U19 904 113 = Xi T17 904 113 := (show Xi U19 904 113 = Xi T18 904 113 from by rw [eU19]; exact Xi_ne (by omega)).trans ((show Xi T18 904 113 = Xi T17 904 113 from w234.x _ _ rfl))
            have w256 : -1 ≤ Xi T17 904 113 ∧ Xi T17 904 113 ≤ 6411 := hHT17.c _ _
            have w257 : Xi U19 904 69 = Xi T17 904 69 := (show Xi U19 904 69 = Xi T18 904 69 from by rw [eU19]; exact Xi_ne (by omega)).trans ((show Xi T18 904 69 = Xi T17 904 69 from w234.x _ _ rfl))
            have w258 : 0 ≤ Xi T17 904 69 ∧ Xi T17 904 69 ≤ 2600 := hHT17.c _ _
            refine l_callV rfl rfl rfl (t_mo_numberMeant__2 hHU19 n (Xi T17 956 ((i).toNat)) ⟨by omega, by omega⟩ (by first | assumption | exact (TK_FR hFU19 rfl (by assumption : TK S _))) (by first | assumption | exact (RNV_FR hFU19 rfl (by assumption : RNV S _))) (by first | assumption | omega) (by first | assumption | exact (LXM_FR hFU19 rfl (by assumption : LXM S))) _) ?_
            rintro _ T20 ⟨hHT20, w262, rfl, w259, w260⟩
            have hFT20 : FR md_mo_testMeant S T20 := FR.tr hFU19 w262 rfl
            show Rl _ _ _ _ _ [] _ _
            refine l_aload_n rfl rfl ?_
            refine l_gfr rfl rfl rfl rfl rfl (hHT20.r 904 122 973 rfl) ?_
            refine l_iload_n rfl rfl ?_
            refine l_aload_n rfl rfl ?_
            refine l_gfr rfl rfl rfl rfl rfl (hHT20.r 904 7 910 rfl) ?_
            refine l_aload_n rfl rfl ?_
            refine l_gfr rfl rfl rfl rfl rfl (hHT20.r 904 87 957 rfl) ?_
            refine l_iload_n rfl rfl ?_
            refine l_iaload (n := 1700) rfl rfl (by omega) (by omega) (by unfold rg; omega) ?_
            have w263 : 0 ≤ (Xi T20 957 ((i).toNat)) ∧ (Xi T20 957 ((i).toNat)) ≤ 5010 := hHT20.c _ _
            have e425 : (Xi T20 957 ((i).toNat)) = Xi S 957 (i).toNat := by first | rfl | exact (hFT20.cx 957 rfl _).1 | exact (hFU19.cx 957 rfl _).1 | exact (hFT17.cx 957 rfl _).1
            have t425 := htv.2.2.2.2.1 (by omega)
            refine l_laload (n := 5002) rfl rfl (by omega) (by omega) (by unfold rg; omega) ?_
            have w264 : -9223372036854775808 ≤ (Xj T20 910 (((Xi T20 957 ((i).toNat))).toNat)) ∧ (Xj T20 910 (((Xi T20 957 ((i).toNat))).toNat)) < 9223372036854775808 := Xj_rg
            refine l_l2iA rfl (fun c265 w265 => ?_)
            refine l_iastore (n := 2400) rfl rfl (by omega) (by omega) (by unfold rg; omega) ?_
            obtain ⟨U21, eU21⟩ : ∃ T : sS, T = uI T20 973 ((q).toNat) (Int32.ofInt c265) := ⟨_, rfl⟩
            rw [← eU21]
            have hHU21 : HI U21 := by rw [eU21]; exact HI_any hHT20 (rfl)
            have hFU21 : FR md_mo_testMeant S U21 := by rw [eU21]; exact FR.wI hFT20 (mdf_i (r := (973, 974, 0, 100000)) (List.mem_of_getElem? (i := 9) rfl) (inR_i (by omega) (by omega) (by omega) (by omega)))
            have w266 : Xi U21 973 ((q).toNat) = c265 := by rw [eU21]; exact Xi_same (by unfold rg; omega)
            refine l_return rfl rfl ?_
            have w267 : Xi U21 969 (q).toNat = Xi T17 969 (q).toNat := (show Xi U21 969 (q).toNat = Xi T20 969 (q).toNat from by rw [eU21]; exact Xi_ne (by omega)).trans ( (show Xi T20 969 (q).toNat = Xi U19 969 (q).toNat from (w262.cx 969 rfl _).1).trans ( (show Xi U19 969 (q).toNat = Xi T18 969 (q).toNat from by rw [eU19]; exact Xi_ne (by omega)).trans ((show Xi T18 969 (q).toNat = Xi T17 969 (q).toNat from (w234.cx 969 rfl _).1))))
            have w268 : Xi U21 971 (q).toNat = Xi T17 971 (q).toNat := (show Xi U21 971 (q).toNat = Xi T20 971 (q).toNat from by rw [eU21]; exact Xi_ne (by omega)).trans ( (show Xi T20 971 (q).toNat = Xi U19 971 (q).toNat from (w262.cx 971 rfl _).1).trans ( (show Xi U19 971 (q).toNat = Xi T18 971 (q).toNat from by rw [eU19]; exact Xi_ne (by omega)).trans ((show Xi T18 971 (q).toNat = Xi T17 971 (q).toNat from (w234.cx 971 rfl _).1))))
            have w269 : Xi U21 972 (q).toNat = Xi U19 972 (q).toNat := (show Xi U21 972 (q).toNat = Xi T20 972 (q).toNat from by rw [eU21]; exact Xi_ne (by omega)).trans ((show Xi T20 972 (q).toNat = Xi U19 972 (q).toNat from (w262.cx 972 rfl _).1))
            have w270 : Xi U21 974 (q).toNat = Xi T17 974 (q).toNat := (show Xi U21 974 (q).toNat = Xi T20 974 (q).toNat from by rw [eU21]; exact Xi_ne (by omega)).trans ( (show Xi T20 974 (q).toNat = Xi U19 974 (q).toNat from (w262.cx 974 rfl _).1).trans ( (show Xi U19 974 (q).toNat = Xi T18 974 (q).toNat from by rw [eU19]; exact Xi_ne (by omega)).trans ((show Xi T18 974 (q).toNat = Xi T17 974 (q).toNat from (w234.cx 974 rfl _).1))))
            have w271 : Xi U21 975 (q).toNat = Xi T17 975 (q).toNat := (show Xi U21 975 (q).toNat = Xi T20 975 (q).toNat from by rw [eU21]; exact Xi_ne (by omega)).trans ( (show Xi T20 975 (q).toNat = Xi U19 975 (q).toNat from (w262.cx 975 rfl _).1).trans ( (show Xi U19 975 (q).toNat = Xi T18 975 (q).toNat from by rw [eU19]; exact Xi_ne (by omega)).trans ((show Xi T18 975 (q).toNat = Xi T17 975 (q).toNat from (w234.cx 975 rfl _).1))))
            have w272 : Xi U21 904 106 = Xi T20 904 106 := (show Xi U21 904 106 = Xi T20 904 106 from by rw [eU21]; exact Xi_ne (by omega))
            have w273 : 0 ≤ Xi T20 904 106 ∧ Xi T20 904 106 ≤ 9 := hHT20.c _ _
            have w274 : Xi U21 904 113 = Xi T17 904 113 := (show Xi U21 904 113 = Xi T20 904 113 from by rw [eU21]; exact Xi_ne (by omega)).trans ( (show Xi T20 904 113 = Xi U19 904 113 from w262.x _ _ rfl).trans ( (show Xi U19 904 113 = Xi T18 904 113 from by rw [eU19]; exact Xi_ne (by omega)).trans ((show Xi T18 904 113 = Xi T17 904 113 from w234.x _ _ rfl))))
            have w275 : -1 ≤ Xi T17 904 113 ∧ Xi T17 904 113 ≤ 6411 := hHT17.c _ _
            have w276 : Xi U21 904 69 = Xi T17 904 69 := (show Xi U21 904 69 = Xi T20 904 69 from by rw [eU21]; exact Xi_ne (by omega)).trans ( (show Xi T20 904 69 = Xi U19 904 69 from w262.x _ _ rfl).trans ( (show Xi U19 904 69 = Xi T18 904 69 from by rw [eU19]; exact Xi_ne (by omega)).trans ((show Xi T18 904 69 = Xi T17 904 69 from w234.x _ _ rfl))))
            have w277 : 0 ≤ Xi T17 904 69 ∧ Xi T17 904 69 ≤ 2600 := hHT17.c _ _
            exact ⟨hHU21, hFU21, rfl, (by omega), (by first | exact (fun _ q => syq_5 (f52 (by omega)) h52.1 h52.2.1 h52.2.2 (hFU21.x 904 19 rfl) (by omega) (by omega) (by omega) (by omega)) f52 | exact (fun _ q => tq_3 (by omega) (thk_c (H209) (hFU21.x 904 19 rfl) (by omega)) (adx_c (W209 (by omega)) (hFU21.x 904 23 rfl) (hFU21.x 904 32 rfl) (by omega))) W209 | exact (fun _ q => tq_4 (by omega) (thk_c (H277 (by omega)) (hFU21.x 904 19 rfl) (by omega))) q299 | exact (fun _ q => tq_2 (by omega) (thk_c (H328 (by omega)) (hFU21.x 904 19 rfl) (by omega)) (by have a := hFU21.x 904 32 rfl; omega) (fun _ => o386)) o386 | exact (fun _ q => tq_2 (by omega) (thk_c (H328 (by omega)) (hFU21.x 904 19 rfl) (by omega)) (by have a := hFU21.x 904 32 rfl; omega) (fun y => absurd y (by omega))) p337 | exact fun x => absurd x (by omega)), (by first | exact fun x y => ⟨Or.inr (Or.inr (by omega)), fun z => absurd z (by omega)⟩ | exact fun x y => ⟨by have t := hnf y; omega, fun z => absurd z (by omega)⟩ | exact (fun _ x0 => fun y => ⟨by omega, fun _ z => by rw [(hFU21.cx 922 rfl _).1, show Xi U21 973 (q).toNat = Xi T17 904 113 by omega]; exact (W209 (by omega)).2 (by omega) (by omega)⟩) W209 | exact fun x => absurd x (by omega)), ((KQ.w (KQ_FR w262 rfl (KQ.w (KQ_FR w234 rfl (by assumption : KQ T17 S _)) eU19 (by omega))) eU21 (by omega)))⟩
        · refine l_aload_n rfl rfl ?_
          refine l_gfr rfl rfl rfl rfl rfl (hHU19.r 904 82 952 rfl) ?_
          refine l_iload_n rfl rfl ?_
          refine l_iaload (n := 1700) rfl rfl (by omega) (by omega) (by unfold rg; omega) ?_
          have w278 : 0 ≤ (Xi U19 952 ((i).toNat)) ∧ (Xi U19 952 ((i).toNat)) ≤ 5 := hHU19.c _ _
          have e361 : (Xi U19 952 ((i).toNat)) = Xi S 952 (i).toNat := by first | rfl | exact (hFU19.cx 952 rfl _).1 | exact (hFT18.cx 952 rfl _).1 | exact (hFT17.cx 952 rfl _).1
          refine l_if_ne rfl rfl (by unfold rg; omega) (fun w279 => ?_) (fun w280 => ?_)
          · refine l_aload_n rfl rfl ?_
            refine l_gfr rfl rfl rfl rfl rfl (hHU19.r 904 82 952 rfl) ?_
            refine l_iload_n rfl rfl ?_
            refine l_iaload (n := 1700) rfl rfl (by omega) (by omega) (by unfold rg; omega) ?_
            have e397 : (Xi U19 952 ((i).toNat)) = Xi S 952 (i).toNat := by first | rfl | exact (hFU19.cx 952 rfl _).1 | exact (hFT18.cx 952 rfl _).1 | exact (hFT17.cx 952 rfl _).1
            refine l_if_eq rfl rfl (by unfold rg; omega) (fun w281 => ?_) (fun w282 => ?_)
            · refine l_return rfl rfl ?_
              have w283 : Xi U19 969 (q).toNat = Xi T17 969 (q).toNat := (show Xi U19 969 (q).toNat = Xi T18 969 (q).toNat from by rw [eU19]; exact Xi_ne (by omega)).trans ((show Xi T18 969 (q).toNat = Xi T17 969 (q).toNat from (w234.cx 969 rfl _).1))
              have w284 : Xi U19 971 (q).toNat = Xi T17 971 (q).toNat := (show Xi U19 971 (q).toNat = Xi T18 971 (q).toNat from by rw [eU19]; exact Xi_ne (by omega)).trans ((show Xi T18 971 (q).toNat = Xi T17 971 (q).toNat from (w234.cx 971 rfl _).1))
              have w285 : Xi U19 973 (q).toNat = Xi T17 973 (q).toNat := (show Xi U19 973 (q).toNat = Xi T18 973 (q).toNat from by rw [eU19]; exact Xi_ne (by omega)).trans ((show Xi T18 973 (q).toNat = Xi T17 973 (q).toNat from (w234.cx 973 rfl _).1))
              have w286 : Xi U19 974 (q).toNat = Xi T17 974 (q).toNat := (show Xi U19 974 (q).toNat = Xi T18 974 (q).toNat from by rw [eU19]; exact Xi_ne (by omega)).trans ((show Xi T18 974 (q).toNat = Xi T17 974 (q).toNat from (w234.cx 974 rfl _).1))
              have w287 : Xi U19 975 (q).toNat = Xi T17 975 (q).toNat := (show Xi U19 975 (q).toNat = Xi T18 975 (q).toNat from by rw [eU19]; exact Xi_ne (by omega)).trans ((show Xi T18 975 (q).toNat = Xi T17 975 (q).toNat from (w234.cx 975 rfl _).1))
              have w288 : Xi U19 904 106 = Xi T18 904 106 := (show Xi U19 904 106 = Xi T18 904 106 from by rw [eU19]; exact Xi_ne (by omega))
              have w289 : 0 ≤ Xi T18 904 106 ∧ Xi T18 904 106 ≤ 9 := hHT18.c _ _
              have w290 : Xi U19 904 113 = Xi T17 904 113 := (show Xi U19 904 113 = Xi T18 904 113 from by rw [eU19]; exact Xi_ne (by omega)).trans ((show Xi T18 904 113 = Xi T17 904 113 from w234.x _ _ rfl))
              have w291 : -1 ≤ Xi T17 904 113 ∧ Xi T17 904 113 ≤ 6411 := hHT17.c _ _
              have w292 : Xi U19 904 69 = Xi T17 904 69 := (show Xi U19 904 69 = Xi T18 904 69 from by rw [eU19]; exact Xi_ne (by omega)).trans ((show Xi T18 904 69 = Xi T17 904 69 from w234.x _ _ rfl))
              have w293 : 0 ≤ Xi T17 904 69 ∧ Xi T17 904 69 ≤ 2600 := hHT17.c _ _
              exact ⟨hHU19, hFU19, rfl, (by omega), (by first | exact (fun _ q => syq_5 (f52 (by omega)) h52.1 h52.2.1 h52.2.2 (hFU19.x 904 19 rfl) (by omega) (by omega) (by omega) (by omega)) f52 | exact (fun _ q => tq_3 (by omega) (thk_c (H209) (hFU19.x 904 19 rfl) (by omega)) (adx_c (W209 (by omega)) (hFU19.x 904 23 rfl) (hFU19.x 904 32 rfl) (by omega))) W209 | exact (fun _ q => tq_4 (by omega) (thk_c (H277 (by omega)) (hFU19.x 904 19 rfl) (by omega))) q299 | exact (fun _ q => tq_2 (by omega) (thk_c (H328 (by omega)) (hFU19.x 904 19 rfl) (by omega)) (by have a := hFU19.x 904 32 rfl; omega) (fun _ => o386)) o386 | exact (fun _ q => tq_2 (by omega) (thk_c (H328 (by omega)) (hFU19.x 904 19 rfl) (by omega)) (by have a := hFU19.x 904 32 rfl; omega) (fun y => absurd y (by omega))) p337 | exact fun x => absurd x (by omega)), (by first | exact fun x y => ⟨Or.inr (Or.inr (by omega)), fun z => absurd z (by omega)⟩ | exact fun x y => ⟨by have t := hnf y; omega, fun z => absurd z (by omega)⟩ | exact (fun _ x0 => fun y => ⟨by omega, fun _ z => by rw [(hFU19.cx 922 rfl _).1, show Xi U19 973 (q).toNat = Xi T17 904 113 by omega]; exact (W209 (by omega)).2 (by omega) (by omega)⟩) W209 | exact fun x => absurd x (by omega)), ((KQ.w (KQ_FR w234 rfl (by assumption : KQ T17 S _)) eU19 (by omega)))⟩
            · refine l_aload_n rfl rfl ?_
              refine l_aload_n rfl rfl ?_
              refine l_gfr rfl rfl rfl rfl rfl (hHU19.r 904 86 956 rfl) ?_
              refine l_iload_n rfl rfl ?_
              refine l_iaload (n := 1700) rfl rfl (by omega) (by omega) (by unfold rg; omega) ?_
              have w294 : (Xi U19 956 ((i).toNat)) = (Xi T17 956 ((i).toNat)) := (show Xi U19 956 ((i).toNat) = Xi T18 956 ((i).toNat) from by rw [eU19]; exact Xi_ne (by omega)).trans ((show Xi T18 956 ((i).toNat) = Xi T17 956 ((i).toNat) from w234.x _ _ rfl))
              rw [w294]
              have e407 : (Xi T17 956 ((i).toNat)) = Xi S 956 (i).toNat := by first | rfl | exact (hFU19.cx 956 rfl _).1 | exact (hFT18.cx 956 rfl _).1 | exact (hFT17.cx 956 rfl _).1
              have t407 := htv.2.2.1 (by omega)
              have w295 : Xi U19 904 106 = Xi T18 904 106 := (show Xi U19 904 106 = Xi T18 904 106 from by rw [eU19]; exact Xi_ne (by omega))
              have w296 : 0 ≤ Xi T18 904 106 ∧ Xi T18 904 106 ≤ 9 := hHT18.c _ _
              have w297 : Xi U19 904 113 = Xi T17 904 113 := (show Xi U19 904 113 = Xi T18 904 113 from by rw [eU19]; exact Xi_ne (by omega)).trans ((show Xi T18 904 113 = Xi T17 904 113 from w234.x _ _ rfl))
              have w298 : -1 ≤ Xi T17 904 113 ∧ Xi T17 904 113 ≤ 6411 := hHT17.c _ _
              have w299 : Xi U19 904 69 = Xi T17 904 69 := (show Xi U19 904 69 = Xi T18 904 69 from by rw [eU19]; exact Xi_ne (by omega)).trans ((show Xi T18 904 69 = Xi T17 904 69 from w234.x _ _ rfl))
              have w300 : 0 ≤ Xi T17 904 69 ∧ Xi T17 904 69 ≤ 2600 := hHT17.c _ _
              refine l_callV rfl rfl rfl (t_mo_numberMeant__2 hHU19 n (Xi T17 956 ((i).toNat)) ⟨by omega, by omega⟩ (by first | assumption | exact (TK_FR hFU19 rfl (by assumption : TK S _))) (by first | assumption | exact (RNV_FR hFU19 rfl (by assumption : RNV S _))) (by first | assumption | omega) (by first | assumption | exact (LXM_FR hFU19 rfl (by assumption : LXM S))) _) ?_
              rintro _ T22 ⟨hHT22, w304, rfl, w301, w302⟩
              have hFT22 : FR md_mo_testMeant S T22 := FR.tr hFU19 w304 rfl
              show Rl _ _ _ _ _ [] _ _
              refine l_aload_n rfl rfl ?_
              refine l_gfr rfl rfl rfl rfl rfl (hHT22.r 904 122 973 rfl) ?_
              refine l_iload_n rfl rfl ?_
              refine l_aload_n rfl rfl ?_
              refine l_gfr rfl rfl rfl rfl rfl (hHT22.r 904 7 910 rfl) ?_
              refine l_aload_n rfl rfl ?_
              refine l_gfr rfl rfl rfl rfl rfl (hHT22.r 904 87 957 rfl) ?_
              refine l_iload_n rfl rfl ?_
              refine l_iaload (n := 1700) rfl rfl (by omega) (by omega) (by unfold rg; omega) ?_
              have w305 : 0 ≤ (Xi T22 957 ((i).toNat)) ∧ (Xi T22 957 ((i).toNat)) ≤ 5010 := hHT22.c _ _
              have e425 : (Xi T22 957 ((i).toNat)) = Xi S 957 (i).toNat := by first | rfl | exact (hFT22.cx 957 rfl _).1 | exact (hFU19.cx 957 rfl _).1 | exact (hFT17.cx 957 rfl _).1
              have t425 := htv.2.2.2.2.1 (by omega)
              refine l_laload (n := 5002) rfl rfl (by omega) (by omega) (by unfold rg; omega) ?_
              have w306 : -9223372036854775808 ≤ (Xj T22 910 (((Xi T22 957 ((i).toNat))).toNat)) ∧ (Xj T22 910 (((Xi T22 957 ((i).toNat))).toNat)) < 9223372036854775808 := Xj_rg
              refine l_l2iA rfl (fun c307 w307 => ?_)
              refine l_iastore (n := 2400) rfl rfl (by omega) (by omega) (by unfold rg; omega) ?_
              obtain ⟨U23, eU23⟩ : ∃ T : sS, T = uI T22 973 ((q).toNat) (Int32.ofInt c307) := ⟨_, rfl⟩
              rw [← eU23]
              have hHU23 : HI U23 := by rw [eU23]; exact HI_any hHT22 (rfl)
              have hFU23 : FR md_mo_testMeant S U23 := by rw [eU23]; exact FR.wI hFT22 (mdf_i (r := (973, 974, 0, 100000)) (List.mem_of_getElem? (i := 9) rfl) (inR_i (by omega) (by omega) (by omega) (by omega)))
              have w308 : Xi U23 973 ((q).toNat) = c307 := by rw [eU23]; exact Xi_same (by unfold rg; omega)
              refine l_return rfl rfl ?_
              have w309 : Xi U23 969 (q).toNat = Xi T17 969 (q).toNat := (show Xi U23 969 (q).toNat = Xi T22 969 (q).toNat from by rw [eU23]; exact Xi_ne (by omega)).trans ( (show Xi T22 969 (q).toNat = Xi U19 969 (q).toNat from (w304.cx 969 rfl _).1).trans ( (show Xi U19 969 (q).toNat = Xi T18 969 (q).toNat from by rw [eU19]; exact Xi_ne (by omega)).trans ((show Xi T18 969 (q).toNat = Xi T17 969 (q).toNat from (w234.cx 969 rfl _).1))))
              have w310 : Xi U23 971 (q).toNat = Xi T17 971 (q).toNat := (show Xi U23 971 (q).toNat = Xi T22 971 (q).toNat from by rw [eU23]; exact Xi_ne (by omega)).trans ( (show Xi T22 971 (q).toNat = Xi U19 971 (q).toNat from (w304.cx 971 rfl _).1).trans ( (show Xi U19 971 (q).toNat = Xi T18 971 (q).toNat from by rw [eU19]; exact Xi_ne (by omega)).trans ((show Xi T18 971 (q).toNat = Xi T17 971 (q).toNat from (w234.cx 971 rfl _).1))))
              have w311 : Xi U23 972 (q).toNat = Xi U19 972 (q).toNat := (show Xi U23 972 (q).toNat = Xi T22 972 (q).toNat from by rw [eU23]; exact Xi_ne (by omega)).trans ((show Xi T22 972 (q).toNat = Xi U19 972 (q).toNat from (w304.cx 972 rfl _).1))
              have w312 : Xi U23 974 (q).toNat = Xi T17 974 (q).toNat := (show Xi U23 974 (q).toNat = Xi T22 974 (q).toNat from by rw [eU23]; exact Xi_ne (by omega)).trans ( (show Xi T22 974 (q).toNat = Xi U19 974 (q).toNat from (w304.cx 974 rfl _).1).trans ( (show Xi U19 974 (q).toNat = Xi T18 974 (q).toNat from by rw [eU19]; exact Xi_ne (by omega)).trans ((show Xi T18 974 (q).toNat = Xi T17 974 (q).toNat from (w234.cx 974 rfl _).1))))
              have w313 : Xi U23 975 (q).toNat = Xi T17 975 (q).toNat := (show Xi U23 975 (q).toNat = Xi T22 975 (q).toNat from by rw [eU23]; exact Xi_ne (by omega)).trans ( (show Xi T22 975 (q).toNat = Xi U19 975 (q).toNat from (w304.cx 975 rfl _).1).trans ( (show Xi U19 975 (q).toNat = Xi T18 975 (q).toNat from by rw [eU19]; exact Xi_ne (by omega)).trans ((show Xi T18 975 (q).toNat = Xi T17 975 (q).toNat from (w234.cx 975 rfl _).1))))
              have w314 : Xi U23 904 106 = Xi T22 904 106 := (show Xi U23 904 106 = Xi T22 904 106 from by rw [eU23]; exact Xi_ne (by omega))
              have w315 : 0 ≤ Xi T22 904 106 ∧ Xi T22 904 106 ≤ 9 := hHT22.c _ _
              have w316 : Xi U23 904 113 = Xi T17 904 113 := (show Xi U23 904 113 = Xi T22 904 113 from by rw [eU23]; exact Xi_ne (by omega)).trans ( (show Xi T22 904 113 = Xi U19 904 113 from w304.x _ _ rfl).trans ( (show Xi U19 904 113 = Xi T18 904 113 from by rw [eU19]; exact Xi_ne (by omega)).trans ((show Xi T18 904 113 = Xi T17 904 113 from w234.x _ _ rfl))))
              have w317 : -1 ≤ Xi T17 904 113 ∧ Xi T17 904 113 ≤ 6411 := hHT17.c _ _
              have w318 : Xi U23 904 69 = Xi T17 904 69 := (show Xi U23 904 69 = Xi T22 904 69 from by rw [eU23]; exact Xi_ne (by omega)).trans ( (show Xi T22 904 69 = Xi U19 904 69 from w304.x _ _ rfl).trans ( (show Xi U19 904 69 = Xi T18 904 69 from by rw [eU19]; exact Xi_ne (by omega)).trans ((show Xi T18 904 69 = Xi T17 904 69 from w234.x _ _ rfl))))
              have w319 : 0 ≤ Xi T17 904 69 ∧ Xi T17 904 69 ≤ 2600 := hHT17.c _ _
              exact ⟨hHU23, hFU23, rfl, (by omega), (by first | exact (fun _ q => syq_5 (f52 (by omega)) h52.1 h52.2.1 h52.2.2 (hFU23.x 904 19 rfl) (by omega) (by omega) (by omega) (by omega)) f52 | exact (fun _ q => tq_3 (by omega) (thk_c (H209) (hFU23.x 904 19 rfl) (by omega)) (adx_c (W209 (by omega)) (hFU23.x 904 23 rfl) (hFU23.x 904 32 rfl) (by omega))) W209 | exact (fun _ q => tq_4 (by omega) (thk_c (H277 (by omega)) (hFU23.x 904 19 rfl) (by omega))) q299 | exact (fun _ q => tq_2 (by omega) (thk_c (H328 (by omega)) (hFU23.x 904 19 rfl) (by omega)) (by have a := hFU23.x 904 32 rfl; omega) (fun _ => o386)) o386 | exact (fun _ q => tq_2 (by omega) (thk_c (H328 (by omega)) (hFU23.x 904 19 rfl) (by omega)) (by have a := hFU23.x 904 32 rfl; omega) (fun y => absurd y (by omega))) p337 | exact fun x => absurd x (by omega)), (by first | exact fun x y => ⟨Or.inr (Or.inr (by omega)), fun z => absurd z (by omega)⟩ | exact fun x y => ⟨by have t := hnf y; omega, fun z => absurd z (by omega)⟩ | exact (fun _ x0 => fun y => ⟨by omega, fun _ z => by rw [(hFU23.cx 922 rfl _).1, show Xi U23 973 (q).toNat = Xi T17 904 113 by omega]; exact (W209 (by omega)).2 (by omega) (by omega)⟩) W209 | exact fun x => absurd x (by omega)), ((KQ.w (KQ_FR w304 rfl (KQ.w (KQ_FR w234 rfl (by assumption : KQ T17 S _)) eU19 (by omega))) eU23 (by omega)))⟩
          · refine l_aload_n rfl rfl ?_
            refine l_aload_n rfl rfl ?_
            refine l_gfr rfl rfl rfl rfl rfl (hHU19.r 904 87 957 rfl) ?_
            refine l_iload_n rfl rfl ?_
            refine l_iaload (n := 1700) rfl rfl (by omega) (by omega) (by unfold rg; omega) ?_
            have w320 : 0 ≤ (Xi U19 957 ((i).toNat)) ∧ (Xi U19 957 ((i).toNat)) ≤ 5010 := hHU19.c _ _
            have e371 : (Xi U19 957 ((i).toNat)) = Xi S 957 (i).toNat := by first | rfl | exact (hFU19.cx 957 rfl _).1 | exact (hFT18.cx 957 rfl _).1 | exact (hFT17.cx 957 rfl _).1
            have t371 := htv.2.2.2.2.1 (by omega)
            refine l_aload_n rfl rfl ?_
            refine l_gfr rfl rfl rfl rfl rfl (hHU19.r 904 90 960 rfl) ?_
            refine l_iload_n rfl rfl ?_
            refine l_iaload (n := 1700) rfl rfl (by omega) (by omega) (by unfold rg; omega) ?_
            have w321 : -1 ≤ (Xi U19 960 ((i).toNat)) ∧ (Xi U19 960 ((i).toNat)) ≤ 2600 := hHU19.c _ _
            have e377 : (Xi U19 960 ((i).toNat)) = Xi S 960 (i).toNat := by first | rfl | exact (hFU19.cx 960 rfl _).1 | exact (hFT18.cx 960 rfl _).1 | exact (hFT17.cx 960 rfl _).1
            refine l_aload_n rfl rfl ?_
            refine l_gfr rfl rfl rfl rfl rfl (hHU19.r 904 33 928 rfl) ?_
            refine l_iload rfl rfl ?_
            refine l_iaload (n := 12) rfl rfl (by omega) (by omega) (by unfold rg; omega) ?_
            have w322 : 0 ≤ (Xi U19 928 ((z233).toNat)) ∧ (Xi U19 928 ((z233).toNat)) ≤ 7 := hHU19.c _ _
            refine l_iload_n rfl rfl ?_
            have w323 : Xi U19 904 106 = Xi T18 904 106 := (show Xi U19 904 106 = Xi T18 904 106 from by rw [eU19]; exact Xi_ne (by omega))
            have w324 : 0 ≤ Xi T18 904 106 ∧ Xi T18 904 106 ≤ 9 := hHT18.c _ _
            have w325 : Xi U19 904 113 = Xi T17 904 113 := (show Xi U19 904 113 = Xi T18 904 113 from by rw [eU19]; exact Xi_ne (by omega)).trans ((show Xi T18 904 113 = Xi T17 904 113 from w234.x _ _ rfl))
            have w326 : -1 ≤ Xi T17 904 113 ∧ Xi T17 904 113 ≤ 6411 := hHT17.c _ _
            have w327 : Xi U19 904 69 = Xi T17 904 69 := (show Xi U19 904 69 = Xi T18 904 69 from by rw [eU19]; exact Xi_ne (by omega)).trans ((show Xi T18 904 69 = Xi T17 904 69 from w234.x _ _ rfl))
            have w328 : 0 ≤ Xi T17 904 69 ∧ Xi T17 904 69 ≤ 2600 := hHT17.c _ _
            refine l_callV rfl rfl rfl (t_mo_whatMeant hHU19 n (Xi U19 957 ((i).toNat)) (Xi U19 960 ((i).toNat)) (Xi U19 928 ((z233).toNat)) q ⟨by omega, by omega⟩ ⟨by omega, by omega⟩ ⟨by omega, by omega⟩ ⟨by omega, by omega⟩ (by first | assumption | exact (TK_FR hFU19 rfl (by assumption : TK S _))) (by first | assumption | exact (RNV_FR hFU19 rfl (by assumption : RNV S _))) (by first | assumption | exact (LXM_FR hFU19 rfl (by assumption : LXM S))) (by first | assumption | exact (TXK_FR hFU19 rfl (by assumption : TXK S _))) (by first | assumption | omega) (fun a b => by rw [(hFU19.cx 907 rfl _).1] at a b; have t := htv.2.2.2.2.2 (by omega) (by rw [← e371]; exact a) (by rw [← e371]; exact b); omega) _) ?_
            rintro _ T24 ⟨hHT24, w332, rfl, w329, o386, w330⟩
            have hFT24 : FR md_mo_testMeant S T24 := FR.tr hFU19 w332 rfl
            show Rl _ _ _ _ _ [] _ _
            refine l_goto rfl rfl ?_
            refine l_return rfl rfl ?_
            have w333 : Xi T24 969 (q).toNat = Xi T17 969 (q).toNat := (show Xi T24 969 (q).toNat = Xi U19 969 (q).toNat from (w332.cx 969 rfl _).1).trans ( (show Xi U19 969 (q).toNat = Xi T18 969 (q).toNat from by rw [eU19]; exact Xi_ne (by omega)).trans ((show Xi T18 969 (q).toNat = Xi T17 969 (q).toNat from (w234.cx 969 rfl _).1)))
            have w334 : Xi T24 971 (q).toNat = Xi T17 971 (q).toNat := (show Xi T24 971 (q).toNat = Xi U19 971 (q).toNat from (w332.cx 971 rfl _).1).trans ( (show Xi U19 971 (q).toNat = Xi T18 971 (q).toNat from by rw [eU19]; exact Xi_ne (by omega)).trans ((show Xi T18 971 (q).toNat = Xi T17 971 (q).toNat from (w234.cx 971 rfl _).1)))
            have w335 : Xi T24 972 (q).toNat = Xi U19 972 (q).toNat := (show Xi T24 972 (q).toNat = Xi U19 972 (q).toNat from (w332.cx 972 rfl _).1)
            have w336 : Xi T24 975 (q).toNat = Xi T17 975 (q).toNat := (show Xi T24 975 (q).toNat = Xi U19 975 (q).toNat from (w332.cx 975 rfl _).1).trans ( (show Xi U19 975 (q).toNat = Xi T18 975 (q).toNat from by rw [eU19]; exact Xi_ne (by omega)).trans ((show Xi T18 975 (q).toNat = Xi T17 975 (q).toNat from (w234.cx 975 rfl _).1)))
            have w337 : 0 ≤ Xi T24 904 106 ∧ Xi T24 904 106 ≤ 9 := hHT24.c _ _
            have w338 : Xi T24 904 113 = Xi T17 904 113 := (show Xi T24 904 113 = Xi U19 904 113 from w332.x _ _ rfl).trans ( (show Xi U19 904 113 = Xi T18 904 113 from by rw [eU19]; exact Xi_ne (by omega)).trans ((show Xi T18 904 113 = Xi T17 904 113 from w234.x _ _ rfl)))
            have w339 : -1 ≤ Xi T17 904 113 ∧ Xi T17 904 113 ≤ 6411 := hHT17.c _ _
            have w340 : Xi T24 904 69 = Xi T17 904 69 := (show Xi T24 904 69 = Xi U19 904 69 from w332.x _ _ rfl).trans ( (show Xi U19 904 69 = Xi T18 904 69 from by rw [eU19]; exact Xi_ne (by omega)).trans ((show Xi T18 904 69 = Xi T17 904 69 from w234.x _ _ rfl)))
            have w341 : 0 ≤ Xi T17 904 69 ∧ Xi T17 904 69 ≤ 2600 := hHT17.c _ _
            exact ⟨hHT24, hFT24, rfl, (by omega), (by first | exact (fun _ q => syq_5 (f52 (by omega)) h52.1 h52.2.1 h52.2.2 (hFT24.x 904 19 rfl) (by omega) (by omega) (by omega) (by omega)) f52 | exact (fun _ q => tq_3 (by omega) (thk_c (H209) (hFT24.x 904 19 rfl) (by omega)) (adx_c (W209 (by omega)) (hFT24.x 904 23 rfl) (hFT24.x 904 32 rfl) (by omega))) W209 | exact (fun _ q => tq_4 (by omega) (thk_c (H277 (by omega)) (hFT24.x 904 19 rfl) (by omega))) q299 | exact (fun _ q => tq_2 (by omega) (thk_c (H328 (by omega)) (hFT24.x 904 19 rfl) (by omega)) (by have a := hFT24.x 904 32 rfl; omega) (fun _ => o386)) o386 | exact (fun _ q => tq_2 (by omega) (thk_c (H328 (by omega)) (hFT24.x 904 19 rfl) (by omega)) (by have a := hFT24.x 904 32 rfl; omega) (fun y => absurd y (by omega))) p337 | exact fun x => absurd x (by omega)), (by first | exact fun x y => ⟨Or.inr (Or.inr (by omega)), fun z => absurd z (by omega)⟩ | exact fun x y => ⟨by have t := hnf y; omega, fun z => absurd z (by omega)⟩ | exact (fun _ x0 => fun y => ⟨by omega, fun _ z => by rw [(hFT24.cx 922 rfl _).1, show Xi T24 973 (q).toNat = Xi T17 904 113 by omega]; exact (W209 (by omega)).2 (by omega) (by omega)⟩) W209 | exact fun x => absurd x (by omega)), ((KQ.tr (KQ.w (KQ_FR w234 rfl (by assumption : KQ T17 S _)) eU19 (by omega)) (by assumption : KQ T24 U19 _)))⟩
      refine l_aload_n rfl rfl ?_
      refine l_gfr rfl rfl rfl rfl rfl (hHT17.r 904 82 952 rfl) ?_
      refine l_iload_n rfl rfl ?_
      refine l_iaload (n := 1700) rfl rfl (by omega) (by omega) (by unfold rg; omega) ?_
      have w342 : 0 ≤ (Xi T17 952 ((i).toNat)) ∧ (Xi T17 952 ((i).toNat)) ≤ 5 := hHT17.c _ _
      have e282 : (Xi T17 952 ((i).toNat)) = Xi S 952 (i).toNat := by first | rfl | exact (hFT17.cx 952 rfl _).1 | exact (hFT17.cx 952 rfl _).1 | exact (hFT17.cx 952 rfl _).1
      refine l_iconst rfl ?_
      refine l_icmp_ne rfl rfl (by unfold rg; omega) (by unfold rg; omega) (fun w343 => ?_) (fun w344 => ?_)
      · have w345 : 0 ≤ Xi T17 904 106 ∧ Xi T17 904 106 ≤ 9 := hHT17.c _ _
        have w346 : -1 ≤ Xi T17 904 113 ∧ Xi T17 904 113 ≤ 6411 := hHT17.c _ _
        have w347 : 0 ≤ Xi T17 904 69 ∧ Xi T17 904 69 ≤ 2600 := hHT17.c _ _
        exact Rl_weak (C328 (v4) (by omega) (by omega) (by omega) (by omega) ((by assumption : KQ T17 S _)) (by omega) (by omega) (by omega) (H277) (by omega)) (And.intro rfl (And.intro rfl (And.intro rfl (And.intro rfl (True.intro)))))
      · refine l_aload_n rfl rfl ?_
        refine l_aload_n rfl rfl ?_
        refine l_gfr rfl rfl rfl rfl rfl (hHT17.r 904 89 959 rfl) ?_
        refine l_iload_n rfl rfl ?_
        refine l_iaload (n := 1700) rfl rfl (by omega) (by omega) (by unfold rg; omega) ?_
        have w348 : 0 ≤ (Xi T17 959 ((i).toNat)) ∧ (Xi T17 959 ((i).toNat)) ≤ 25010 := hHT17.c _ _
        have e293 : (Xi T17 959 ((i).toNat)) = Xi S 959 (i).toNat := by first | rfl | exact (hFT17.cx 959 rfl _).1 | exact (hFT17.cx 959 rfl _).1 | exact (hFT17.cx 959 rfl _).1
        refine l_aload_n rfl rfl ?_
        refine l_gfr rfl rfl rfl rfl rfl (hHT17.r 904 90 960 rfl) ?_
        refine l_iload_n rfl rfl ?_
        refine l_iaload (n := 1700) rfl rfl (by omega) (by omega) (by unfold rg; omega) ?_
        have w349 : -1 ≤ (Xi T17 960 ((i).toNat)) ∧ (Xi T17 960 ((i).toNat)) ≤ 2600 := hHT17.c _ _
        have e299 : (Xi T17 960 ((i).toNat)) = Xi S 960 (i).toNat := by first | rfl | exact (hFT17.cx 960 rfl _).1 | exact (hFT17.cx 960 rfl _).1 | exact (hFT17.cx 960 rfl _).1
        have q299 := q_thv (htv.2.2.2.1 (by omega)) e293 e299 (hFT17.x 904 69 rfl) hn5
        have w350 : 0 ≤ Xi T17 904 106 ∧ Xi T17 904 106 ≤ 9 := hHT17.c _ _
        have w351 : -1 ≤ Xi T17 904 113 ∧ Xi T17 904 113 ≤ 6411 := hHT17.c _ _
        have w352 : 0 ≤ Xi T17 904 19 ∧ Xi T17 904 19 ≤ 24 := hHT17.c _ _
        have w353 : 0 ≤ Xi T17 904 69 ∧ Xi T17 904 69 ≤ 2600 := hHT17.c _ _
        refine l_callV rfl rfl rfl (t_mo_meant hHT17 n (Xi T17 959 ((i).toNat)) (Xi T17 960 ((i).toNat)) ⟨by omega, by omega⟩ ⟨by omega, by omega⟩ (by first | assumption | exact (TK_FR hFT17 rfl (by assumption : TK S _))) (by first | assumption | exact (RNV_FR hFT17 rfl (by assumption : RNV S _))) (by first | exact q299.1 | exact q106.1) (by first | exact q299.2 | exact q106.2) (by first | assumption | exact (LXM_FR hFT17 rfl (by assumption : LXM S))) _) ?_
        rintro _ T25 ⟨hHT25, w357, z356, rfl, w356, p300, i300, j300, w354, w355⟩
        have hFT25 : FR md_mo_testMeant S T25 := FR.tr hFT17 w357 rfl
        show Rl _ _ _ _ _ [iv z356] _ _
        clear p300 i300 j300
        refine l_istore rfl rfl rfl ?_
        refine l_aload_n rfl rfl ?_
        refine l_gfr rfl rfl rfl rfl rfl (hHT25.r 904 124 975 rfl) ?_
        refine l_iload_n rfl rfl ?_
        refine l_iload rfl rfl ?_
        refine l_iastore (n := 2400) rfl rfl (by omega) (by omega) (by unfold rg; omega) ?_
        obtain ⟨U26, eU26⟩ : ∃ T : sS, T = uI T25 975 ((q).toNat) (Int32.ofInt z356) := ⟨_, rfl⟩
        rw [← eU26]
        have hHU26 : HI U26 := by rw [eU26]; exact HI_w hHT25 (show -9 ≤ z356 by omega) (show z356 ≤ 23 by omega)
        have hFU26 : FR md_mo_testMeant S U26 := by rw [eU26]; exact FR.wI hFT25 (mdf_i (r := (975, 976, 0, 100000)) (List.mem_of_getElem? (i := 11) rfl) (inR_i (by omega) (by omega) (by omega) (by omega)))
        have w358 : Xi U26 975 ((q).toNat) = z356 := by rw [eU26]; exact Xi_same (by unfold rg; omega)
        refine l_aload_n rfl rfl ?_
        refine l_gfr rfl rfl rfl rfl rfl (hHU26.r 904 122 973 rfl) ?_
        refine l_iload_n rfl rfl ?_
        refine l_aload_n rfl rfl ?_
        refine l_gfr rfl rfl rfl rfl rfl (hHU26.r 904 88 958 rfl) ?_
        refine l_iload_n rfl rfl ?_
        refine l_iaload (n := 1700) rfl rfl (by omega) (by omega) (by unfold rg; omega) ?_
        have w359 : 0 ≤ (Xi U26 958 ((i).toNat)) ∧ (Xi U26 958 ((i).toNat)) ≤ 5 := hHU26.c _ _
        refine l_iastore (n := 2400) rfl rfl (by omega) (by omega) (by unfold rg; omega) ?_
        obtain ⟨U27, eU27⟩ : ∃ T : sS, T = uI U26 973 ((q).toNat) (Int32.ofInt (Xi U26 958 ((i).toNat))) := ⟨_, rfl⟩
        rw [← eU27]
        have hHU27 : HI U27 := by rw [eU27]; exact HI_any hHU26 (rfl)
        have hFU27 : FR md_mo_testMeant S U27 := by rw [eU27]; exact FR.wI hFU26 (mdf_i (r := (973, 974, 0, 100000)) (List.mem_of_getElem? (i := 9) rfl) (inR_i (by omega) (by omega) (by omega) (by omega)))
        have w360 : Xi U27 973 ((q).toNat) = (Xi U26 958 ((i).toNat)) := by rw [eU27]; exact Xi_same (by unfold rg; omega)
        refine l_goto rfl rfl ?_
        refine l_return rfl rfl ?_
        have w361 : Xi U27 969 (q).toNat = Xi T17 969 (q).toNat := (show Xi U27 969 (q).toNat = Xi U26 969 (q).toNat from by rw [eU27]; exact Xi_ne (by omega)).trans ( (show Xi U26 969 (q).toNat = Xi T25 969 (q).toNat from by rw [eU26]; exact Xi_ne (by omega)).trans ((show Xi T25 969 (q).toNat = Xi T17 969 (q).toNat from (w357.cx 969 rfl _).1)))
        have w362 : Xi U27 971 (q).toNat = Xi T17 971 (q).toNat := (show Xi U27 971 (q).toNat = Xi U26 971 (q).toNat from by rw [eU27]; exact Xi_ne (by omega)).trans ( (show Xi U26 971 (q).toNat = Xi T25 971 (q).toNat from by rw [eU26]; exact Xi_ne (by omega)).trans ((show Xi T25 971 (q).toNat = Xi T17 971 (q).toNat from (w357.cx 971 rfl _).1)))
        have w363 : Xi U27 972 (q).toNat = Xi T17 972 (q).toNat := (show Xi U27 972 (q).toNat = Xi U26 972 (q).toNat from by rw [eU27]; exact Xi_ne (by omega)).trans ( (show Xi U26 972 (q).toNat = Xi T25 972 (q).toNat from by rw [eU26]; exact Xi_ne (by omega)).trans ((show Xi T25 972 (q).toNat = Xi T17 972 (q).toNat from (w357.cx 972 rfl _).1)))
        have w364 : Xi U27 974 (q).toNat = Xi T17 974 (q).toNat := (show Xi U27 974 (q).toNat = Xi U26 974 (q).toNat from by rw [eU27]; exact Xi_ne (by omega)).trans ( (show Xi U26 974 (q).toNat = Xi T25 974 (q).toNat from by rw [eU26]; exact Xi_ne (by omega)).trans ((show Xi T25 974 (q).toNat = Xi T17 974 (q).toNat from (w357.cx 974 rfl _).1)))
        have w365 : Xi U27 975 (q).toNat = Xi U26 975 (q).toNat := (show Xi U27 975 (q).toNat = Xi U26 975 (q).toNat from by rw [eU27]; exact Xi_ne (by omega))
        have w366 : Xi U27 904 106 = Xi T25 904 106 := (show Xi U27 904 106 = Xi U26 904 106 from by rw [eU27]; exact Xi_ne (by omega)).trans ((show Xi U26 904 106 = Xi T25 904 106 from by rw [eU26]; exact Xi_ne (by omega)))
        have w367 : 0 ≤ Xi T25 904 106 ∧ Xi T25 904 106 ≤ 9 := hHT25.c _ _
        have w368 : Xi U27 904 113 = Xi T17 904 113 := (show Xi U27 904 113 = Xi U26 904 113 from by rw [eU27]; exact Xi_ne (by omega)).trans ( (show Xi U26 904 113 = Xi T25 904 113 from by rw [eU26]; exact Xi_ne (by omega)).trans ((show Xi T25 904 113 = Xi T17 904 113 from w357.x _ _ rfl)))
        have w369 : -1 ≤ Xi T17 904 113 ∧ Xi T17 904 113 ≤ 6411 := hHT17.c _ _
        have w370 : Xi U27 904 69 = Xi T17 904 69 := (show Xi U27 904 69 = Xi U26 904 69 from by rw [eU27]; exact Xi_ne (by omega)).trans ( (show Xi U26 904 69 = Xi T25 904 69 from by rw [eU26]; exact Xi_ne (by omega)).trans ((show Xi T25 904 69 = Xi T17 904 69 from w357.x _ _ rfl)))
        have w371 : 0 ≤ Xi T17 904 69 ∧ Xi T17 904 69 ≤ 2600 := hHT17.c _ _
        exact ⟨hHU27, hFU27, rfl, (by omega), (by first | exact (fun _ q => syq_5 (f52 (by omega)) h52.1 h52.2.1 h52.2.2 (hFU27.x 904 19 rfl) (by omega) (by omega) (by omega) (by omega)) f52 | exact (fun _ q => tq_3 (by omega) (thk_c (H209) (hFU27.x 904 19 rfl) (by omega)) (adx_c (W209 (by omega)) (hFU27.x 904 23 rfl) (hFU27.x 904 32 rfl) (by omega))) W209 | exact (fun _ q => tq_4 (by omega) (thk_c (H277 (by omega)) (hFU27.x 904 19 rfl) (by omega))) q299 | exact (fun _ q => tq_2 (by omega) (thk_c (H328 (by omega)) (hFU27.x 904 19 rfl) (by omega)) (by have a := hFU27.x 904 32 rfl; omega) (fun _ => o386)) o386 | exact (fun _ q => tq_2 (by omega) (thk_c (H328 (by omega)) (hFU27.x 904 19 rfl) (by omega)) (by have a := hFU27.x 904 32 rfl; omega) (fun y => absurd y (by omega))) p337 | exact fun x => absurd x (by omega)), (by first | exact fun x y => ⟨Or.inr (Or.inr (by omega)), fun z => absurd z (by omega)⟩ | exact fun x y => ⟨by have t := hnf y; omega, fun z => absurd z (by omega)⟩ | exact (fun _ x0 => fun y => ⟨by omega, fun _ z => by rw [(hFU27.cx 922 rfl _).1, show Xi U27 973 (q).toNat = Xi T17 904 113 by omega]; exact (W209 (by omega)).2 (by omega) (by omega)⟩) W209 | exact fun x => absurd x (by omega)), ((KQ.w (KQ.w (KQ_FR w357 rfl (by assumption : KQ T17 S _)) eU26 (by omega)) eU27 (by omega)))⟩
    refine l_aload_n rfl rfl ?_
    refine l_aload_n rfl rfl ?_
    refine l_gfr rfl rfl rfl rfl rfl (hHT1.r 904 84 954 rfl) ?_
    refine l_iload_n rfl rfl ?_
    refine l_iaload (n := 1700) rfl rfl (by omega) (by omega) (by unfold rg; omega) ?_
    have w372 : 0 ≤ (Xi T1 954 ((i).toNat)) ∧ (Xi T1 954 ((i).toNat)) ≤ 25010 := hHT1.c _ _
    have e100 : (Xi T1 954 ((i).toNat)) = Xi S 954 (i).toNat := by first | rfl | exact (hFT1.cx 954 rfl _).1 | exact (hFT1.cx 954 rfl _).1 | exact (hFT1.cx 954 rfl _).1
    refine l_aload_n rfl rfl ?_
    refine l_gfr rfl rfl rfl rfl rfl (hHT1.r 904 85 955 rfl) ?_
    refine l_iload_n rfl rfl ?_
    refine l_iaload (n := 1700) rfl rfl (by omega) (by omega) (by unfold rg; omega) ?_
    have w373 : 0 ≤ (Xi T1 955 ((i).toNat)) ∧ (Xi T1 955 ((i).toNat)) ≤ 2600 := hHT1.c _ _
    have e106 : (Xi T1 955 ((i).toNat)) = Xi S 955 (i).toNat := by first | rfl | exact (hFT1.cx 955 rfl _).1 | exact (hFT1.cx 955 rfl _).1 | exact (hFT1.cx 955 rfl _).1
    have q106 := q_thv (htv.2.1 (by omega)) e100 e106 (hFT1.x 904 69 rfl) hn5
    have w374 : 0 ≤ Xi T1 904 106 ∧ Xi T1 904 106 ≤ 9 := hHT1.c _ _
    have w375 : -1 ≤ Xi T1 904 113 ∧ Xi T1 904 113 ≤ 6411 := hHT1.c _ _
    have w376 : 0 ≤ Xi T1 904 19 ∧ Xi T1 904 19 ≤ 24 := hHT1.c _ _
    have w377 : 0 ≤ Xi T1 904 69 ∧ Xi T1 904 69 ≤ 2600 := hHT1.c _ _
    refine l_callV rfl rfl rfl (t_mo_meant hHT1 n (Xi T1 954 ((i).toNat)) (Xi T1 955 ((i).toNat)) ⟨by omega, by omega⟩ ⟨by omega, by omega⟩ (by first | assumption | exact (TK_FR hFT1 rfl (by assumption : TK S _))) (by first | assumption | exact (RNV_FR hFT1 rfl (by assumption : RNV S _))) (by first | exact q299.1 | exact q106.1) (by first | exact q299.2 | exact q106.2) (by first | assumption | exact (LXM_FR hFT1 rfl (by assumption : LXM S))) _) ?_
    rintro _ T28 ⟨hHT28, w381, z380, rfl, w380, p107, i107, j107, w378, w379⟩
    have hFT28 : FR md_mo_testMeant S T28 := FR.tr hFT1 w381 rfl
    show Rl _ _ _ _ _ [iv z380] _ _
    have th107 : z380 ≠ -9 → thK S (0 ≤ Xi S 904 115) (0 ≤ Xi S 904 116) z380 := fun x => by unfold thK; have a := hFT1.x 904 19 rfl; have b := hFT28.x 904 115 rfl; have c := hFT28.x 904 116 rfl; omega
    have m107 : z380 ≠ -9 → -2 ≤ z380 := by omega
    clear p107 i107 j107
    refine l_istore rfl rfl rfl ?_
    refine l_aload_n rfl rfl ?_
    refine l_gfr rfl rfl rfl rfl rfl (hHT28.r 904 120 971 rfl) ?_
    refine l_iload_n rfl rfl ?_
    refine l_iload rfl rfl ?_
    refine l_iastore (n := 2400) rfl rfl (by omega) (by omega) (by unfold rg; omega) ?_
    obtain ⟨U29, eU29⟩ : ∃ T : sS, T = uI T28 971 ((q).toNat) (Int32.ofInt z380) := ⟨_, rfl⟩
    rw [← eU29]
    have hHU29 : HI U29 := by rw [eU29]; exact HI_w hHT28 (show -9 ≤ z380 by omega) (show z380 ≤ 23 by omega)
    have hFU29 : FR md_mo_testMeant S U29 := by rw [eU29]; exact FR.wI hFT28 (mdf_i (r := (971, 972, 0, 100000)) (List.mem_of_getElem? (i := 7) rfl) (inR_i (by omega) (by omega) (by omega) (by omega)))
    have w382 : Xi U29 971 ((q).toNat) = z380 := by rw [eU29]; exact Xi_same (by unfold rg; omega)
    refine l_aload_n rfl rfl ?_
    refine l_gfr rfl rfl rfl rfl rfl (hHU29.r 904 82 952 rfl) ?_
    refine l_iload_n rfl rfl ?_
    refine l_iaload (n := 1700) rfl rfl (by omega) (by omega) (by unfold rg; omega) ?_
    have w383 : 0 ≤ (Xi U29 952 ((i).toNat)) ∧ (Xi U29 952 ((i).toNat)) ≤ 5 := hHU29.c _ _
    have e125 : (Xi U29 952 ((i).toNat)) = Xi S 952 (i).toNat := by first | rfl | exact (hFU29.cx 952 rfl _).1 | exact (hFT28.cx 952 rfl _).1 | exact (hFT1.cx 952 rfl _).1
    refine l_iconst rfl ?_
    refine l_icmp_ne rfl rfl (by unfold rg; omega) (by unfold rg; omega) (fun w384 => ?_) (fun w385 => ?_)
    · have w386 : Xi U29 969 (q).toNat = Xi T1 969 (q).toNat := (show Xi U29 969 (q).toNat = Xi T28 969 (q).toNat from by rw [eU29]; exact Xi_ne (by omega)).trans ((show Xi T28 969 (q).toNat = Xi T1 969 (q).toNat from (w381.cx 969 rfl _).1))
      have w387 : Xi U29 972 (q).toNat = Xi T1 972 (q).toNat := (show Xi U29 972 (q).toNat = Xi T28 972 (q).toNat from by rw [eU29]; exact Xi_ne (by omega)).trans ((show Xi T28 972 (q).toNat = Xi T1 972 (q).toNat from (w381.cx 972 rfl _).1))
      have w388 : Xi U29 973 (q).toNat = Xi T1 973 (q).toNat := (show Xi U29 973 (q).toNat = Xi T28 973 (q).toNat from by rw [eU29]; exact Xi_ne (by omega)).trans ((show Xi T28 973 (q).toNat = Xi T1 973 (q).toNat from (w381.cx 973 rfl _).1))
      have w389 : Xi U29 974 (q).toNat = Xi T1 974 (q).toNat := (show Xi U29 974 (q).toNat = Xi T28 974 (q).toNat from by rw [eU29]; exact Xi_ne (by omega)).trans ((show Xi T28 974 (q).toNat = Xi T1 974 (q).toNat from (w381.cx 974 rfl _).1))
      have w390 : Xi U29 975 (q).toNat = Xi T1 975 (q).toNat := (show Xi U29 975 (q).toNat = Xi T28 975 (q).toNat from by rw [eU29]; exact Xi_ne (by omega)).trans ((show Xi T28 975 (q).toNat = Xi T1 975 (q).toNat from (w381.cx 975 rfl _).1))
      have w391 : Xi U29 904 106 = Xi T28 904 106 := (show Xi U29 904 106 = Xi T28 904 106 from by rw [eU29]; exact Xi_ne (by omega))
      have w392 : 0 ≤ Xi T28 904 106 ∧ Xi T28 904 106 ≤ 9 := hHT28.c _ _
      have w393 : Xi U29 904 113 = Xi T1 904 113 := (show Xi U29 904 113 = Xi T28 904 113 from by rw [eU29]; exact Xi_ne (by omega)).trans ((show Xi T28 904 113 = Xi T1 904 113 from w381.x _ _ rfl))
      have w394 : -1 ≤ Xi T1 904 113 ∧ Xi T1 904 113 ≤ 6411 := hHT1.c _ _
      have w395 : Xi U29 904 69 = Xi T1 904 69 := (show Xi U29 904 69 = Xi T28 904 69 from by rw [eU29]; exact Xi_ne (by omega)).trans ((show Xi T28 904 69 = Xi T1 904 69 from w381.x _ _ rfl))
      have w396 : 0 ≤ Xi T1 904 69 ∧ Xi T1 904 69 ≤ 2600 := hHT1.c _ _
      exact Rl_weak (C277 U29 hHU29 hFU29 (z380) (by omega) (by omega) (by omega) (by omega) ((KQ.w (KQ_FR w381 rfl (by assumption : KQ T1 S _)) eU29 (by omega))) (by omega) (by omega) (by omega) (th107) (by omega) (by omega)) (And.intro rfl (And.intro rfl (And.intro rfl (And.intro rfl (True.intro)))))
    · refine l_iload rfl rfl ?_
      refine l_bipush rfl rfl ?_
      refine l_icmp_eq rfl rfl (by unfold rg; omega) (by unfold rg; omega) (fun w397 => ?_) (fun w398 => ?_)
      · refine l_return rfl rfl ?_
        have w399 : Xi U29 969 (q).toNat = Xi T1 969 (q).toNat := (show Xi U29 969 (q).toNat = Xi T28 969 (q).toNat from by rw [eU29]; exact Xi_ne (by omega)).trans ((show Xi T28 969 (q).toNat = Xi T1 969 (q).toNat from (w381.cx 969 rfl _).1))
        have w400 : Xi U29 972 (q).toNat = Xi T1 972 (q).toNat := (show Xi U29 972 (q).toNat = Xi T28 972 (q).toNat from by rw [eU29]; exact Xi_ne (by omega)).trans ((show Xi T28 972 (q).toNat = Xi T1 972 (q).toNat from (w381.cx 972 rfl _).1))
        have w401 : Xi U29 973 (q).toNat = Xi T1 973 (q).toNat := (show Xi U29 973 (q).toNat = Xi T28 973 (q).toNat from by rw [eU29]; exact Xi_ne (by omega)).trans ((show Xi T28 973 (q).toNat = Xi T1 973 (q).toNat from (w381.cx 973 rfl _).1))
        have w402 : Xi U29 974 (q).toNat = Xi T1 974 (q).toNat := (show Xi U29 974 (q).toNat = Xi T28 974 (q).toNat from by rw [eU29]; exact Xi_ne (by omega)).trans ((show Xi T28 974 (q).toNat = Xi T1 974 (q).toNat from (w381.cx 974 rfl _).1))
        have w403 : Xi U29 975 (q).toNat = Xi T1 975 (q).toNat := (show Xi U29 975 (q).toNat = Xi T28 975 (q).toNat from by rw [eU29]; exact Xi_ne (by omega)).trans ((show Xi T28 975 (q).toNat = Xi T1 975 (q).toNat from (w381.cx 975 rfl _).1))
        have w404 : Xi U29 904 106 = Xi T28 904 106 := (show Xi U29 904 106 = Xi T28 904 106 from by rw [eU29]; exact Xi_ne (by omega))
        have w405 : 0 ≤ Xi T28 904 106 ∧ Xi T28 904 106 ≤ 9 := hHT28.c _ _
        have w406 : Xi U29 904 113 = Xi T1 904 113 := (show Xi U29 904 113 = Xi T28 904 113 from by rw [eU29]; exact Xi_ne (by omega)).trans ((show Xi T28 904 113 = Xi T1 904 113 from w381.x _ _ rfl))
        have w407 : -1 ≤ Xi T1 904 113 ∧ Xi T1 904 113 ≤ 6411 := hHT1.c _ _
        have w408 : Xi U29 904 69 = Xi T1 904 69 := (show Xi U29 904 69 = Xi T28 904 69 from by rw [eU29]; exact Xi_ne (by omega)).trans ((show Xi T28 904 69 = Xi T1 904 69 from w381.x _ _ rfl))
        have w409 : 0 ≤ Xi T1 904 69 ∧ Xi T1 904 69 ≤ 2600 := hHT1.c _ _
        exact ⟨hHU29, hFU29, rfl, (by omega), (by first | exact (fun _ q => syq_5 (f52 (by omega)) h52.1 h52.2.1 h52.2.2 (hFU29.x 904 19 rfl) (by omega) (by omega) (by omega) (by omega)) f52 | exact (fun _ q => tq_3 (by omega) (thk_c (H209) (hFU29.x 904 19 rfl) (by omega)) (adx_c (W209 (by omega)) (hFU29.x 904 23 rfl) (hFU29.x 904 32 rfl) (by omega))) W209 | exact (fun _ q => tq_4 (by omega) (thk_c (H277 (by omega)) (hFU29.x 904 19 rfl) (by omega))) q299 | exact (fun _ q => tq_2 (by omega) (thk_c (H328 (by omega)) (hFU29.x 904 19 rfl) (by omega)) (by have a := hFU29.x 904 32 rfl; omega) (fun _ => o386)) o386 | exact (fun _ q => tq_2 (by omega) (thk_c (H328 (by omega)) (hFU29.x 904 19 rfl) (by omega)) (by have a := hFU29.x 904 32 rfl; omega) (fun y => absurd y (by omega))) p337 | exact fun x => absurd x (by omega)), (by first | exact fun x y => ⟨Or.inr (Or.inr (by omega)), fun z => absurd z (by omega)⟩ | exact fun x y => ⟨by have t := hnf y; omega, fun z => absurd z (by omega)⟩ | exact (fun _ x0 => fun y => ⟨by omega, fun _ z => by rw [(hFU29.cx 922 rfl _).1, show Xi U29 973 (q).toNat = Xi T1 904 113 by omega]; exact (W209 (by omega)).2 (by omega) (by omega)⟩) W209 | exact fun x => absurd x (by omega)), ((KQ.w (KQ_FR w381 rfl (by assumption : KQ T1 S _)) eU29 (by omega)))⟩
      · refine l_aload_n rfl rfl ?_
        refine l_gfr rfl rfl rfl rfl rfl (hHU29.r 904 86 956 rfl) ?_
        refine l_iload_n rfl rfl ?_
        refine l_iaload (n := 1700) rfl rfl (by omega) (by omega) (by unfold rg; omega) ?_
        have w410 : 0 ≤ (Xi U29 956 ((i).toNat)) ∧ (Xi U29 956 ((i).toNat)) ≤ 2600 := hHU29.c _ _
        have e142 : (Xi U29 956 ((i).toNat)) = Xi S 956 (i).toNat := by first | rfl | exact (hFU29.cx 956 rfl _).1 | exact (hFT28.cx 956 rfl _).1 | exact (hFT1.cx 956 rfl _).1
        have t142 := htv.2.2.1 (by omega)
        refine l_istore rfl rfl rfl ?_
        refine l_aload_n rfl rfl ?_
        refine l_gfr rfl rfl rfl rfl rfl (hHU29.r 904 68 951 rfl) ?_
        refine l_iload rfl rfl ?_
        refine l_iaload (n := 2600) rfl rfl (by omega) (by omega) (by unfold rg; omega) ?_
        have w411 : 0 ≤ (Xi U29 951 (((Xi U29 956 ((i).toNat))).toNat)) ∧ (Xi U29 951 (((Xi U29 956 ((i).toNat))).toNat)) ≤ 5010 := hHU29.c _ _
        have e151 : (Xi U29 951 (((Xi U29 956 ((i).toNat))).toNat)) = Xi S 951 ((Xi U29 956 ((i).toNat))).toNat := by first | rfl | exact (hFU29.cx 951 rfl _).1
        have g151 := hrf (Xi U29 956 ((i).toNat)) (by omega) (by omega)
        refine l_iconst rfl ?_
        refine l_icmp_le rfl rfl (by unfold rg; omega) (by unfold rg; omega) (fun w412 => ?_) (fun w413 => ?_)
        · refine l_aload_n rfl rfl ?_
          refine l_aload_n rfl rfl ?_
          refine l_gfr rfl rfl rfl rfl rfl (hHU29.r 904 67 950 rfl) ?_
          refine l_iload rfl rfl ?_
          refine l_iaload (n := 2600) rfl rfl (by omega) (by omega) (by unfold rg; omega) ?_
          have w414 : 0 ≤ (Xi U29 950 (((Xi U29 956 ((i).toNat))).toNat)) ∧ (Xi U29 950 (((Xi U29 956 ((i).toNat))).toNat)) ≤ 5010 := hHU29.c _ _
          have e167 : (Xi U29 950 (((Xi U29 956 ((i).toNat))).toNat)) = Xi S 950 ((Xi U29 956 ((i).toNat))).toNat := by first | rfl | exact (hFU29.cx 950 rfl _).1
          refine l_aload_n rfl rfl ?_
          refine l_gfr rfl rfl rfl rfl rfl (hHU29.r 904 68 951 rfl) ?_
          refine l_iload rfl rfl ?_
          refine l_iaload (n := 2600) rfl rfl (by omega) (by omega) (by unfold rg; omega) ?_
          refine l_aload_n rfl rfl ?_
          refine l_iload rfl rfl ?_
          have w415 : Xi U29 904 106 = Xi T28 904 106 := (show Xi U29 904 106 = Xi T28 904 106 from by rw [eU29]; exact Xi_ne (by omega))
          have w416 : 0 ≤ Xi T28 904 106 ∧ Xi T28 904 106 ≤ 9 := hHT28.c _ _
          have w417 : Xi U29 904 113 = Xi T1 904 113 := (show Xi U29 904 113 = Xi T28 904 113 from by rw [eU29]; exact Xi_ne (by omega)).trans ((show Xi T28 904 113 = Xi T1 904 113 from w381.x _ _ rfl))
          have w418 : -1 ≤ Xi T1 904 113 ∧ Xi T1 904 113 ≤ 6411 := hHT1.c _ _
          have w419 : Xi U29 904 69 = Xi T1 904 69 := (show Xi U29 904 69 = Xi T28 904 69 from by rw [eU29]; exact Xi_ne (by omega)).trans ((show Xi T28 904 69 = Xi T1 904 69 from w381.x _ _ rfl))
          have w420 : 0 ≤ Xi T1 904 69 ∧ Xi T1 904 69 ≤ 2600 := hHT1.c _ _
          refine l_callV rfl rfl rfl (t_mo_kindOfThing hHU29 z380 ⟨by omega, by omega⟩ (by first | assumption | omega) _) ?_
          rintro _ _ ⟨rfl, z421, rfl, w421⟩
          show Rl _ _ _ _ _ [iv z421, iv (Xi U29 951 (((Xi U29 956 ((i).toNat))).toNat)), iv (Xi U29 950 (((Xi U29 956 ((i).toNat))).toNat)), .ref 904] _ _
          refine l_iload_n rfl rfl ?_
          refine l_if_ne rfl rfl (by unfold rg; omega) (fun w422 => ?_) (fun w423 => ?_)
          · refine l_iconst rfl ?_
            refine l_aload_n rfl rfl ?_
            refine l_gfr rfl rfl rfl rfl rfl (hHU29.r 904 83 953 rfl) ?_
            refine l_iload_n rfl rfl ?_
            refine l_baload (n := 1700) rfl rfl rfl (by decide) (by omega) (by omega) (by unfold rg; omega) ?_
            have w424 : 0 ≤ (Xi U29 953 ((i).toNat)) ∧ (Xi U29 953 ((i).toNat)) ≤ 1 := hHU29.c _ _
            refine l_if_ne rfl rfl (by unfold rg; omega) (fun w425 => ?_) (fun w426 => ?_)
            · refine l_iconst rfl ?_
              have w427 : Xi U29 904 106 = Xi T28 904 106 := (show Xi U29 904 106 = Xi T28 904 106 from by rw [eU29]; exact Xi_ne (by omega))
              have w428 : 0 ≤ Xi T28 904 106 ∧ Xi T28 904 106 ≤ 9 := hHT28.c _ _
              have w429 : Xi U29 904 113 = Xi T1 904 113 := (show Xi U29 904 113 = Xi T28 904 113 from by rw [eU29]; exact Xi_ne (by omega)).trans ((show Xi T28 904 113 = Xi T1 904 113 from w381.x _ _ rfl))
              have w430 : -1 ≤ Xi T1 904 113 ∧ Xi T1 904 113 ≤ 6411 := hHT1.c _ _
              have w431 : Xi U29 904 69 = Xi T1 904 69 := (show Xi U29 904 69 = Xi T28 904 69 from by rw [eU29]; exact Xi_ne (by omega)).trans ((show Xi T28 904 69 = Xi T1 904 69 from w381.x _ _ rfl))
              have w432 : 0 ≤ Xi T1 904 69 ∧ Xi T1 904 69 ≤ 2600 := hHT1.c _ _
              refine l_callV rfl rfl rfl (t_mo_adjective__2 hHU29 (Xi U29 950 (((Xi U29 956 ((i).toNat))).toNat)) (Xi U29 951 (((Xi U29 956 ((i).toNat))).toNat)) z421 0 0 ⟨by omega, by omega⟩ ⟨by omega, by omega⟩ ⟨by omega, by omega⟩ ⟨by omega, by omega⟩ ⟨by omega, by omega⟩ (by first | assumption | omega) (by first | assumption | exact (LXM_FR hFU29 rfl (by assumption : LXM S))) (by first | assumption | exact (ABV_FR hFU29 rfl (by assumption : ABV S))) (by first | assumption | exact (DCM_FR hFU29 rfl (by assumption : DCM S))) _) ?_
              rintro _ T30 ⟨hHT30, w436, z435, rfl, w435, w433, e204x, w434⟩
              have hFT30 : FR md_mo_testMeant S T30 := FR.tr hFU29 w436 rfl
              show Rl _ _ _ _ _ [iv z435] _ _
              have A204 : 1 ≤ z435 → ADX S (1 - isNow) (Xi T30 904 113) := fun x => ⟨by have t := (by assumption : 1 ≤ z435 → ADM T30 (Xi T30 904 113)) x; unfold ADM at *; rw [hFT30.x 904 23 rfl, hFT30.x 904 32 rfl] at t; exact t, fun y z => by have t := e204x x (by omega) z; rw [(hFU29.cx 922 rfl _).1] at t; exact t⟩
              clear e204x
              refine l_istore rfl rfl rfl ?_
              have w437 : Xi T30 969 (q).toNat = Xi T1 969 (q).toNat := (show Xi T30 969 (q).toNat = Xi U29 969 (q).toNat from (w436.cx 969 rfl _).1).trans ( (show Xi U29 969 (q).toNat = Xi T28 969 (q).toNat from by rw [eU29]; exact Xi_ne (by omega)).trans ((show Xi T28 969 (q).toNat = Xi T1 969 (q).toNat from (w381.cx 969 rfl _).1)))
              have w438 : Xi T30 971 (q).toNat = Xi U29 971 (q).toNat := (show Xi T30 971 (q).toNat = Xi U29 971 (q).toNat from (w436.cx 971 rfl _).1)
              have w439 : Xi T30 972 (q).toNat = Xi T1 972 (q).toNat := (show Xi T30 972 (q).toNat = Xi U29 972 (q).toNat from (w436.cx 972 rfl _).1).trans ( (show Xi U29 972 (q).toNat = Xi T28 972 (q).toNat from by rw [eU29]; exact Xi_ne (by omega)).trans ((show Xi T28 972 (q).toNat = Xi T1 972 (q).toNat from (w381.cx 972 rfl _).1)))
              have w440 : Xi T30 973 (q).toNat = Xi T1 973 (q).toNat := (show Xi T30 973 (q).toNat = Xi U29 973 (q).toNat from (w436.cx 973 rfl _).1).trans ( (show Xi U29 973 (q).toNat = Xi T28 973 (q).toNat from by rw [eU29]; exact Xi_ne (by omega)).trans ((show Xi T28 973 (q).toNat = Xi T1 973 (q).toNat from (w381.cx 973 rfl _).1)))
              have w441 : Xi T30 974 (q).toNat = Xi T1 974 (q).toNat := (show Xi T30 974 (q).toNat = Xi U29 974 (q).toNat from (w436.cx 974 rfl _).1).trans ( (show Xi U29 974 (q).toNat = Xi T28 974 (q).toNat from by rw [eU29]; exact Xi_ne (by omega)).trans ((show Xi T28 974 (q).toNat = Xi T1 974 (q).toNat from (w381.cx 974 rfl _).1)))
              have w442 : Xi T30 975 (q).toNat = Xi T1 975 (q).toNat := (show Xi T30 975 (q).toNat = Xi U29 975 (q).toNat from (w436.cx 975 rfl _).1).trans ( (show Xi U29 975 (q).toNat = Xi T28 975 (q).toNat from by rw [eU29]; exact Xi_ne (by omega)).trans ((show Xi T28 975 (q).toNat = Xi T1 975 (q).toNat from (w381.cx 975 rfl _).1)))
              have w443 : Xi T30 904 106 = Xi T28 904 106 := (show Xi T30 904 106 = Xi U29 904 106 from w436.x _ _ rfl).trans ((show Xi U29 904 106 = Xi T28 904 106 from by rw [eU29]; exact Xi_ne (by omega)))
              have w444 : 0 ≤ Xi T28 904 106 ∧ Xi T28 904 106 ≤ 9 := hHT28.c _ _
              have w445 : -1 ≤ Xi T30 904 113 ∧ Xi T30 904 113 ≤ 6411 := hHT30.c _ _
              have w446 : Xi T30 904 69 = Xi T1 904 69 := (show Xi T30 904 69 = Xi U29 904 69 from w436.x _ _ rfl).trans ( (show Xi U29 904 69 = Xi T28 904 69 from by rw [eU29]; exact Xi_ne (by omega)).trans ((show Xi T28 904 69 = Xi T1 904 69 from w381.x _ _ rfl)))
              have w447 : 0 ≤ Xi T1 904 69 ∧ Xi T1 904 69 ≤ 2600 := hHT1.c _ _
              exact Rl_weak (C209 T30 hHT30 hFT30 ((Xi U29 956 ((i).toNat))) (z435) (by omega) (by omega) (by omega) (by omega) (by omega) (by omega) (thk_c (th107 (by omega)) rfl (by omega)) (g151) (by first | exact A204 | exact fun x => absurd x (by omega)) ((KQ_FR w436 rfl (KQ.w (KQ_FR w381 rfl (by assumption : KQ T1 S _)) eU29 (by omega))))) (And.intro rfl (And.intro rfl (And.intro rfl (And.intro rfl (True.intro)))))
            · refine l_iconst rfl ?_
              refine l_goto rfl rfl ?_
              have w448 : Xi U29 904 106 = Xi T28 904 106 := (show Xi U29 904 106 = Xi T28 904 106 from by rw [eU29]; exact Xi_ne (by omega))
              have w449 : 0 ≤ Xi T28 904 106 ∧ Xi T28 904 106 ≤ 9 := hHT28.c _ _
              have w450 : Xi U29 904 113 = Xi T1 904 113 := (show Xi U29 904 113 = Xi T28 904 113 from by rw [eU29]; exact Xi_ne (by omega)).trans ((show Xi T28 904 113 = Xi T1 904 113 from w381.x _ _ rfl))
              have w451 : -1 ≤ Xi T1 904 113 ∧ Xi T1 904 113 ≤ 6411 := hHT1.c _ _
              have w452 : Xi U29 904 69 = Xi T1 904 69 := (show Xi U29 904 69 = Xi T28 904 69 from by rw [eU29]; exact Xi_ne (by omega)).trans ((show Xi T28 904 69 = Xi T1 904 69 from w381.x _ _ rfl))
              have w453 : 0 ≤ Xi T1 904 69 ∧ Xi T1 904 69 ≤ 2600 := hHT1.c _ _
              refine l_callV rfl rfl rfl (t_mo_adjective__2 hHU29 (Xi U29 950 (((Xi U29 956 ((i).toNat))).toNat)) (Xi U29 951 (((Xi U29 956 ((i).toNat))).toNat)) z421 0 1 ⟨by omega, by omega⟩ ⟨by omega, by omega⟩ ⟨by omega, by omega⟩ ⟨by omega, by omega⟩ ⟨by omega, by omega⟩ (by first | assumption | omega) (by first | assumption | exact (LXM_FR hFU29 rfl (by assumption : LXM S))) (by first | assumption | exact (ABV_FR hFU29 rfl (by assumption : ABV S))) (by first | assumption | exact (DCM_FR hFU29 rfl (by assumption : DCM S))) _) ?_
              rintro _ T31 ⟨hHT31, w457, z456, rfl, w456, w454, e204x, w455⟩
              have hFT31 : FR md_mo_testMeant S T31 := FR.tr hFU29 w457 rfl
              show Rl _ _ _ _ _ [iv z456] _ _
              have A204 : 1 ≤ z456 → ADX S (1 - isNow) (Xi T31 904 113) := fun x => ⟨by have t := (by assumption : 1 ≤ z456 → ADM T31 (Xi T31 904 113)) x; unfold ADM at *; rw [hFT31.x 904 23 rfl, hFT31.x 904 32 rfl] at t; exact t, fun y z => by have t := e204x x (by omega) z; rw [(hFU29.cx 922 rfl _).1] at t; exact t⟩
              clear e204x
              refine l_istore rfl rfl rfl ?_
              have w458 : Xi T31 969 (q).toNat = Xi T1 969 (q).toNat := (show Xi T31 969 (q).toNat = Xi U29 969 (q).toNat from (w457.cx 969 rfl _).1).trans ( (show Xi U29 969 (q).toNat = Xi T28 969 (q).toNat from by rw [eU29]; exact Xi_ne (by omega)).trans ((show Xi T28 969 (q).toNat = Xi T1 969 (q).toNat from (w381.cx 969 rfl _).1)))
              have w459 : Xi T31 971 (q).toNat = Xi U29 971 (q).toNat := (show Xi T31 971 (q).toNat = Xi U29 971 (q).toNat from (w457.cx 971 rfl _).1)
              have w460 : Xi T31 972 (q).toNat = Xi T1 972 (q).toNat := (show Xi T31 972 (q).toNat = Xi U29 972 (q).toNat from (w457.cx 972 rfl _).1).trans ( (show Xi U29 972 (q).toNat = Xi T28 972 (q).toNat from by rw [eU29]; exact Xi_ne (by omega)).trans ((show Xi T28 972 (q).toNat = Xi T1 972 (q).toNat from (w381.cx 972 rfl _).1)))
              have w461 : Xi T31 973 (q).toNat = Xi T1 973 (q).toNat := (show Xi T31 973 (q).toNat = Xi U29 973 (q).toNat from (w457.cx 973 rfl _).1).trans ( (show Xi U29 973 (q).toNat = Xi T28 973 (q).toNat from by rw [eU29]; exact Xi_ne (by omega)).trans ((show Xi T28 973 (q).toNat = Xi T1 973 (q).toNat from (w381.cx 973 rfl _).1)))
              have w462 : Xi T31 974 (q).toNat = Xi T1 974 (q).toNat := (show Xi T31 974 (q).toNat = Xi U29 974 (q).toNat from (w457.cx 974 rfl _).1).trans ( (show Xi U29 974 (q).toNat = Xi T28 974 (q).toNat from by rw [eU29]; exact Xi_ne (by omega)).trans ((show Xi T28 974 (q).toNat = Xi T1 974 (q).toNat from (w381.cx 974 rfl _).1)))
              have w463 : Xi T31 975 (q).toNat = Xi T1 975 (q).toNat := (show Xi T31 975 (q).toNat = Xi U29 975 (q).toNat from (w457.cx 975 rfl _).1).trans ( (show Xi U29 975 (q).toNat = Xi T28 975 (q).toNat from by rw [eU29]; exact Xi_ne (by omega)).trans ((show Xi T28 975 (q).toNat = Xi T1 975 (q).toNat from (w381.cx 975 rfl _).1)))
              have w464 : Xi T31 904 106 = Xi T28 904 106 := (show Xi T31 904 106 = Xi U29 904 106 from w457.x _ _ rfl).trans ((show Xi U29 904 106 = Xi T28 904 106 from by rw [eU29]; exact Xi_ne (by omega)))
              have w465 : 0 ≤ Xi T28 904 106 ∧ Xi T28 904 106 ≤ 9 := hHT28.c _ _
              have w466 : -1 ≤ Xi T31 904 113 ∧ Xi T31 904 113 ≤ 6411 := hHT31.c _ _
              have w467 : Xi T31 904 69 = Xi T1 904 69 := (show Xi T31 904 69 = Xi U29 904 69 from w457.x _ _ rfl).trans ( (show Xi U29 904 69 = Xi T28 904 69 from by rw [eU29]; exact Xi_ne (by omega)).trans ((show Xi T28 904 69 = Xi T1 904 69 from w381.x _ _ rfl)))
              have w468 : 0 ≤ Xi T1 904 69 ∧ Xi T1 904 69 ≤ 2600 := hHT1.c _ _
              exact Rl_weak (C209 T31 hHT31 hFT31 ((Xi U29 956 ((i).toNat))) (z456) (by omega) (by omega) (by omega) (by omega) (by omega) (by omega) (thk_c (th107 (by omega)) rfl (by omega)) (g151) (by first | exact A204 | exact fun x => absurd x (by omega)) ((KQ_FR w457 rfl (KQ.w (KQ_FR w381 rfl (by assumption : KQ T1 S _)) eU29 (by omega))))) (And.intro rfl (And.intro rfl (And.intro rfl (And.intro rfl (True.intro)))))
          · refine l_iconst rfl ?_
            refine l_goto rfl rfl ?_
            refine l_aload_n rfl rfl ?_
            refine l_gfr rfl rfl rfl rfl rfl (hHU29.r 904 83 953 rfl) ?_
            refine l_iload_n rfl rfl ?_
            refine l_baload (n := 1700) rfl rfl rfl (by decide) (by omega) (by omega) (by unfold rg; omega) ?_
            have w469 : 0 ≤ (Xi U29 953 ((i).toNat)) ∧ (Xi U29 953 ((i).toNat)) ≤ 1 := hHU29.c _ _
            refine l_if_ne rfl rfl (by unfold rg; omega) (fun w470 => ?_) (fun w471 => ?_)
            · refine l_iconst rfl ?_
              have w472 : Xi U29 904 106 = Xi T28 904 106 := (show Xi U29 904 106 = Xi T28 904 106 from by rw [eU29]; exact Xi_ne (by omega))
              have w473 : 0 ≤ Xi T28 904 106 ∧ Xi T28 904 106 ≤ 9 := hHT28.c _ _
              have w474 : Xi U29 904 113 = Xi T1 904 113 := (show Xi U29 904 113 = Xi T28 904 113 from by rw [eU29]; exact Xi_ne (by omega)).trans ((show Xi T28 904 113 = Xi T1 904 113 from w381.x _ _ rfl))
              have w475 : -1 ≤ Xi T1 904 113 ∧ Xi T1 904 113 ≤ 6411 := hHT1.c _ _
              have w476 : Xi U29 904 69 = Xi T1 904 69 := (show Xi U29 904 69 = Xi T28 904 69 from by rw [eU29]; exact Xi_ne (by omega)).trans ((show Xi T28 904 69 = Xi T1 904 69 from w381.x _ _ rfl))
              have w477 : 0 ≤ Xi T1 904 69 ∧ Xi T1 904 69 ≤ 2600 := hHT1.c _ _
              refine l_callV rfl rfl rfl (t_mo_adjective__2 hHU29 (Xi U29 950 (((Xi U29 956 ((i).toNat))).toNat)) (Xi U29 951 (((Xi U29 956 ((i).toNat))).toNat)) z421 1 0 ⟨by omega, by omega⟩ ⟨by omega, by omega⟩ ⟨by omega, by omega⟩ ⟨by omega, by omega⟩ ⟨by omega, by omega⟩ (by first | assumption | omega) (by first | assumption | exact (LXM_FR hFU29 rfl (by assumption : LXM S))) (by first | assumption | exact (ABV_FR hFU29 rfl (by assumption : ABV S))) (by first | assumption | exact (DCM_FR hFU29 rfl (by assumption : DCM S))) _) ?_
              rintro _ T32 ⟨hHT32, w481, z480, rfl, w480, w478, e204x, w479⟩
              have hFT32 : FR md_mo_testMeant S T32 := FR.tr hFU29 w481 rfl
              show Rl _ _ _ _ _ [iv z480] _ _
              have A204 : 1 ≤ z480 → ADX S (1 - isNow) (Xi T32 904 113) := fun x => ⟨by have t := (by assumption : 1 ≤ z480 → ADM T32 (Xi T32 904 113)) x; unfold ADM at *; rw [hFT32.x 904 23 rfl, hFT32.x 904 32 rfl] at t; exact t, fun y z => by have t := e204x x (by omega) z; rw [(hFU29.cx 922 rfl _).1] at t; exact t⟩
              clear e204x
              refine l_istore rfl rfl rfl ?_
              have w482 : Xi T32 969 (q).toNat = Xi T1 969 (q).toNat := (show Xi T32 969 (q).toNat = Xi U29 969 (q).toNat from (w481.cx 969 rfl _).1).trans ( (show Xi U29 969 (q).toNat = Xi T28 969 (q).toNat from by rw [eU29]; exact Xi_ne (by omega)).trans ((show Xi T28 969 (q).toNat = Xi T1 969 (q).toNat from (w381.cx 969 rfl _).1)))
              have w483 : Xi T32 971 (q).toNat = Xi U29 971 (q).toNat := (show Xi T32 971 (q).toNat = Xi U29 971 (q).toNat from (w481.cx 971 rfl _).1)
              have w484 : Xi T32 972 (q).toNat = Xi T1 972 (q).toNat := (show Xi T32 972 (q).toNat = Xi U29 972 (q).toNat from (w481.cx 972 rfl _).1).trans ( (show Xi U29 972 (q).toNat = Xi T28 972 (q).toNat from by rw [eU29]; exact Xi_ne (by omega)).trans ((show Xi T28 972 (q).toNat = Xi T1 972 (q).toNat from (w381.cx 972 rfl _).1)))
              have w485 : Xi T32 973 (q).toNat = Xi T1 973 (q).toNat := (show Xi T32 973 (q).toNat = Xi U29 973 (q).toNat from (w481.cx 973 rfl _).1).trans ( (show Xi U29 973 (q).toNat = Xi T28 973 (q).toNat from by rw [eU29]; exact Xi_ne (by omega)).trans ((show Xi T28 973 (q).toNat = Xi T1 973 (q).toNat from (w381.cx 973 rfl _).1)))
              have w486 : Xi T32 974 (q).toNat = Xi T1 974 (q).toNat := (show Xi T32 974 (q).toNat = Xi U29 974 (q).toNat from (w481.cx 974 rfl _).1).trans ( (show Xi U29 974 (q).toNat = Xi T28 974 (q).toNat from by rw [eU29]; exact Xi_ne (by omega)).trans ((show Xi T28 974 (q).toNat = Xi T1 974 (q).toNat from (w381.cx 974 rfl _).1)))
              have w487 : Xi T32 975 (q).toNat = Xi T1 975 (q).toNat := (show Xi T32 975 (q).toNat = Xi U29 975 (q).toNat from (w481.cx 975 rfl _).1).trans ( (show Xi U29 975 (q).toNat = Xi T28 975 (q).toNat from by rw [eU29]; exact Xi_ne (by omega)).trans ((show Xi T28 975 (q).toNat = Xi T1 975 (q).toNat from (w381.cx 975 rfl _).1)))
              have w488 : Xi T32 904 106 = Xi T28 904 106 := (show Xi T32 904 106 = Xi U29 904 106 from w481.x _ _ rfl).trans ((show Xi U29 904 106 = Xi T28 904 106 from by rw [eU29]; exact Xi_ne (by omega)))
              have w489 : 0 ≤ Xi T28 904 106 ∧ Xi T28 904 106 ≤ 9 := hHT28.c _ _
              have w490 : -1 ≤ Xi T32 904 113 ∧ Xi T32 904 113 ≤ 6411 := hHT32.c _ _
              have w491 : Xi T32 904 69 = Xi T1 904 69 := (show Xi T32 904 69 = Xi U29 904 69 from w481.x _ _ rfl).trans ( (show Xi U29 904 69 = Xi T28 904 69 from by rw [eU29]; exact Xi_ne (by omega)).trans ((show Xi T28 904 69 = Xi T1 904 69 from w381.x _ _ rfl)))
              have w492 : 0 ≤ Xi T1 904 69 ∧ Xi T1 904 69 ≤ 2600 := hHT1.c _ _
              exact Rl_weak (C209 T32 hHT32 hFT32 ((Xi U29 956 ((i).toNat))) (z480) (by omega) (by omega) (by omega) (by omega) (by omega) (by omega) (thk_c (th107 (by omega)) rfl (by omega)) (g151) (by first | exact A204 | exact fun x => absurd x (by omega)) ((KQ_FR w481 rfl (KQ.w (KQ_FR w381 rfl (by assumption : KQ T1 S _)) eU29 (by omega))))) (And.intro rfl (And.intro rfl (And.intro rfl (And.intro rfl (True.intro)))))
            · refine l_iconst rfl ?_
              refine l_goto rfl rfl ?_
              have w493 : Xi U29 904 106 = Xi T28 904 106 := (show Xi U29 904 106 = Xi T28 904 106 from by rw [eU29]; exact Xi_ne (by omega))
              have w494 : 0 ≤ Xi T28 904 106 ∧ Xi T28 904 106 ≤ 9 := hHT28.c _ _
              have w495 : Xi U29 904 113 = Xi T1 904 113 := (show Xi U29 904 113 = Xi T28 904 113 from by rw [eU29]; exact Xi_ne (by omega)).trans ((show Xi T28 904 113 = Xi T1 904 113 from w381.x _ _ rfl))
              have w496 : -1 ≤ Xi T1 904 113 ∧ Xi T1 904 113 ≤ 6411 := hHT1.c _ _
              have w497 : Xi U29 904 69 = Xi T1 904 69 := (show Xi U29 904 69 = Xi T28 904 69 from by rw [eU29]; exact Xi_ne (by omega)).trans ((show Xi T28 904 69 = Xi T1 904 69 from w381.x _ _ rfl))
              have w498 : 0 ≤ Xi T1 904 69 ∧ Xi T1 904 69 ≤ 2600 := hHT1.c _ _
              refine l_callV rfl rfl rfl (t_mo_adjective__2 hHU29 (Xi U29 950 (((Xi U29 956 ((i).toNat))).toNat)) (Xi U29 951 (((Xi U29 956 ((i).toNat))).toNat)) z421 1 1 ⟨by omega, by omega⟩ ⟨by omega, by omega⟩ ⟨by omega, by omega⟩ ⟨by omega, by omega⟩ ⟨by omega, by omega⟩ (by first | assumption | omega) (by first | assumption | exact (LXM_FR hFU29 rfl (by assumption : LXM S))) (by first | assumption | exact (ABV_FR hFU29 rfl (by assumption : ABV S))) (by first | assumption | exact (DCM_FR hFU29 rfl (by assumption : DCM S))) _) ?_
              rintro _ T33 ⟨hHT33, w502, z501, rfl, w501, w499, e204x, w500⟩
              have hFT33 : FR md_mo_testMeant S T33 := FR.tr hFU29 w502 rfl
              show Rl _ _ _ _ _ [iv z501] _ _
              have A204 : 1 ≤ z501 → ADX S (1 - isNow) (Xi T33 904 113) := fun x => ⟨by have t := (by assumption : 1 ≤ z501 → ADM T33 (Xi T33 904 113)) x; unfold ADM at *; rw [hFT33.x 904 23 rfl, hFT33.x 904 32 rfl] at t; exact t, fun y z => by have t := e204x x (by omega) z; rw [(hFU29.cx 922 rfl _).1] at t; exact t⟩
              clear e204x
              refine l_istore rfl rfl rfl ?_
              have w503 : Xi T33 969 (q).toNat = Xi T1 969 (q).toNat := (show Xi T33 969 (q).toNat = Xi U29 969 (q).toNat from (w502.cx 969 rfl _).1).trans ( (show Xi U29 969 (q).toNat = Xi T28 969 (q).toNat from by rw [eU29]; exact Xi_ne (by omega)).trans ((show Xi T28 969 (q).toNat = Xi T1 969 (q).toNat from (w381.cx 969 rfl _).1)))
              have w504 : Xi T33 971 (q).toNat = Xi U29 971 (q).toNat := (show Xi T33 971 (q).toNat = Xi U29 971 (q).toNat from (w502.cx 971 rfl _).1)
              have w505 : Xi T33 972 (q).toNat = Xi T1 972 (q).toNat := (show Xi T33 972 (q).toNat = Xi U29 972 (q).toNat from (w502.cx 972 rfl _).1).trans ( (show Xi U29 972 (q).toNat = Xi T28 972 (q).toNat from by rw [eU29]; exact Xi_ne (by omega)).trans ((show Xi T28 972 (q).toNat = Xi T1 972 (q).toNat from (w381.cx 972 rfl _).1)))
              have w506 : Xi T33 973 (q).toNat = Xi T1 973 (q).toNat := (show Xi T33 973 (q).toNat = Xi U29 973 (q).toNat from (w502.cx 973 rfl _).1).trans ( (show Xi U29 973 (q).toNat = Xi T28 973 (q).toNat from by rw [eU29]; exact Xi_ne (by omega)).trans ((show Xi T28 973 (q).toNat = Xi T1 973 (q).toNat from (w381.cx 973 rfl _).1)))
              have w507 : Xi T33 974 (q).toNat = Xi T1 974 (q).toNat := (show Xi T33 974 (q).toNat = Xi U29 974 (q).toNat from (w502.cx 974 rfl _).1).trans ( (show Xi U29 974 (q).toNat = Xi T28 974 (q).toNat from by rw [eU29]; exact Xi_ne (by omega)).trans ((show Xi T28 974 (q).toNat = Xi T1 974 (q).toNat from (w381.cx 974 rfl _).1)))
              have w508 : Xi T33 975 (q).toNat = Xi T1 975 (q).toNat := (show Xi T33 975 (q).toNat = Xi U29 975 (q).toNat from (w502.cx 975 rfl _).1).trans ( (show Xi U29 975 (q).toNat = Xi T28 975 (q).toNat from by rw [eU29]; exact Xi_ne (by omega)).trans ((show Xi T28 975 (q).toNat = Xi T1 975 (q).toNat from (w381.cx 975 rfl _).1)))
              have w509 : Xi T33 904 106 = Xi T28 904 106 := (show Xi T33 904 106 = Xi U29 904 106 from w502.x _ _ rfl).trans ((show Xi U29 904 106 = Xi T28 904 106 from by rw [eU29]; exact Xi_ne (by omega)))
              have w510 : 0 ≤ Xi T28 904 106 ∧ Xi T28 904 106 ≤ 9 := hHT28.c _ _
              have w511 : -1 ≤ Xi T33 904 113 ∧ Xi T33 904 113 ≤ 6411 := hHT33.c _ _
              have w512 : Xi T33 904 69 = Xi T1 904 69 := (show Xi T33 904 69 = Xi U29 904 69 from w502.x _ _ rfl).trans ( (show Xi U29 904 69 = Xi T28 904 69 from by rw [eU29]; exact Xi_ne (by omega)).trans ((show Xi T28 904 69 = Xi T1 904 69 from w381.x _ _ rfl)))
              have w513 : 0 ≤ Xi T1 904 69 ∧ Xi T1 904 69 ≤ 2600 := hHT1.c _ _
              exact Rl_weak (C209 T33 hHT33 hFT33 ((Xi U29 956 ((i).toNat))) (z501) (by omega) (by omega) (by omega) (by omega) (by omega) (by omega) (thk_c (th107 (by omega)) rfl (by omega)) (g151) (by first | exact A204 | exact fun x => absurd x (by omega)) ((KQ_FR w502 rfl (KQ.w (KQ_FR w381 rfl (by assumption : KQ T1 S _)) eU29 (by omega))))) (And.intro rfl (And.intro rfl (And.intro rfl (And.intro rfl (True.intro)))))
        · refine l_iconst rfl ?_
          refine l_goto rfl rfl ?_
          refine l_istore rfl rfl rfl ?_
          have w514 : Xi U29 969 (q).toNat = Xi T1 969 (q).toNat := (show Xi U29 969 (q).toNat = Xi T28 969 (q).toNat from by rw [eU29]; exact Xi_ne (by omega)).trans ((show Xi T28 969 (q).toNat = Xi T1 969 (q).toNat from (w381.cx 969 rfl _).1))
          have w515 : Xi U29 972 (q).toNat = Xi T1 972 (q).toNat := (show Xi U29 972 (q).toNat = Xi T28 972 (q).toNat from by rw [eU29]; exact Xi_ne (by omega)).trans ((show Xi T28 972 (q).toNat = Xi T1 972 (q).toNat from (w381.cx 972 rfl _).1))
          have w516 : Xi U29 973 (q).toNat = Xi T1 973 (q).toNat := (show Xi U29 973 (q).toNat = Xi T28 973 (q).toNat from by rw [eU29]; exact Xi_ne (by omega)).trans ((show Xi T28 973 (q).toNat = Xi T1 973 (q).toNat from (w381.cx 973 rfl _).1))
          have w517 : Xi U29 974 (q).toNat = Xi T1 974 (q).toNat := (show Xi U29 974 (q).toNat = Xi T28 974 (q).toNat from by rw [eU29]; exact Xi_ne (by omega)).trans ((show Xi T28 974 (q).toNat = Xi T1 974 (q).toNat from (w381.cx 974 rfl _).1))
          have w518 : Xi U29 975 (q).toNat = Xi T1 975 (q).toNat := (show Xi U29 975 (q).toNat = Xi T28 975 (q).toNat from by rw [eU29]; exact Xi_ne (by omega)).trans ((show Xi T28 975 (q).toNat = Xi T1 975 (q).toNat from (w381.cx 975 rfl _).1))
          have w519 : Xi U29 904 106 = Xi T28 904 106 := (show Xi U29 904 106 = Xi T28 904 106 from by rw [eU29]; exact Xi_ne (by omega))
          have w520 : 0 ≤ Xi T28 904 106 ∧ Xi T28 904 106 ≤ 9 := hHT28.c _ _
          have w521 : Xi U29 904 113 = Xi T1 904 113 := (show Xi U29 904 113 = Xi T28 904 113 from by rw [eU29]; exact Xi_ne (by omega)).trans ((show Xi T28 904 113 = Xi T1 904 113 from w381.x _ _ rfl))
          have w522 : -1 ≤ Xi T1 904 113 ∧ Xi T1 904 113 ≤ 6411 := hHT1.c _ _
          have w523 : Xi U29 904 69 = Xi T1 904 69 := (show Xi U29 904 69 = Xi T28 904 69 from by rw [eU29]; exact Xi_ne (by omega)).trans ((show Xi T28 904 69 = Xi T1 904 69 from w381.x _ _ rfl))
          have w524 : 0 ≤ Xi T1 904 69 ∧ Xi T1 904 69 ≤ 2600 := hHT1.c _ _
          exact Rl_weak (C209 U29 hHU29 hFU29 ((Xi U29 956 ((i).toNat))) (0) (by omega) (by omega) (by omega) (by omega) (by omega) (by omega) (thk_c (th107 (by omega)) rfl (by omega)) (g151) (by first | exact A204 | exact fun x => absurd x (by omega)) ((KQ.w (KQ_FR w381 rfl (by assumption : KQ T1 S _)) eU29 (by omega)))) (And.intro rfl (And.intro rfl (And.intro rfl (And.intro rfl (True.intro)))))
  refine l_aload_n rfl rfl ?_
  refine l_gfr rfl rfl rfl rfl rfl (hH.r 904 118 969 rfl) ?_
  refine l_iload_n rfl rfl ?_
  refine l_aload_n rfl rfl ?_
  refine l_gfr rfl rfl rfl rfl rfl (hH.r 904 82 952 rfl) ?_
  refine l_iload_n rfl rfl ?_
  refine l_iaload (n := 1700) rfl rfl (by omega) (by omega) (by unfold rg; omega) ?_
  have w525 : 0 ≤ (Xi S 952 ((i).toNat)) ∧ (Xi S 952 ((i).toNat)) ≤ 5 := hH.c _ _
  refine l_iastore (n := 2400) rfl rfl (by omega) (by omega) (by unfold rg; omega) ?_
  obtain ⟨U34, eU34⟩ : ∃ T : sS, T = uI S 969 ((q).toNat) (Int32.ofInt (Xi S 952 ((i).toNat))) := ⟨_, rfl⟩
  rw [← eU34]
  have hHU34 : HI U34 := by rw [eU34]; exact HI_w hH (show 0 ≤ (Xi S 952 ((i).toNat)) by omega) (show (Xi S 952 ((i).toNat)) ≤ 5 by omega)
  have hFU34 : FR md_mo_testMeant S U34 := by rw [eU34]; exact FR.wI hF (mdf_i (r := (969, 970, 0, 100000)) (List.mem_of_getElem? (i := 5) rfl) (inR_i (by omega) (by omega) (by omega) (by omega)))
  have w526 : Xi U34 969 ((q).toNat) = (Xi S 952 ((i).toNat)) := by rw [eU34]; exact Xi_same (by unfold rg; omega)
  refine l_aload_n rfl rfl ?_
  refine l_gfr rfl rfl rfl rfl rfl (hHU34.r 904 119 970 rfl) ?_
  refine l_iload_n rfl rfl ?_
  refine l_aload_n rfl rfl ?_
  refine l_gfr rfl rfl rfl rfl rfl (hHU34.r 904 83 953 rfl) ?_
  refine l_iload_n rfl rfl ?_
  refine l_baload (n := 1700) rfl rfl rfl (by decide) (by omega) (by omega) (by unfold rg; omega) ?_
  have w527 : 0 ≤ (Xi U34 953 ((i).toNat)) ∧ (Xi U34 953 ((i).toNat)) ≤ 1 := hHU34.c _ _
  refine l_bastoreZ1 (n := 2400) rfl rfl (by omega) (by omega) (by unfold rg; omega) ⟨by omega, by omega⟩ ?_
  obtain ⟨U35, eU35⟩ : ∃ T : sS, T = uI U34 970 ((q).toNat) (Int32.ofInt (Xi U34 953 ((i).toNat))) := ⟨_, rfl⟩
  rw [← eU35]
  have hHU35 : HI U35 := by rw [eU35]; exact HI_w hHU34 (show 0 ≤ (Xi U34 953 ((i).toNat)) by omega) (show (Xi U34 953 ((i).toNat)) ≤ 1 by omega)
  have hFU35 : FR md_mo_testMeant S U35 := by rw [eU35]; exact FR.wI hFU34 (mdf_i (r := (970, 971, 0, 100000)) (List.mem_of_getElem? (i := 6) rfl) (inR_i (by omega) (by omega) (by omega) (by omega)))
  have w528 : Xi U35 970 ((q).toNat) = (Xi U34 953 ((i).toNat)) := by rw [eU35]; exact Xi_same (by unfold rg; omega)
  refine l_aload_n rfl rfl ?_
  refine l_gfr rfl rfl rfl rfl rfl (hHU35.r 904 82 952 rfl) ?_
  refine l_iload_n rfl rfl ?_
  refine l_iaload (n := 1700) rfl rfl (by omega) (by omega) (by unfold rg; omega) ?_
  have w529 : (Xi U35 952 ((i).toNat)) = (Xi S 952 ((i).toNat)) := (show Xi U35 952 ((i).toNat) = Xi U34 952 ((i).toNat) from by rw [eU35]; exact Xi_ne (by omega)).trans ((show Xi U34 952 ((i).toNat) = Xi S 952 ((i).toNat) from by rw [eU34]; exact Xi_ne (by omega)))
  rw [w529]
  have e29 : (Xi S 952 ((i).toNat)) = Xi S 952 (i).toNat := by first | rfl | exact (hFU35.cx 952 rfl _).1 | exact (hFU34.cx 952 rfl _).1 | exact (hFS.cx 952 rfl _).1
  refine l_iconst rfl ?_
  refine l_icmp_ne rfl rfl (by unfold rg; omega) (by unfold rg; omega) (fun w530 => ?_) (fun w531 => ?_)
  · have w532 : Xi U35 969 (q).toNat = Xi U34 969 (q).toNat := (show Xi U35 969 (q).toNat = Xi U34 969 (q).toNat from by rw [eU35]; exact Xi_ne (by omega))
    have w533 : Xi U35 971 (q).toNat = Xi S 971 (q).toNat := (show Xi U35 971 (q).toNat = Xi U34 971 (q).toNat from by rw [eU35]; exact Xi_ne (by omega)).trans ((show Xi U34 971 (q).toNat = Xi S 971 (q).toNat from by rw [eU34]; exact Xi_ne (by omega)))
    have w534 : Xi U35 972 (q).toNat = Xi S 972 (q).toNat := (show Xi U35 972 (q).toNat = Xi U34 972 (q).toNat from by rw [eU35]; exact Xi_ne (by omega)).trans ((show Xi U34 972 (q).toNat = Xi S 972 (q).toNat from by rw [eU34]; exact Xi_ne (by omega)))
    have w535 : Xi U35 973 (q).toNat = Xi S 973 (q).toNat := (show Xi U35 973 (q).toNat = Xi U34 973 (q).toNat from by rw [eU35]; exact Xi_ne (by omega)).trans ((show Xi U34 973 (q).toNat = Xi S 973 (q).toNat from by rw [eU34]; exact Xi_ne (by omega)))
    have w536 : Xi U35 974 (q).toNat = Xi S 974 (q).toNat := (show Xi U35 974 (q).toNat = Xi U34 974 (q).toNat from by rw [eU35]; exact Xi_ne (by omega)).trans ((show Xi U34 974 (q).toNat = Xi S 974 (q).toNat from by rw [eU34]; exact Xi_ne (by omega)))
    have w537 : Xi U35 975 (q).toNat = Xi S 975 (q).toNat := (show Xi U35 975 (q).toNat = Xi U34 975 (q).toNat from by rw [eU35]; exact Xi_ne (by omega)).trans ((show Xi U34 975 (q).toNat = Xi S 975 (q).toNat from by rw [eU34]; exact Xi_ne (by omega)))
    have w538 : Xi U35 904 106 = Xi S 904 106 := (show Xi U35 904 106 = Xi U34 904 106 from by rw [eU35]; exact Xi_ne (by omega)).trans ((show Xi U34 904 106 = Xi S 904 106 from by rw [eU34]; exact Xi_ne (by omega)))
    have w539 : 0 ≤ Xi S 904 106 ∧ Xi S 904 106 ≤ 9 := hH.c _ _
    have w540 : Xi U35 904 113 = Xi S 904 113 := (show Xi U35 904 113 = Xi U34 904 113 from by rw [eU35]; exact Xi_ne (by omega)).trans ((show Xi U34 904 113 = Xi S 904 113 from by rw [eU34]; exact Xi_ne (by omega)))
    have w541 : -1 ≤ Xi S 904 113 ∧ Xi S 904 113 ≤ 6411 := hH.c _ _
    have w542 : Xi U35 904 69 = Xi S 904 69 := (show Xi U35 904 69 = Xi U34 904 69 from by rw [eU35]; exact Xi_ne (by omega)).trans ((show Xi U34 904 69 = Xi S 904 69 from by rw [eU34]; exact Xi_ne (by omega)))
    have w543 : 0 ≤ Xi S 904 69 ∧ Xi S 904 69 ≤ 2600 := hH.c _ _
    exact Rl_weak (C94 U35 hHU35 hFU35  (by omega) (by omega) (by omega) ((KQ.w (KQ.w KQ.rf eU34 (by omega)) eU35 (by omega))) (by omega)) (And.intro rfl (And.intro rfl (And.intro rfl (And.intro rfl (True.intro)))))
  · refine l_aload_n rfl rfl ?_
    refine l_gfr rfl rfl rfl rfl rfl (hHU35.r 904 91 961 rfl) ?_
    refine l_iload_n rfl rfl ?_
    refine l_iaload (n := 1700) rfl rfl (by omega) (by omega) (by unfold rg; omega) ?_
    have w544 : 0 ≤ (Xi U35 961 ((i).toNat)) ∧ (Xi U35 961 ((i).toNat)) ≤ 5010 := hHU35.c _ _
    have e39 : (Xi U35 961 ((i).toNat)) = Xi S 961 (i).toNat := by first | rfl | exact (hFU35.cx 961 rfl _).1 | exact (hFU34.cx 961 rfl _).1 | exact (hFS.cx 961 rfl _).1
    refine l_istore rfl rfl rfl ?_
    refine l_aload_n rfl rfl ?_
    refine l_iload rfl rfl ?_
    refine l_aload_n rfl rfl ?_
    refine l_gfr rfl rfl rfl rfl rfl (hHU35.r 904 92 962 rfl) ?_
    refine l_iload_n rfl rfl ?_
    refine l_iaload (n := 1700) rfl rfl (by omega) (by omega) (by unfold rg; omega) ?_
    have w545 : 0 ≤ (Xi U35 962 ((i).toNat)) ∧ (Xi U35 962 ((i).toNat)) ≤ 5010 := hHU35.c _ _
    have e50 : (Xi U35 962 ((i).toNat)) = Xi S 962 (i).toNat := by first | rfl | exact (hFU35.cx 962 rfl _).1 | exact (hFU34.cx 962 rfl _).1 | exact (hFS.cx 962 rfl _).1
    refine l_iload_n rfl rfl ?_
    have w546 : Xi U35 904 106 = Xi S 904 106 := (show Xi U35 904 106 = Xi U34 904 106 from by rw [eU35]; exact Xi_ne (by omega)).trans ((show Xi U34 904 106 = Xi S 904 106 from by rw [eU34]; exact Xi_ne (by omega)))
    have w547 : 0 ≤ Xi S 904 106 ∧ Xi S 904 106 ≤ 9 := hH.c _ _
    have w548 : Xi U35 904 113 = Xi S 904 113 := (show Xi U35 904 113 = Xi U34 904 113 from by rw [eU35]; exact Xi_ne (by omega)).trans ((show Xi U34 904 113 = Xi S 904 113 from by rw [eU34]; exact Xi_ne (by omega)))
    have w549 : -1 ≤ Xi S 904 113 ∧ Xi S 904 113 ≤ 6411 := hH.c _ _
    have w550 : Xi U35 904 69 = Xi S 904 69 := (show Xi U35 904 69 = Xi U34 904 69 from by rw [eU35]; exact Xi_ne (by omega)).trans ((show Xi U34 904 69 = Xi S 904 69 from by rw [eU34]; exact Xi_ne (by omega)))
    have w551 : 0 ≤ Xi S 904 69 ∧ Xi S 904 69 ≤ 2600 := hH.c _ _
    refine l_callV rfl rfl rfl (t_mo_sayings hHU35 (Xi U35 961 ((i).toNat)) (Xi U35 962 ((i).toNat)) q ⟨by omega, by omega⟩ ⟨by omega, by omega⟩ ⟨by omega, by omega⟩ (by first | assumption | exact (LXM_FR hFU35 rfl (by assumption : LXM S))) (by first | assumption | exact (ABV_FR hFU35 rfl (by assumption : ABV S))) (by first | assumption | omega) _) ?_
    rintro _ T36 ⟨hHT36, w554, z553, rfl, w553, f52, w552⟩
    have hFT36 : FR md_mo_testMeant S T36 := FR.tr hFU35 w554 rfl
    show Rl _ _ _ _ _ [iv z553] _ _
    have h52 : Xi T36 904 19 = Xi S 904 19 ∧ Xi T36 904 115 = Xi S 904 115 ∧ Xi T36 904 116 = Xi S 904 116 := ⟨hFT36.x 904 19 rfl, hFT36.x 904 115 rfl, hFT36.x 904 116 rfl⟩
    refine l_istore rfl rfl rfl ?_
    refine l_aload_n rfl rfl ?_
    refine l_iload rfl rfl ?_
    refine l_if_le rfl rfl (by unfold rg; omega) (fun w555 => ?_) (fun w556 => ?_)
    · refine l_iconst rfl ?_
      refine l_iconst rfl ?_
      refine l_iload rfl rfl ?_
      have w557 : Xi T36 904 106 = Xi S 904 106 := (show Xi T36 904 106 = Xi U35 904 106 from w554.x _ _ rfl).trans ( (show Xi U35 904 106 = Xi U34 904 106 from by rw [eU35]; exact Xi_ne (by omega)).trans ((show Xi U34 904 106 = Xi S 904 106 from by rw [eU34]; exact Xi_ne (by omega))))
      have w558 : 0 ≤ Xi S 904 106 ∧ Xi S 904 106 ≤ 9 := hH.c _ _
      have w559 : Xi T36 904 113 = Xi S 904 113 := (show Xi T36 904 113 = Xi U35 904 113 from w554.x _ _ rfl).trans ( (show Xi U35 904 113 = Xi U34 904 113 from by rw [eU35]; exact Xi_ne (by omega)).trans ((show Xi U34 904 113 = Xi S 904 113 from by rw [eU34]; exact Xi_ne (by omega))))
      have w560 : -1 ≤ Xi S 904 113 ∧ Xi S 904 113 ≤ 6411 := hH.c _ _
      have w561 : Xi T36 904 69 = Xi S 904 69 := (show Xi T36 904 69 = Xi U35 904 69 from w554.x _ _ rfl).trans ( (show Xi U35 904 69 = Xi U34 904 69 from by rw [eU35]; exact Xi_ne (by omega)).trans ((show Xi U34 904 69 = Xi S 904 69 from by rw [eU34]; exact Xi_ne (by omega))))
      have w562 : 0 ≤ Xi S 904 69 ∧ Xi S 904 69 ≤ 2600 := hH.c _ _
      refine l_callV rfl rfl rfl (t_mo_need hHT36 0 4 (Xi U35 961 ((i).toNat)) ⟨by omega, by omega⟩ ⟨by omega, by omega⟩ ⟨by omega, by omega⟩ _) ?_
      rintro _ T37 ⟨hHT37, w566, rfl, w563, w564⟩
      have hFT37 : FR md_mo_testMeant S T37 := FR.tr hFT36 w566 rfl
      show Rl _ _ _ _ _ [] _ _
      refine l_aload_n rfl rfl ?_
      refine l_iload rfl rfl ?_
      refine l_iconst rfl ?_
      refine l_icmp_ge rfl rfl (by unfold rg; omega) (by unfold rg; omega) (fun w567 => ?_) (fun w568 => ?_)
      · refine l_iconst rfl ?_
        refine l_bipush rfl rfl ?_
        refine l_iload rfl rfl ?_
        have w569 : 0 ≤ Xi T37 904 106 ∧ Xi T37 904 106 ≤ 9 := hHT37.c _ _
        have w570 : Xi T37 904 113 = Xi S 904 113 := (show Xi T37 904 113 = Xi T36 904 113 from w566.x _ _ rfl).trans ( (show Xi T36 904 113 = Xi U35 904 113 from w554.x _ _ rfl).trans ( (show Xi U35 904 113 = Xi U34 904 113 from by rw [eU35]; exact Xi_ne (by omega)).trans ((show Xi U34 904 113 = Xi S 904 113 from by rw [eU34]; exact Xi_ne (by omega)))))
        have w571 : -1 ≤ Xi S 904 113 ∧ Xi S 904 113 ≤ 6411 := hH.c _ _
        have w572 : Xi T37 904 69 = Xi S 904 69 := (show Xi T37 904 69 = Xi T36 904 69 from w566.x _ _ rfl).trans ( (show Xi T36 904 69 = Xi U35 904 69 from w554.x _ _ rfl).trans ( (show Xi U35 904 69 = Xi U34 904 69 from by rw [eU35]; exact Xi_ne (by omega)).trans ((show Xi U34 904 69 = Xi S 904 69 from by rw [eU34]; exact Xi_ne (by omega)))))
        have w573 : 0 ≤ Xi S 904 69 ∧ Xi S 904 69 ≤ 2600 := hH.c _ _
        refine l_callV rfl rfl rfl (t_mo_need hHT37 0 7 (Xi U35 961 ((i).toNat)) ⟨by omega, by omega⟩ ⟨by omega, by omega⟩ ⟨by omega, by omega⟩ _) ?_
        rintro _ T38 ⟨hHT38, w577, rfl, w574, w575⟩
        have hFT38 : FR md_mo_testMeant S T38 := FR.tr hFT37 w577 rfl
        show Rl _ _ _ _ _ [] _ _
        refine l_return rfl rfl ?_
        have w578 : Xi T38 969 (q).toNat = Xi U34 969 (q).toNat := (show Xi T38 969 (q).toNat = Xi T37 969 (q).toNat from (w577.cx 969 rfl _).1).trans ( (show Xi T37 969 (q).toNat = Xi T36 969 (q).toNat from (w566.cx 969 rfl _).1).trans ( (show Xi T36 969 (q).toNat = Xi U35 969 (q).toNat from (w554.cx 969 rfl _).1).trans ((show Xi U35 969 (q).toNat = Xi U34 969 (q).toNat from by rw [eU35]; exact Xi_ne (by omega)))))
        have w579 : Xi T38 971 (q).toNat = Xi T36 971 (q).toNat := (show Xi T38 971 (q).toNat = Xi T37 971 (q).toNat from (w577.cx 971 rfl _).1).trans ((show Xi T37 971 (q).toNat = Xi T36 971 (q).toNat from (w566.cx 971 rfl _).1))
        have w580 : Xi T38 972 (q).toNat = Xi T36 972 (q).toNat := (show Xi T38 972 (q).toNat = Xi T37 972 (q).toNat from (w577.cx 972 rfl _).1).trans ((show Xi T37 972 (q).toNat = Xi T36 972 (q).toNat from (w566.cx 972 rfl _).1))
        have w581 : Xi T38 973 (q).toNat = Xi S 973 (q).toNat := (show Xi T38 973 (q).toNat = Xi T37 973 (q).toNat from (w577.cx 973 rfl _).1).trans ( (show Xi T37 973 (q).toNat = Xi T36 973 (q).toNat from (w566.cx 973 rfl _).1).trans ( (show Xi T36 973 (q).toNat = Xi U35 973 (q).toNat from (w554.cx 973 rfl _).1).trans ( (show Xi U35 973 (q).toNat = Xi U34 973 (q).toNat from by rw [eU35]; exact Xi_ne (by omega)).trans ((show Xi U34 973 (q).toNat = Xi S 973 (q).toNat from by rw [eU34]; exact Xi_ne (by omega))))))
        have w582 : Xi T38 974 (q).toNat = Xi S 974 (q).toNat := (show Xi T38 974 (q).toNat = Xi T37 974 (q).toNat from (w577.cx 974 rfl _).1).trans ( (show Xi T37 974 (q).toNat = Xi T36 974 (q).toNat from (w566.cx 974 rfl _).1).trans ( (show Xi T36 974 (q).toNat = Xi U35 974 (q).toNat from (w554.cx 974 rfl _).1).trans ( (show Xi U35 974 (q).toNat = Xi U34 974 (q).toNat from by rw [eU35]; exact Xi_ne (by omega)).trans ((show Xi U34 974 (q).toNat = Xi S 974 (q).toNat from by rw [eU34]; exact Xi_ne (by omega))))))
        have w583 : Xi T38 975 (q).toNat = Xi T36 975 (q).toNat := (show Xi T38 975 (q).toNat = Xi T37 975 (q).toNat from (w577.cx 975 rfl _).1).trans ((show Xi T37 975 (q).toNat = Xi T36 975 (q).toNat from (w566.cx 975 rfl _).1))
        have w584 : 0 ≤ Xi T38 904 106 ∧ Xi T38 904 106 ≤ 9 := hHT38.c _ _
        have w585 : Xi T38 904 113 = Xi S 904 113 := (show Xi T38 904 113 = Xi T37 904 113 from w577.x _ _ rfl).trans ( (show Xi T37 904 113 = Xi T36 904 113 from w566.x _ _ rfl).trans ( (show Xi T36 904 113 = Xi U35 904 113 from w554.x _ _ rfl).trans ( (show Xi U35 904 113 = Xi U34 904 113 from by rw [eU35]; exact Xi_ne (by omega)).trans ((show Xi U34 904 113 = Xi S 904 113 from by rw [eU34]; exact Xi_ne (by omega))))))
        have w586 : -1 ≤ Xi S 904 113 ∧ Xi S 904 113 ≤ 6411 := hH.c _ _
        have w587 : Xi T38 904 69 = Xi S 904 69 := (show Xi T38 904 69 = Xi T37 904 69 from w577.x _ _ rfl).trans ( (show Xi T37 904 69 = Xi T36 904 69 from w566.x _ _ rfl).trans ( (show Xi T36 904 69 = Xi U35 904 69 from w554.x _ _ rfl).trans ( (show Xi U35 904 69 = Xi U34 904 69 from by rw [eU35]; exact Xi_ne (by omega)).trans ((show Xi U34 904 69 = Xi S 904 69 from by rw [eU34]; exact Xi_ne (by omega))))))
        have w588 : 0 ≤ Xi S 904 69 ∧ Xi S 904 69 ≤ 2600 := hH.c _ _
        exact ⟨hHT38, hFT38, rfl, (by omega), (by first | exact (fun _ q => syq_5 (f52 (by omega)) h52.1 h52.2.1 h52.2.2 (hFT38.x 904 19 rfl) (by omega) (by omega) (by omega) (by omega)) f52 | exact (fun _ q => tq_3 (by omega) (thk_c (H209) (hFT38.x 904 19 rfl) (by omega)) (adx_c (W209 (by omega)) (hFT38.x 904 23 rfl) (hFT38.x 904 32 rfl) (by omega))) W209 | exact (fun _ q => tq_4 (by omega) (thk_c (H277 (by omega)) (hFT38.x 904 19 rfl) (by omega))) q299 | exact (fun _ q => tq_2 (by omega) (thk_c (H328 (by omega)) (hFT38.x 904 19 rfl) (by omega)) (by have a := hFT38.x 904 32 rfl; omega) (fun _ => o386)) o386 | exact (fun _ q => tq_2 (by omega) (thk_c (H328 (by omega)) (hFT38.x 904 19 rfl) (by omega)) (by have a := hFT38.x 904 32 rfl; omega) (fun y => absurd y (by omega))) p337 | exact fun x => absurd x (by omega)), (by first | exact fun x y => ⟨Or.inr (Or.inr (by omega)), fun z => absurd z (by omega)⟩ | exact fun x y => ⟨by have t := hnf y; omega, fun z => absurd z (by omega)⟩ | exact (fun _ x0 => fun y => ⟨by omega, fun _ z => by rw [(hFT38.cx 922 rfl _).1, show Xi T38 973 (q).toNat = Xi S 904 113 by omega]; exact (W209 (by omega)).2 (by omega) (by omega)⟩) W209 | exact fun x => absurd x (by omega)), ((KQ_FR w577 rfl (KQ_FR w566 rfl (KQ.tr (KQ.w (KQ.w KQ.rf eU34 (by omega)) eU35 (by omega)) (by assumption : KQ T36 U35 _)))))⟩
      · refine l_iconst rfl ?_
        refine l_goto rfl rfl ?_
        refine l_bipush rfl rfl ?_
        refine l_iload rfl rfl ?_
        have w589 : 0 ≤ Xi T37 904 106 ∧ Xi T37 904 106 ≤ 9 := hHT37.c _ _
        have w590 : Xi T37 904 113 = Xi S 904 113 := (show Xi T37 904 113 = Xi T36 904 113 from w566.x _ _ rfl).trans ( (show Xi T36 904 113 = Xi U35 904 113 from w554.x _ _ rfl).trans ( (show Xi U35 904 113 = Xi U34 904 113 from by rw [eU35]; exact Xi_ne (by omega)).trans ((show Xi U34 904 113 = Xi S 904 113 from by rw [eU34]; exact Xi_ne (by omega)))))
        have w591 : -1 ≤ Xi S 904 113 ∧ Xi S 904 113 ≤ 6411 := hH.c _ _
        have w592 : Xi T37 904 69 = Xi S 904 69 := (show Xi T37 904 69 = Xi T36 904 69 from w566.x _ _ rfl).trans ( (show Xi T36 904 69 = Xi U35 904 69 from w554.x _ _ rfl).trans ( (show Xi U35 904 69 = Xi U34 904 69 from by rw [eU35]; exact Xi_ne (by omega)).trans ((show Xi U34 904 69 = Xi S 904 69 from by rw [eU34]; exact Xi_ne (by omega)))))
        have w593 : 0 ≤ Xi S 904 69 ∧ Xi S 904 69 ≤ 2600 := hH.c _ _
        refine l_callV rfl rfl rfl (t_mo_need hHT37 1 7 (Xi U35 961 ((i).toNat)) ⟨by omega, by omega⟩ ⟨by omega, by omega⟩ ⟨by omega, by omega⟩ _) ?_
        rintro _ T39 ⟨hHT39, w597, rfl, w594, w595⟩
        have hFT39 : FR md_mo_testMeant S T39 := FR.tr hFT37 w597 rfl
        show Rl _ _ _ _ _ [] _ _
        refine l_return rfl rfl ?_
        have w598 : Xi T39 969 (q).toNat = Xi U34 969 (q).toNat := (show Xi T39 969 (q).toNat = Xi T37 969 (q).toNat from (w597.cx 969 rfl _).1).trans ( (show Xi T37 969 (q).toNat = Xi T36 969 (q).toNat from (w566.cx 969 rfl _).1).trans ( (show Xi T36 969 (q).toNat = Xi U35 969 (q).toNat from (w554.cx 969 rfl _).1).trans ((show Xi U35 969 (q).toNat = Xi U34 969 (q).toNat from by rw [eU35]; exact Xi_ne (by omega)))))
        have w599 : Xi T39 971 (q).toNat = Xi T36 971 (q).toNat := (show Xi T39 971 (q).toNat = Xi T37 971 (q).toNat from (w597.cx 971 rfl _).1).trans ((show Xi T37 971 (q).toNat = Xi T36 971 (q).toNat from (w566.cx 971 rfl _).1))
        have w600 : Xi T39 972 (q).toNat = Xi T36 972 (q).toNat := (show Xi T39 972 (q).toNat = Xi T37 972 (q).toNat from (w597.cx 972 rfl _).1).trans ((show Xi T37 972 (q).toNat = Xi T36 972 (q).toNat from (w566.cx 972 rfl _).1))
        have w601 : Xi T39 973 (q).toNat = Xi S 973 (q).toNat := (show Xi T39 973 (q).toNat = Xi T37 973 (q).toNat from (w597.cx 973 rfl _).1).trans ( (show Xi T37 973 (q).toNat = Xi T36 973 (q).toNat from (w566.cx 973 rfl _).1).trans ( (show Xi T36 973 (q).toNat = Xi U35 973 (q).toNat from (w554.cx 973 rfl _).1).trans ( (show Xi U35 973 (q).toNat = Xi U34 973 (q).toNat from by rw [eU35]; exact Xi_ne (by omega)).trans ((show Xi U34 973 (q).toNat = Xi S 973 (q).toNat from by rw [eU34]; exact Xi_ne (by omega))))))
        have w602 : Xi T39 974 (q).toNat = Xi S 974 (q).toNat := (show Xi T39 974 (q).toNat = Xi T37 974 (q).toNat from (w597.cx 974 rfl _).1).trans ( (show Xi T37 974 (q).toNat = Xi T36 974 (q).toNat from (w566.cx 974 rfl _).1).trans ( (show Xi T36 974 (q).toNat = Xi U35 974 (q).toNat from (w554.cx 974 rfl _).1).trans ( (show Xi U35 974 (q).toNat = Xi U34 974 (q).toNat from by rw [eU35]; exact Xi_ne (by omega)).trans ((show Xi U34 974 (q).toNat = Xi S 974 (q).toNat from by rw [eU34]; exact Xi_ne (by omega))))))
        have w603 : Xi T39 975 (q).toNat = Xi T36 975 (q).toNat := (show Xi T39 975 (q).toNat = Xi T37 975 (q).toNat from (w597.cx 975 rfl _).1).trans ((show Xi T37 975 (q).toNat = Xi T36 975 (q).toNat from (w566.cx 975 rfl _).1))
        have w604 : 0 ≤ Xi T39 904 106 ∧ Xi T39 904 106 ≤ 9 := hHT39.c _ _
        have w605 : Xi T39 904 113 = Xi S 904 113 := (show Xi T39 904 113 = Xi T37 904 113 from w597.x _ _ rfl).trans ( (show Xi T37 904 113 = Xi T36 904 113 from w566.x _ _ rfl).trans ( (show Xi T36 904 113 = Xi U35 904 113 from w554.x _ _ rfl).trans ( (show Xi U35 904 113 = Xi U34 904 113 from by rw [eU35]; exact Xi_ne (by omega)).trans ((show Xi U34 904 113 = Xi S 904 113 from by rw [eU34]; exact Xi_ne (by omega))))))
        have w606 : -1 ≤ Xi S 904 113 ∧ Xi S 904 113 ≤ 6411 := hH.c _ _
        have w607 : Xi T39 904 69 = Xi S 904 69 := (show Xi T39 904 69 = Xi T37 904 69 from w597.x _ _ rfl).trans ( (show Xi T37 904 69 = Xi T36 904 69 from w566.x _ _ rfl).trans ( (show Xi T36 904 69 = Xi U35 904 69 from w554.x _ _ rfl).trans ( (show Xi U35 904 69 = Xi U34 904 69 from by rw [eU35]; exact Xi_ne (by omega)).trans ((show Xi U34 904 69 = Xi S 904 69 from by rw [eU34]; exact Xi_ne (by omega))))))
        have w608 : 0 ≤ Xi S 904 69 ∧ Xi S 904 69 ≤ 2600 := hH.c _ _
        exact ⟨hHT39, hFT39, rfl, (by omega), (by first | exact (fun _ q => syq_5 (f52 (by omega)) h52.1 h52.2.1 h52.2.2 (hFT39.x 904 19 rfl) (by omega) (by omega) (by omega) (by omega)) f52 | exact (fun _ q => tq_3 (by omega) (thk_c (H209) (hFT39.x 904 19 rfl) (by omega)) (adx_c (W209 (by omega)) (hFT39.x 904 23 rfl) (hFT39.x 904 32 rfl) (by omega))) W209 | exact (fun _ q => tq_4 (by omega) (thk_c (H277 (by omega)) (hFT39.x 904 19 rfl) (by omega))) q299 | exact (fun _ q => tq_2 (by omega) (thk_c (H328 (by omega)) (hFT39.x 904 19 rfl) (by omega)) (by have a := hFT39.x 904 32 rfl; omega) (fun _ => o386)) o386 | exact (fun _ q => tq_2 (by omega) (thk_c (H328 (by omega)) (hFT39.x 904 19 rfl) (by omega)) (by have a := hFT39.x 904 32 rfl; omega) (fun y => absurd y (by omega))) p337 | exact fun x => absurd x (by omega)), (by first | exact fun x y => ⟨Or.inr (Or.inr (by omega)), fun z => absurd z (by omega)⟩ | exact fun x y => ⟨by have t := hnf y; omega, fun z => absurd z (by omega)⟩ | exact (fun _ x0 => fun y => ⟨by omega, fun _ z => by rw [(hFT39.cx 922 rfl _).1, show Xi T39 973 (q).toNat = Xi S 904 113 by omega]; exact (W209 (by omega)).2 (by omega) (by omega)⟩) W209 | exact fun x => absurd x (by omega)), ((KQ_FR w597 rfl (KQ_FR w566 rfl (KQ.tr (KQ.w (KQ.w KQ.rf eU34 (by omega)) eU35 (by omega)) (by assumption : KQ T36 U35 _)))))⟩
    · refine l_iconst rfl ?_
      refine l_goto rfl rfl ?_
      refine l_iconst rfl ?_
      refine l_iload rfl rfl ?_
      have w609 : Xi T36 904 106 = Xi S 904 106 := (show Xi T36 904 106 = Xi U35 904 106 from w554.x _ _ rfl).trans ( (show Xi U35 904 106 = Xi U34 904 106 from by rw [eU35]; exact Xi_ne (by omega)).trans ((show Xi U34 904 106 = Xi S 904 106 from by rw [eU34]; exact Xi_ne (by omega))))
      have w610 : 0 ≤ Xi S 904 106 ∧ Xi S 904 106 ≤ 9 := hH.c _ _
      have w611 : Xi T36 904 113 = Xi S 904 113 := (show Xi T36 904 113 = Xi U35 904 113 from w554.x _ _ rfl).trans ( (show Xi U35 904 113 = Xi U34 904 113 from by rw [eU35]; exact Xi_ne (by omega)).trans ((show Xi U34 904 113 = Xi S 904 113 from by rw [eU34]; exact Xi_ne (by omega))))
      have w612 : -1 ≤ Xi S 904 113 ∧ Xi S 904 113 ≤ 6411 := hH.c _ _
      have w613 : Xi T36 904 69 = Xi S 904 69 := (show Xi T36 904 69 = Xi U35 904 69 from w554.x _ _ rfl).trans ( (show Xi U35 904 69 = Xi U34 904 69 from by rw [eU35]; exact Xi_ne (by omega)).trans ((show Xi U34 904 69 = Xi S 904 69 from by rw [eU34]; exact Xi_ne (by omega))))
      have w614 : 0 ≤ Xi S 904 69 ∧ Xi S 904 69 ≤ 2600 := hH.c _ _
      refine l_callV rfl rfl rfl (t_mo_need hHT36 1 4 (Xi U35 961 ((i).toNat)) ⟨by omega, by omega⟩ ⟨by omega, by omega⟩ ⟨by omega, by omega⟩ _) ?_
      rintro _ T40 ⟨hHT40, w618, rfl, w615, w616⟩
      have hFT40 : FR md_mo_testMeant S T40 := FR.tr hFT36 w618 rfl
      show Rl _ _ _ _ _ [] _ _
      refine l_aload_n rfl rfl ?_
      refine l_iload rfl rfl ?_
      refine l_iconst rfl ?_
      refine l_icmp_ge rfl rfl (by unfold rg; omega) (by unfold rg; omega) (fun w619 => ?_) (fun w620 => ?_)
      · refine l_iconst rfl ?_
        refine l_bipush rfl rfl ?_
        refine l_iload rfl rfl ?_
        have w621 : 0 ≤ Xi T40 904 106 ∧ Xi T40 904 106 ≤ 9 := hHT40.c _ _
        have w622 : Xi T40 904 113 = Xi S 904 113 := (show Xi T40 904 113 = Xi T36 904 113 from w618.x _ _ rfl).trans ( (show Xi T36 904 113 = Xi U35 904 113 from w554.x _ _ rfl).trans ( (show Xi U35 904 113 = Xi U34 904 113 from by rw [eU35]; exact Xi_ne (by omega)).trans ((show Xi U34 904 113 = Xi S 904 113 from by rw [eU34]; exact Xi_ne (by omega)))))
        have w623 : -1 ≤ Xi S 904 113 ∧ Xi S 904 113 ≤ 6411 := hH.c _ _
        have w624 : Xi T40 904 69 = Xi S 904 69 := (show Xi T40 904 69 = Xi T36 904 69 from w618.x _ _ rfl).trans ( (show Xi T36 904 69 = Xi U35 904 69 from w554.x _ _ rfl).trans ( (show Xi U35 904 69 = Xi U34 904 69 from by rw [eU35]; exact Xi_ne (by omega)).trans ((show Xi U34 904 69 = Xi S 904 69 from by rw [eU34]; exact Xi_ne (by omega)))))
        have w625 : 0 ≤ Xi S 904 69 ∧ Xi S 904 69 ≤ 2600 := hH.c _ _
        refine l_callV rfl rfl rfl (t_mo_need hHT40 0 7 (Xi U35 961 ((i).toNat)) ⟨by omega, by omega⟩ ⟨by omega, by omega⟩ ⟨by omega, by omega⟩ _) ?_
        rintro _ T41 ⟨hHT41, w629, rfl, w626, w627⟩
        have hFT41 : FR md_mo_testMeant S T41 := FR.tr hFT40 w629 rfl
        show Rl _ _ _ _ _ [] _ _
        refine l_return rfl rfl ?_
        have w630 : Xi T41 969 (q).toNat = Xi U34 969 (q).toNat := (show Xi T41 969 (q).toNat = Xi T40 969 (q).toNat from (w629.cx 969 rfl _).1).trans ( (show Xi T40 969 (q).toNat = Xi T36 969 (q).toNat from (w618.cx 969 rfl _).1).trans ( (show Xi T36 969 (q).toNat = Xi U35 969 (q).toNat from (w554.cx 969 rfl _).1).trans ((show Xi U35 969 (q).toNat = Xi U34 969 (q).toNat from by rw [eU35]; exact Xi_ne (by omega)))))
        have w631 : Xi T41 971 (q).toNat = Xi T36 971 (q).toNat := (show Xi T41 971 (q).toNat = Xi T40 971 (q).toNat from (w629.cx 971 rfl _).1).trans ((show Xi T40 971 (q).toNat = Xi T36 971 (q).toNat from (w618.cx 971 rfl _).1))
        have w632 : Xi T41 972 (q).toNat = Xi T36 972 (q).toNat := (show Xi T41 972 (q).toNat = Xi T40 972 (q).toNat from (w629.cx 972 rfl _).1).trans ((show Xi T40 972 (q).toNat = Xi T36 972 (q).toNat from (w618.cx 972 rfl _).1))
        have w633 : Xi T41 973 (q).toNat = Xi S 973 (q).toNat := (show Xi T41 973 (q).toNat = Xi T40 973 (q).toNat from (w629.cx 973 rfl _).1).trans ( (show Xi T40 973 (q).toNat = Xi T36 973 (q).toNat from (w618.cx 973 rfl _).1).trans ( (show Xi T36 973 (q).toNat = Xi U35 973 (q).toNat from (w554.cx 973 rfl _).1).trans ( (show Xi U35 973 (q).toNat = Xi U34 973 (q).toNat from by rw [eU35]; exact Xi_ne (by omega)).trans ((show Xi U34 973 (q).toNat = Xi S 973 (q).toNat from by rw [eU34]; exact Xi_ne (by omega))))))
        have w634 : Xi T41 974 (q).toNat = Xi S 974 (q).toNat := (show Xi T41 974 (q).toNat = Xi T40 974 (q).toNat from (w629.cx 974 rfl _).1).trans ( (show Xi T40 974 (q).toNat = Xi T36 974 (q).toNat from (w618.cx 974 rfl _).1).trans ( (show Xi T36 974 (q).toNat = Xi U35 974 (q).toNat from (w554.cx 974 rfl _).1).trans ( (show Xi U35 974 (q).toNat = Xi U34 974 (q).toNat from by rw [eU35]; exact Xi_ne (by omega)).trans ((show Xi U34 974 (q).toNat = Xi S 974 (q).toNat from by rw [eU34]; exact Xi_ne (by omega))))))
        have w635 : Xi T41 975 (q).toNat = Xi T36 975 (q).toNat := (show Xi T41 975 (q).toNat = Xi T40 975 (q).toNat from (w629.cx 975 rfl _).1).trans ((show Xi T40 975 (q).toNat = Xi T36 975 (q).toNat from (w618.cx 975 rfl _).1))
        have w636 : 0 ≤ Xi T41 904 106 ∧ Xi T41 904 106 ≤ 9 := hHT41.c _ _
        have w637 : Xi T41 904 113 = Xi S 904 113 := (show Xi T41 904 113 = Xi T40 904 113 from w629.x _ _ rfl).trans ( (show Xi T40 904 113 = Xi T36 904 113 from w618.x _ _ rfl).trans ( (show Xi T36 904 113 = Xi U35 904 113 from w554.x _ _ rfl).trans ( (show Xi U35 904 113 = Xi U34 904 113 from by rw [eU35]; exact Xi_ne (by omega)).trans ((show Xi U34 904 113 = Xi S 904 113 from by rw [eU34]; exact Xi_ne (by omega))))))
        have w638 : -1 ≤ Xi S 904 113 ∧ Xi S 904 113 ≤ 6411 := hH.c _ _
        have w639 : Xi T41 904 69 = Xi S 904 69 := (show Xi T41 904 69 = Xi T40 904 69 from w629.x _ _ rfl).trans ( (show Xi T40 904 69 = Xi T36 904 69 from w618.x _ _ rfl).trans ( (show Xi T36 904 69 = Xi U35 904 69 from w554.x _ _ rfl).trans ( (show Xi U35 904 69 = Xi U34 904 69 from by rw [eU35]; exact Xi_ne (by omega)).trans ((show Xi U34 904 69 = Xi S 904 69 from by rw [eU34]; exact Xi_ne (by omega))))))
        have w640 : 0 ≤ Xi S 904 69 ∧ Xi S 904 69 ≤ 2600 := hH.c _ _
        exact ⟨hHT41, hFT41, rfl, (by omega), (by first | exact (fun _ q => syq_5 (f52 (by omega)) h52.1 h52.2.1 h52.2.2 (hFT41.x 904 19 rfl) (by omega) (by omega) (by omega) (by omega)) f52 | exact (fun _ q => tq_3 (by omega) (thk_c (H209) (hFT41.x 904 19 rfl) (by omega)) (adx_c (W209 (by omega)) (hFT41.x 904 23 rfl) (hFT41.x 904 32 rfl) (by omega))) W209 | exact (fun _ q => tq_4 (by omega) (thk_c (H277 (by omega)) (hFT41.x 904 19 rfl) (by omega))) q299 | exact (fun _ q => tq_2 (by omega) (thk_c (H328 (by omega)) (hFT41.x 904 19 rfl) (by omega)) (by have a := hFT41.x 904 32 rfl; omega) (fun _ => o386)) o386 | exact (fun _ q => tq_2 (by omega) (thk_c (H328 (by omega)) (hFT41.x 904 19 rfl) (by omega)) (by have a := hFT41.x 904 32 rfl; omega) (fun y => absurd y (by omega))) p337 | exact fun x => absurd x (by omega)), (by first | exact fun x y => ⟨Or.inr (Or.inr (by omega)), fun z => absurd z (by omega)⟩ | exact fun x y => ⟨by have t := hnf y; omega, fun z => absurd z (by omega)⟩ | exact (fun _ x0 => fun y => ⟨by omega, fun _ z => by rw [(hFT41.cx 922 rfl _).1, show Xi T41 973 (q).toNat = Xi S 904 113 by omega]; exact (W209 (by omega)).2 (by omega) (by omega)⟩) W209 | exact fun x => absurd x (by omega)), ((KQ_FR w629 rfl (KQ_FR w618 rfl (KQ.tr (KQ.w (KQ.w KQ.rf eU34 (by omega)) eU35 (by omega)) (by assumption : KQ T36 U35 _)))))⟩
      · refine l_iconst rfl ?_
        refine l_goto rfl rfl ?_
        refine l_bipush rfl rfl ?_
        refine l_iload rfl rfl ?_
        have w641 : 0 ≤ Xi T40 904 106 ∧ Xi T40 904 106 ≤ 9 := hHT40.c _ _
        have w642 : Xi T40 904 113 = Xi S 904 113 := (show Xi T40 904 113 = Xi T36 904 113 from w618.x _ _ rfl).trans ( (show Xi T36 904 113 = Xi U35 904 113 from w554.x _ _ rfl).trans ( (show Xi U35 904 113 = Xi U34 904 113 from by rw [eU35]; exact Xi_ne (by omega)).trans ((show Xi U34 904 113 = Xi S 904 113 from by rw [eU34]; exact Xi_ne (by omega)))))
        have w643 : -1 ≤ Xi S 904 113 ∧ Xi S 904 113 ≤ 6411 := hH.c _ _
        have w644 : Xi T40 904 69 = Xi S 904 69 := (show Xi T40 904 69 = Xi T36 904 69 from w618.x _ _ rfl).trans ( (show Xi T36 904 69 = Xi U35 904 69 from w554.x _ _ rfl).trans ( (show Xi U35 904 69 = Xi U34 904 69 from by rw [eU35]; exact Xi_ne (by omega)).trans ((show Xi U34 904 69 = Xi S 904 69 from by rw [eU34]; exact Xi_ne (by omega)))))
        have w645 : 0 ≤ Xi S 904 69 ∧ Xi S 904 69 ≤ 2600 := hH.c _ _
        refine l_callV rfl rfl rfl (t_mo_need hHT40 1 7 (Xi U35 961 ((i).toNat)) ⟨by omega, by omega⟩ ⟨by omega, by omega⟩ ⟨by omega, by omega⟩ _) ?_
        rintro _ T42 ⟨hHT42, w649, rfl, w646, w647⟩
        have hFT42 : FR md_mo_testMeant S T42 := FR.tr hFT40 w649 rfl
        show Rl _ _ _ _ _ [] _ _
        refine l_return rfl rfl ?_
        have w650 : Xi T42 969 (q).toNat = Xi U34 969 (q).toNat := (show Xi T42 969 (q).toNat = Xi T40 969 (q).toNat from (w649.cx 969 rfl _).1).trans ( (show Xi T40 969 (q).toNat = Xi T36 969 (q).toNat from (w618.cx 969 rfl _).1).trans ( (show Xi T36 969 (q).toNat = Xi U35 969 (q).toNat from (w554.cx 969 rfl _).1).trans ((show Xi U35 969 (q).toNat = Xi U34 969 (q).toNat from by rw [eU35]; exact Xi_ne (by omega)))))
        have w651 : Xi T42 971 (q).toNat = Xi T36 971 (q).toNat := (show Xi T42 971 (q).toNat = Xi T40 971 (q).toNat from (w649.cx 971 rfl _).1).trans ((show Xi T40 971 (q).toNat = Xi T36 971 (q).toNat from (w618.cx 971 rfl _).1))
        have w652 : Xi T42 972 (q).toNat = Xi T36 972 (q).toNat := (show Xi T42 972 (q).toNat = Xi T40 972 (q).toNat from (w649.cx 972 rfl _).1).trans ((show Xi T40 972 (q).toNat = Xi T36 972 (q).toNat from (w618.cx 972 rfl _).1))
        have w653 : Xi T42 973 (q).toNat = Xi S 973 (q).toNat := (show Xi T42 973 (q).toNat = Xi T40 973 (q).toNat from (w649.cx 973 rfl _).1).trans ( (show Xi T40 973 (q).toNat = Xi T36 973 (q).toNat from (w618.cx 973 rfl _).1).trans ( (show Xi T36 973 (q).toNat = Xi U35 973 (q).toNat from (w554.cx 973 rfl _).1).trans ( (show Xi U35 973 (q).toNat = Xi U34 973 (q).toNat from by rw [eU35]; exact Xi_ne (by omega)).trans ((show Xi U34 973 (q).toNat = Xi S 973 (q).toNat from by rw [eU34]; exact Xi_ne (by omega))))))
        have w654 : Xi T42 974 (q).toNat = Xi S 974 (q).toNat := (show Xi T42 974 (q).toNat = Xi T40 974 (q).toNat from (w649.cx 974 rfl _).1).trans ( (show Xi T40 974 (q).toNat = Xi T36 974 (q).toNat from (w618.cx 974 rfl _).1).trans ( (show Xi T36 974 (q).toNat = Xi U35 974 (q).toNat from (w554.cx 974 rfl _).1).trans ( (show Xi U35 974 (q).toNat = Xi U34 974 (q).toNat from by rw [eU35]; exact Xi_ne (by omega)).trans ((show Xi U34 974 (q).toNat = Xi S 974 (q).toNat from by rw [eU34]; exact Xi_ne (by omega))))))
        have w655 : Xi T42 975 (q).toNat = Xi T36 975 (q).toNat := (show Xi T42 975 (q).toNat = Xi T40 975 (q).toNat from (w649.cx 975 rfl _).1).trans ((show Xi T40 975 (q).toNat = Xi T36 975 (q).toNat from (w618.cx 975 rfl _).1))
        have w656 : 0 ≤ Xi T42 904 106 ∧ Xi T42 904 106 ≤ 9 := hHT42.c _ _
        have w657 : Xi T42 904 113 = Xi S 904 113 := (show Xi T42 904 113 = Xi T40 904 113 from w649.x _ _ rfl).trans ( (show Xi T40 904 113 = Xi T36 904 113 from w618.x _ _ rfl).trans ( (show Xi T36 904 113 = Xi U35 904 113 from w554.x _ _ rfl).trans ( (show Xi U35 904 113 = Xi U34 904 113 from by rw [eU35]; exact Xi_ne (by omega)).trans ((show Xi U34 904 113 = Xi S 904 113 from by rw [eU34]; exact Xi_ne (by omega))))))
        have w658 : -1 ≤ Xi S 904 113 ∧ Xi S 904 113 ≤ 6411 := hH.c _ _
        have w659 : Xi T42 904 69 = Xi S 904 69 := (show Xi T42 904 69 = Xi T40 904 69 from w649.x _ _ rfl).trans ( (show Xi T40 904 69 = Xi T36 904 69 from w618.x _ _ rfl).trans ( (show Xi T36 904 69 = Xi U35 904 69 from w554.x _ _ rfl).trans ( (show Xi U35 904 69 = Xi U34 904 69 from by rw [eU35]; exact Xi_ne (by omega)).trans ((show Xi U34 904 69 = Xi S 904 69 from by rw [eU34]; exact Xi_ne (by omega))))))
        have w660 : 0 ≤ Xi S 904 69 ∧ Xi S 904 69 ≤ 2600 := hH.c _ _
        exact ⟨hHT42, hFT42, rfl, (by omega), (by first | exact (fun _ q => syq_5 (f52 (by omega)) h52.1 h52.2.1 h52.2.2 (hFT42.x 904 19 rfl) (by omega) (by omega) (by omega) (by omega)) f52 | exact (fun _ q => tq_3 (by omega) (thk_c (H209) (hFT42.x 904 19 rfl) (by omega)) (adx_c (W209 (by omega)) (hFT42.x 904 23 rfl) (hFT42.x 904 32 rfl) (by omega))) W209 | exact (fun _ q => tq_4 (by omega) (thk_c (H277 (by omega)) (hFT42.x 904 19 rfl) (by omega))) q299 | exact (fun _ q => tq_2 (by omega) (thk_c (H328 (by omega)) (hFT42.x 904 19 rfl) (by omega)) (by have a := hFT42.x 904 32 rfl; omega) (fun _ => o386)) o386 | exact (fun _ q => tq_2 (by omega) (thk_c (H328 (by omega)) (hFT42.x 904 19 rfl) (by omega)) (by have a := hFT42.x 904 32 rfl; omega) (fun y => absurd y (by omega))) p337 | exact fun x => absurd x (by omega)), (by first | exact fun x y => ⟨Or.inr (Or.inr (by omega)), fun z => absurd z (by omega)⟩ | exact fun x y => ⟨by have t := hnf y; omega, fun z => absurd z (by omega)⟩ | exact (fun _ x0 => fun y => ⟨by omega, fun _ z => by rw [(hFT42.cx 922 rfl _).1, show Xi T42 973 (q).toNat = Xi S 904 113 by omega]; exact (W209 (by omega)).2 (by omega) (by omega)⟩) W209 | exact fun x => absurd x (by omega)), ((KQ_FR w649 rfl (KQ_FR w618 rfl (KQ.tr (KQ.w (KQ.w KQ.rf eU34 (by omega)) eU35 (by omega)) (by assumption : KQ T36 U35 _)))))⟩
/-! SAFETY of the reference: tests and phrases of a sentence, meant -/
/-- entries of meant tests below m stay -/
def KQL (T S : sS) (m : Int) : Prop := ∀ i : Nat, (i : Int) < m → ∀ k : Nat, 969 ≤ k → k ≤ 975 → Xi T k i = Xi S k i
theorem KQL.rf {S : sS} {m : Int} : KQL S S m := fun _ _ _ _ _ => rfl
theorem KQL.tr {S T U : sS} {m m2 : Int} (h : KQL T S m) (g : KQL U T m2) (e : m ≤ m2) : KQL U S m := fun i hi k a b => (g i (by omega) k a b).trans (h i hi k a b)
theorem KQL.q {S T U : sS} {m q : Int} (h : KQL T S m) (g : KQ U T q) (e : m ≤ q) : KQL U S m := fun i hi k a b => (g i (by omega) k a b).trans (h i hi k a b)
theorem KQL_FR {l : List rec} {T U S : sS} {m : Int} (f : FR l T U) (e : kdis l [(969, 976)] = true) (h : KQL T S m) : KQL U S m := fun i hi k a b => (kdis_q f e k a b i).trans (h i hi k a b)
theorem tq_k {S T : sS} {b c : Prop} {q : Nat} (h : TQ S b c q) (hk : ∀ k : Nat, 969 ≤ k → k ≤ 975 → Xi T k q = Xi S k q) (e1 : Xi T 904 19 = Xi S 904 19) (e2 : Xi T 904 23 = Xi S 904 23) (e3 : Xi T 904 32 = Xi S 904 32) : TQ T b c q := by
  unfold TQ ADM thK at *
  rw [e1, e2, e3, hk 969 (by omega) (by omega), hk 971 (by omega) (by omega), hk 972 (by omega) (by omega), hk 973 (by omega) (by omega), hk 974 (by omega) (by omega), hk 975 (by omega) (by omega)]
  exact h
/-- the tests from f on, so many of them, are meant -/
def TQA (S : sS) (b c : Prop) (f v : Int) : Prop := ∀ j : Int, 0 ≤ j → j < v → TQ S b c (f + j).toNat
theorem TQA.mv {S T : sS} {b c : Prop} {f v : Int} (h : TQA S b c f v) (hk : ∀ j : Int, 0 ≤ j → j < v → ∀ k : Nat, 969 ≤ k → k ≤ 975 → Xi T k (f + j).toNat = Xi S k (f + j).toNat) (e1 : Xi T 904 19 = Xi S 904 19) (e2 : Xi T 904 23 = Xi S 904 23) (e3 : Xi T 904 32 = Xi S 904 32) : TQA T b c f v := fun j a d => tq_k (h j a d) (hk j a d) e1 e2 e3
theorem TQA.add {S : sS} {b c : Prop} {f v : Int} (h : TQA S b c f v) (g : TQ S b c (f + v).toNat) : TQA S b c f (v + 1) := fun j a d => by
  rcases (by omega : j < v ∨ j = v) with q | q
  · exact h j a q
  · rw [q]; exact g
theorem TQA.b {S : sS} {b c b2 c2 : Prop} {f v : Int} (h : TQA S b c f v) (hb : b → b2) (hc : c → c2) : TQA S b2 c2 f v := fun j a d => (h j a d).mono hb hc
def PQt (S : sS) (c : Prop) (w : Int) (q : Nat) : Prop := (w = 0 → 0 ≤ Xi S 973 q ∧ 0 ≤ Xi S 974 q ∧ Xi S 973 q + Xi S 974 q ≤ 5000) ∧ (w = 1 → NQ S c q) ∧ (w = 2 → thK S False c (Xi S 971 q) ∧ thK S False c (Xi S 975 q)) ∧ (w = 3 ∨ w = 4 → thK S False c (Xi S 971 q) ∧ 0 ≤ Xi S 972 q ∧ Xi S 972 q < Xi S 904 32 ∧ Xi S 928 (Xi S 972 q).toNat ≠ 1) ∧
  (w = 5 → (0 ≤ Xi S 972 q ∧ Xi S 972 q < Xi S 904 49) ∧ (Xi S 970 q = 0 → thK S False c (Xi S 971 q)) ∧ (Xi S 970 q ≠ 0 → Xi S 942 (Xi S 972 q).toNat < 0))
theorem pq_i {S : sS} {c : Prop} {i q : Nat} {w : Int} (h : PQt S c w q) (e1 : Xi S 976 i = w) (e2 : Xi S 977 i = q) (h4 : q < 2400) : PQ S c i := by
  unfold PQ
  rw [e1, e2]
  exact ⟨by omega, h⟩
theorem pqt_0 {S : sS} {c : Prop} {q : Nat} (h : 0 ≤ Xi S 973 q ∧ 0 ≤ Xi S 974 q ∧ Xi S 973 q + Xi S 974 q ≤ 5000) : PQt S c 0 q := ⟨fun _ => h, fun e => absurd e (by decide), fun e => absurd e (by decide), fun e => absurd e (by decide), fun e => absurd e (by decide)⟩
theorem pqt_1 {S : sS} {c : Prop} {q : Nat} (h : NQ S c q) : PQt S c 1 q := ⟨fun e => absurd e (by decide), fun _ => h, fun e => absurd e (by decide), fun e => absurd e (by decide), fun e => absurd e (by decide)⟩
theorem pqt_2 {S : sS} {c : Prop} {q : Nat} (h : thK S False c (Xi S 971 q)) (h2 : thK S False c (Xi S 975 q)) : PQt S c 2 q := ⟨fun e => absurd e (by decide), fun e => absurd e (by decide), fun _ => ⟨h, h2⟩, fun e => absurd e (by decide), fun e => absurd e (by decide)⟩
theorem pqt_3 {S : sS} {c : Prop} {q : Nat} {w : Int} (hw : w = 3 ∨ w = 4) (h : thK S False c (Xi S 971 q)) (h2 : 0 ≤ Xi S 972 q ∧ Xi S 972 q < Xi S 904 32) (h3 : Xi S 928 (Xi S 972 q).toNat ≠ 1) : PQt S c w q := ⟨fun e => by omega, fun e => by omega, fun e => by omega, fun _ => ⟨h, h2.1, h2.2, h3⟩, fun e => by omega⟩
theorem pqt_5 {S : sS} {c : Prop} {q : Nat} (h : 0 ≤ Xi S 972 q ∧ Xi S 972 q < Xi S 904 49) (h2 : Xi S 970 q = 0 → thK S False c (Xi S 971 q)) (h3 : Xi S 970 q ≠ 0 → Xi S 942 (Xi S 972 q).toNat < 0) : PQt S c 5 q := ⟨fun e => absurd e (by decide), fun e => absurd e (by decide), fun e => absurd e (by decide), fun e => absurd e (by decide), fun _ => ⟨h, h2, h3⟩⟩
theorem pqt_6 {S : sS} {c : Prop} {q : Nat} : PQt S c 6 q := ⟨fun e => absurd e (by decide), fun e => absurd e (by decide), fun e => absurd e (by decide), fun e => absurd e (by decide), fun e => absurd e (by decide)⟩
/-- other phrases than p stay -/
def KH (T S : sS) (p : Int) : Prop := ∀ i : Nat, (i : Int) ≠ p → Xi T 976 i = Xi S 976 i ∧ Xi T 977 i = Xi S 977 i
theorem KH.w2 {S U1 U2 : sS} {p : Int} {j : Nat} {v w : Int32} (e1 : U1 = uI S 976 j v) (e2 : U2 = uI U1 977 j w) (hj : (j : Int) = p) : KH U2 S p := fun i hi => by
  rw [e2, Xi_ne (by omega), Xi_ne (by omega), e1, Xi_ne (by omega), Xi_ne (by omega)]
  exact ⟨rfl, rfl⟩
theorem KH_FR {l : List rec} {T U S : sS} {p : Int} (f : FR l T U) (e : kdis l [(976, 978)] = true) (h : KH T S p) : KH U S p := fun i hi => by
  have q := f.smk e
  rw [q.x 976 rfl, q.x 977 rfl]
  exact h i hi
theorem TV_FR {l : List rec} {S T : sS} {n i : Nat} (h : FR l S T) (e : (kdis l [(907, 908), (952, 963)] && mD l [69]) = true) (hq : TV S n i) : TV T n i := (TVA_FR (m := (i : Int) + 1) h e (S := S) (T := T) (n := n) |> fun f => by
  rw [Bool.and_eq_true] at e
  have k := h.smk e.1
  refine hq.mv (fun k2 a b => ?_) (by rw [mD_x h e.2 69 (by decide)]; exact Int.le_refl _) (fun j => k.x 907 rfl j)
  rcases (by omega : k2 = 952 ∨ k2 = 953 ∨ k2 = 954 ∨ k2 = 955 ∨ k2 = 956 ∨ k2 = 957 ∨ k2 = 958 ∨ k2 = 959 ∨ k2 = 960 ∨ k2 = 961 ∨ k2 = 962) with h | h | h | h | h | h | h | h | h | h | h <;> subst h <;> exact k.x _ rfl i)
def md_mo_testsMeant : List rec := [(904, 905, 64, 65), (904, 905, 104, 105), (904, 905, 105, 106), (904, 905, 106, 107), (904, 905, 113, 114), (969, 970, 0, 100000), (970, 971, 0, 100000), (971, 972, 0, 100000), (972, 973, 0, 100000), (973, 974, 0, 100000), (974, 975, 0, 100000), (975, 976, 0, 100000)]
abbrev Q_mo_testsMeant (S : sS) (n : Nat) : pst := fun r S1 => HI S1 ∧ FR md_mo_testsMeant S S1 ∧ (r = none ∧ (Xi S 904 106 ≠ 0 → Xi S1 904 106 ≠ 0) ∧ (Xi S1 904 106 = 0 → Xi S 904 94 ≤ 6 ∧ TQA S1 (0 ≤ Xi S 904 115) (0 ≤ Xi S 904 116) (Xi S 904 117) (Xi S 904 94)) ∧ (KQL S1 S (Xi S 904 117)))
set_option maxRecDepth 100000 in
theorem t_mo_testsMeant {S : sS} (hH : HI S) (n : Nat) (hT : TK S n) (hv : RNV S n) (hM : LXM S) (hB : ABV S) (hC : DCM S) (hK : TXK S n) (htv : TVA S n (Xi S 904 94)) (h94 : Xi S 904 94 ≤ 1668) (d : Nat) : Mt lay0 (d + 8) m_mo_testsMeant [.ref 904] S (Q_mo_testsMeant S n) := by
  refine Mt_R rfl rfl ?_
  have hF : FR md_mo_testsMeant S S := FR.rf
  have w1 : 0 ≤ Xi S 904 106 ∧ Xi S 904 106 ≤ 9 := hH.c _ _
  have w2 : -1 ≤ Xi S 904 115 ∧ Xi S 904 115 ≤ 15 := hH.c _ _
  have w3 : -1 ≤ Xi S 904 116 ∧ Xi S 904 116 ≤ 15 := hH.c _ _
  have w4 : 0 ≤ Xi S 904 117 ∧ Xi S 904 117 ≤ 480 := hH.c _ _
  have w5 : 0 ≤ Xi S 904 94 ∧ Xi S 904 94 ≤ 1700 := hH.c _ _
  have hn5 := hT.1
  have hc94 : 0 ≤ Xi S 904 94 := (hH.c 904 94).1
  have hc117 : 0 ≤ Xi S 904 117 ∧ Xi S 904 117 ≤ 480 := hH.c _ _
  have hfi : ∀ j : Int, 0 ≤ j → j < Xi S 904 94 → Xi S 961 j.toNat ≤ n := fun j a b => by have t := (htv j.toNat (by omega)).1; omega
  have C2 : ∀ (n2 : Nat) (T1 : sS) (_ : HI T1) (_ : FR md_mo_testsMeant S T1) (v1 : Int), (0 ≤ v1 ∧ v1 ≤ 1700) → (Xi T1 904 94 = Xi S 904 94) → (Xi T1 904 117 = Xi S 904 117) → (v1 ≤ Xi S 904 94) → (Xi S 904 106 ≠ 0 → Xi T1 904 106 ≠ 0) → (Xi T1 904 106 = 0 → v1 ≤ 6 ∧ TQA T1 (0 ≤ Xi S 904 115) (0 ≤ Xi S 904 116) (Xi S 904 117) v1) → (KQL T1 S (Xi S 904 117)) → n2 = (1701 - v1).toNat → Rl lay0 (d + 7) m_mo_testsMeant 2 [(0, .ref 904), (1, iv v1)] [] T1 (Q_mo_testsMeant S n) := by
    intro n2
    induction n2 using Nat.strongRecOn with
    | ind n2 ih2 =>
      intro T1 hHT1 hFT1 v1 w6 w7 w8 w9 w10 E2 K2 hm2
      have w11 : Xi T1 904 115 = Xi S 904 115 := hFT1.x _ _ rfl
      have w12 : Xi T1 904 116 = Xi S 904 116 := hFT1.x _ _ rfl
      have w13 : Xi T1 904 117 = Xi S 904 117 := hFT1.x _ _ rfl
      have w14 : Xi T1 904 94 = Xi S 904 94 := hFT1.x _ _ rfl
      have w15 : 0 ≤ Xi T1 904 106 ∧ Xi T1 904 106 ≤ 9 := hHT1.c _ _
      have w16 : 0 ≤ Xi T1 904 117 ∧ Xi T1 904 117 ≤ 480 := hHT1.c _ _
      have w17 : 0 ≤ Xi T1 904 94 ∧ Xi T1 904 94 ≤ 1700 := hHT1.c _ _
      refine l_iload_n rfl rfl ?_
      refine l_aload_n rfl rfl ?_
      refine l_gfi rfl rfl rfl rfl rfl ?_
      refine l_icmp_ge rfl rfl (by unfold rg; omega) (by unfold rg; omega) (fun w18 => ?_) (fun w19 => ?_)
      · refine l_return rfl rfl ?_
        have w20 : 0 ≤ Xi T1 904 106 ∧ Xi T1 904 106 ≤ 9 := hHT1.c _ _
        have w21 : 0 ≤ Xi T1 904 117 ∧ Xi T1 904 117 ≤ 480 := hHT1.c _ _
        have w22 : 0 ≤ Xi T1 904 94 ∧ Xi T1 904 94 ≤ 1700 := hHT1.c _ _
        exact ⟨hHT1, hFT1, rfl, (by omega), (fun x => by rw [show Xi S 904 94 = v1 by omega]; exact E2 x), (K2)⟩
      · refine l_aload_n rfl rfl ?_
        refine l_iload_n rfl rfl ?_
        refine l_bipush rfl rfl ?_
        refine l_icmp_ge rfl rfl (by unfold rg; omega) (by unfold rg; omega) (fun w23 => ?_) (fun w24 => ?_)
        · refine l_iconst rfl ?_
          refine l_bipush rfl rfl ?_
          refine l_aload_n rfl rfl ?_
          refine l_gfr rfl rfl rfl rfl rfl (hHT1.r 904 91 961 rfl) ?_
          refine l_iload_n rfl rfl ?_
          refine l_iaload (n := 1700) rfl rfl (by omega) (by omega) (by unfold rg; omega) ?_
          have w25 : 0 ≤ (Xi T1 961 ((v1).toNat)) ∧ (Xi T1 961 ((v1).toNat)) ≤ 5010 := hHT1.c _ _
          have e29 : (Xi T1 961 ((v1).toNat)) = Xi S 961 (v1).toNat := by first | rfl | exact (hFT1.cx 961 rfl _).1
          have f29 := hfi v1 (by omega) (by omega)
          have w26 : 0 ≤ Xi T1 904 106 ∧ Xi T1 904 106 ≤ 9 := hHT1.c _ _
          have w27 : 0 ≤ Xi T1 904 117 ∧ Xi T1 904 117 ≤ 480 := hHT1.c _ _
          have w28 : 0 ≤ Xi T1 904 94 ∧ Xi T1 904 94 ≤ 1700 := hHT1.c _ _
          refine l_callV rfl rfl rfl (t_mo_need hHT1 0 9 (Xi T1 961 ((v1).toNat)) ⟨by omega, by omega⟩ ⟨by omega, by omega⟩ ⟨by omega, by omega⟩ _) ?_
          rintro _ T2 ⟨hHT2, w32, rfl, w29, w30⟩
          have hFT2 : FR md_mo_testsMeant S T2 := FR.tr hFT1 w32 rfl
          show Rl _ _ _ _ _ [] _ _
          have k30 : KQL T2 S (Xi S 904 117) := KQL_FR (by assumption : FR md_mo_need T1 T2) rfl K2
          have T30 : Xi T2 904 106 = 0 → TQA T2 (0 ≤ Xi S 904 115) (0 ≤ Xi S 904 116) (Xi S 904 117) v1 := fun x => (E2 (by omega)).2.mv (fun j _ _ k a b => kdis_q (by assumption : FR md_mo_need T1 T2) rfl k a b _) ((by assumption : FR md_mo_need T1 T2).x 904 19 rfl) ((by assumption : FR md_mo_need T1 T2).x 904 23 rfl) ((by assumption : FR md_mo_need T1 T2).x 904 32 rfl)
          refine l_aload_n rfl rfl ?_
          refine l_iload_n rfl rfl ?_
          refine l_aload_n rfl rfl ?_
          refine l_gfi rfl rfl rfl rfl rfl ?_
          have w33 : (Xi T2 904 117) = (Xi T1 904 117) := (show Xi T2 904 117 = Xi T1 904 117 from w32.x _ _ rfl)
          rw [w33]
          refine l_iload_n rfl rfl ?_
          refine l_iadd rfl ?_
          refine l_iconst rfl ?_
          have w34 : 0 ≤ Xi T2 904 106 ∧ Xi T2 904 106 ≤ 9 := hHT2.c _ _
          have w35 : Xi T2 904 115 = Xi T1 904 115 := (show Xi T2 904 115 = Xi T1 904 115 from w32.x _ _ rfl)
          have w36 : -1 ≤ Xi T1 904 115 ∧ Xi T1 904 115 ≤ 15 := hHT1.c _ _
          have w37 : Xi T2 904 116 = Xi T1 904 116 := (show Xi T2 904 116 = Xi T1 904 116 from w32.x _ _ rfl)
          have w38 : -1 ≤ Xi T1 904 116 ∧ Xi T1 904 116 ≤ 15 := hHT1.c _ _
          have w39 : Xi T2 904 117 = Xi T1 904 117 := (show Xi T2 904 117 = Xi T1 904 117 from w32.x _ _ rfl)
          have w40 : 0 ≤ Xi T1 904 117 ∧ Xi T1 904 117 ≤ 480 := hHT1.c _ _
          have w41 : Xi T2 904 94 = Xi T1 904 94 := (show Xi T2 904 94 = Xi T1 904 94 from w32.x _ _ rfl)
          have w42 : 0 ≤ Xi T1 904 94 ∧ Xi T1 904 94 ≤ 1700 := hHT1.c _ _
          refine l_callV rfl rfl rfl (t_mo_testMeant hHT2 n v1 ((Xi T1 904 117) + v1) 0 ⟨by omega, by omega⟩ ⟨by omega, by omega⟩ ⟨by omega, by omega⟩ (by first | assumption | exact (TK_FR hFT2 rfl (by assumption : TK S _))) (by first | assumption | exact (RNV_FR hFT2 rfl (by assumption : RNV S _))) (by first | assumption | exact (LXM_FR hFT2 rfl (by assumption : LXM S))) (by first | assumption | exact (ABV_FR hFT2 rfl (by assumption : ABV S))) (by first | assumption | exact (DCM_FR hFT2 rfl (by assumption : DCM S))) (by first | assumption | exact (TXK_FR hFT2 rfl (by assumption : TXK S _))) ((TVA_FR hFT2 rfl htv) (v1).toNat (by omega)) (fun x => absurd x (by decide)) _) ?_
          rintro _ T3 ⟨hHT3, w46, rfl, w43, tq42, w44, kq42⟩
          have hFT3 : FR md_mo_testsMeant S T3 := FR.tr hFT2 w46 rfl
          show Rl _ _ _ _ _ [] _ _
          have k42 : KQL T3 S (Xi S 904 117) := KQL.q k30 kq42 (by omega)
          have T42 : Xi T3 904 106 = 0 → TQA T3 (0 ≤ Xi S 904 115) (0 ≤ Xi S 904 116) (Xi S 904 117) (v1 + 1) := fun x => (TQA.mv (T30 (by omega)) (fun j a1 b1 k a b => kq42 _ (by omega) k a b) ((by assumption : FR md_mo_testMeant T2 T3).x 904 19 rfl) ((by assumption : FR md_mo_testMeant T2 T3).x 904 23 rfl) ((by assumption : FR md_mo_testMeant T2 T3).x 904 32 rfl)).add (by have t := tq42 x; rw [hFT2.x 904 115 rfl, hFT2.x 904 116 rfl] at t; first | (rw [show (Xi S 904 117 + v1 : Int) = Xi T1 904 117 + v1 by omega]; exact t) | (rw [show (Xi S 904 117 + v1 : Int) = Xi T2 904 117 + v1 by omega]; exact t))
          refine l_iinc rfl rfl rfl rfl ?_
          refine l_goto rfl rfl ?_
          have w47 : 0 ≤ Xi T3 904 106 ∧ Xi T3 904 106 ≤ 9 := hHT3.c _ _
          have w48 : Xi T3 904 117 = Xi T1 904 117 := (show Xi T3 904 117 = Xi T2 904 117 from w46.x _ _ rfl).trans ((show Xi T2 904 117 = Xi T1 904 117 from w32.x _ _ rfl))
          have w49 : 0 ≤ Xi T1 904 117 ∧ Xi T1 904 117 ≤ 480 := hHT1.c _ _
          have w50 : Xi T3 904 94 = Xi T1 904 94 := (show Xi T3 904 94 = Xi T2 904 94 from w46.x _ _ rfl).trans ((show Xi T2 904 94 = Xi T1 904 94 from w32.x _ _ rfl))
          have w51 : 0 ≤ Xi T1 904 94 ∧ Xi T1 904 94 ≤ 1700 := hHT1.c _ _
          exact Rl_weak (ih2 _ (by omega) T3 hHT3 hFT3 ((v1 + 1)) (by omega) (by omega) (by omega) (by omega) (by omega) (by first | exact fun x => ⟨by omega, T42 x⟩ | exact fun x => ⟨by omega, fun j a b => absurd b (by omega)⟩) (by first | exact k42 | exact KQL.rf) rfl) (And.intro rfl (And.intro rfl (True.intro)))
        · refine l_iconst rfl ?_
          refine l_goto rfl rfl ?_
          refine l_bipush rfl rfl ?_
          refine l_aload_n rfl rfl ?_
          refine l_gfr rfl rfl rfl rfl rfl (hHT1.r 904 91 961 rfl) ?_
          refine l_iload_n rfl rfl ?_
          refine l_iaload (n := 1700) rfl rfl (by omega) (by omega) (by unfold rg; omega) ?_
          have w52 : 0 ≤ (Xi T1 961 ((v1).toNat)) ∧ (Xi T1 961 ((v1).toNat)) ≤ 5010 := hHT1.c _ _
          have e29 : (Xi T1 961 ((v1).toNat)) = Xi S 961 (v1).toNat := by first | rfl | exact (hFT1.cx 961 rfl _).1
          have f29 := hfi v1 (by omega) (by omega)
          have w53 : 0 ≤ Xi T1 904 106 ∧ Xi T1 904 106 ≤ 9 := hHT1.c _ _
          have w54 : 0 ≤ Xi T1 904 117 ∧ Xi T1 904 117 ≤ 480 := hHT1.c _ _
          have w55 : 0 ≤ Xi T1 904 94 ∧ Xi T1 904 94 ≤ 1700 := hHT1.c _ _
          refine l_callV rfl rfl rfl (t_mo_need hHT1 1 9 (Xi T1 961 ((v1).toNat)) ⟨by omega, by omega⟩ ⟨by omega, by omega⟩ ⟨by omega, by omega⟩ _) ?_
          rintro _ T4 ⟨hHT4, w59, rfl, w56, w57⟩
          have hFT4 : FR md_mo_testsMeant S T4 := FR.tr hFT1 w59 rfl
          show Rl _ _ _ _ _ [] _ _
          have k30 : KQL T4 S (Xi S 904 117) := KQL_FR (by assumption : FR md_mo_need T1 T4) rfl K2
          have T30 : Xi T4 904 106 = 0 → TQA T4 (0 ≤ Xi S 904 115) (0 ≤ Xi S 904 116) (Xi S 904 117) v1 := fun x => (E2 (by omega)).2.mv (fun j _ _ k a b => kdis_q (by assumption : FR md_mo_need T1 T4) rfl k a b _) ((by assumption : FR md_mo_need T1 T4).x 904 19 rfl) ((by assumption : FR md_mo_need T1 T4).x 904 23 rfl) ((by assumption : FR md_mo_need T1 T4).x 904 32 rfl)
          refine l_aload_n rfl rfl ?_
          refine l_iload_n rfl rfl ?_
          refine l_aload_n rfl rfl ?_
          refine l_gfi rfl rfl rfl rfl rfl ?_
          have w60 : (Xi T4 904 117) = (Xi T1 904 117) := (show Xi T4 904 117 = Xi T1 904 117 from w59.x _ _ rfl)
          rw [w60]
          refine l_iload_n rfl rfl ?_
          refine l_iadd rfl ?_
          refine l_iconst rfl ?_
          have w61 : 0 ≤ Xi T4 904 106 ∧ Xi T4 904 106 ≤ 9 := hHT4.c _ _
          have w62 : Xi T4 904 115 = Xi T1 904 115 := (show Xi T4 904 115 = Xi T1 904 115 from w59.x _ _ rfl)
          have w63 : -1 ≤ Xi T1 904 115 ∧ Xi T1 904 115 ≤ 15 := hHT1.c _ _
          have w64 : Xi T4 904 116 = Xi T1 904 116 := (show Xi T4 904 116 = Xi T1 904 116 from w59.x _ _ rfl)
          have w65 : -1 ≤ Xi T1 904 116 ∧ Xi T1 904 116 ≤ 15 := hHT1.c _ _
          have w66 : Xi T4 904 117 = Xi T1 904 117 := (show Xi T4 904 117 = Xi T1 904 117 from w59.x _ _ rfl)
          have w67 : 0 ≤ Xi T1 904 117 ∧ Xi T1 904 117 ≤ 480 := hHT1.c _ _
          have w68 : Xi T4 904 94 = Xi T1 904 94 := (show Xi T4 904 94 = Xi T1 904 94 from w59.x _ _ rfl)
          have w69 : 0 ≤ Xi T1 904 94 ∧ Xi T1 904 94 ≤ 1700 := hHT1.c _ _
          refine l_callV rfl rfl rfl (t_mo_testMeant hHT4 n v1 ((Xi T1 904 117) + v1) 0 ⟨by omega, by omega⟩ ⟨by omega, by omega⟩ ⟨by omega, by omega⟩ (by first | assumption | exact (TK_FR hFT4 rfl (by assumption : TK S _))) (by first | assumption | exact (RNV_FR hFT4 rfl (by assumption : RNV S _))) (by first | assumption | exact (LXM_FR hFT4 rfl (by assumption : LXM S))) (by first | assumption | exact (ABV_FR hFT4 rfl (by assumption : ABV S))) (by first | assumption | exact (DCM_FR hFT4 rfl (by assumption : DCM S))) (by first | assumption | exact (TXK_FR hFT4 rfl (by assumption : TXK S _))) ((TVA_FR hFT4 rfl htv) (v1).toNat (by omega)) (fun x => absurd x (by decide)) _) ?_
          rintro _ T5 ⟨hHT5, w73, rfl, w70, tq42, w71, kq42⟩
          have hFT5 : FR md_mo_testsMeant S T5 := FR.tr hFT4 w73 rfl
          show Rl _ _ _ _ _ [] _ _
          have k42 : KQL T5 S (Xi S 904 117) := KQL.q k30 kq42 (by omega)
          have T42 : Xi T5 904 106 = 0 → TQA T5 (0 ≤ Xi S 904 115) (0 ≤ Xi S 904 116) (Xi S 904 117) (v1 + 1) := fun x => (TQA.mv (T30 (by omega)) (fun j a1 b1 k a b => kq42 _ (by omega) k a b) ((by assumption : FR md_mo_testMeant T4 T5).x 904 19 rfl) ((by assumption : FR md_mo_testMeant T4 T5).x 904 23 rfl) ((by assumption : FR md_mo_testMeant T4 T5).x 904 32 rfl)).add (by have t := tq42 x; rw [hFT4.x 904 115 rfl, hFT4.x 904 116 rfl] at t; first | (rw [show (Xi S 904 117 + v1 : Int) = Xi T1 904 117 + v1 by omega]; exact t) | (rw [show (Xi S 904 117 + v1 : Int) = Xi T4 904 117 + v1 by omega]; exact t))
          refine l_iinc rfl rfl rfl rfl ?_
          refine l_goto rfl rfl ?_
          have w74 : 0 ≤ Xi T5 904 106 ∧ Xi T5 904 106 ≤ 9 := hHT5.c _ _
          have w75 : Xi T5 904 117 = Xi T1 904 117 := (show Xi T5 904 117 = Xi T4 904 117 from w73.x _ _ rfl).trans ((show Xi T4 904 117 = Xi T1 904 117 from w59.x _ _ rfl))
          have w76 : 0 ≤ Xi T1 904 117 ∧ Xi T1 904 117 ≤ 480 := hHT1.c _ _
          have w77 : Xi T5 904 94 = Xi T1 904 94 := (show Xi T5 904 94 = Xi T4 904 94 from w73.x _ _ rfl).trans ((show Xi T4 904 94 = Xi T1 904 94 from w59.x _ _ rfl))
          have w78 : 0 ≤ Xi T1 904 94 ∧ Xi T1 904 94 ≤ 1700 := hHT1.c _ _
          exact Rl_weak (ih2 _ (by omega) T5 hHT5 hFT5 ((v1 + 1)) (by omega) (by omega) (by omega) (by omega) (by omega) (by first | exact fun x => ⟨by omega, T42 x⟩ | exact fun x => ⟨by omega, fun j a b => absurd b (by omega)⟩) (by first | exact k42 | exact KQL.rf) rfl) (And.intro rfl (And.intro rfl (True.intro)))
  refine l_iconst rfl ?_
  refine l_istore_n rfl rfl rfl ?_
  have w79 : 0 ≤ Xi S 904 106 ∧ Xi S 904 106 ≤ 9 := hH.c _ _
  have w80 : 0 ≤ Xi S 904 117 ∧ Xi S 904 117 ≤ 480 := hH.c _ _
  have w81 : 0 ≤ Xi S 904 94 ∧ Xi S 904 94 ≤ 1700 := hH.c _ _
  exact Rl_weak (C2 _ S hH hF (0) (by omega) (by omega) (by omega) (by omega) (by omega) (by first | exact fun x => ⟨by omega, T42 x⟩ | exact fun x => ⟨by omega, fun j a b => absurd b (by omega)⟩) (by first | exact k42 | exact KQL.rf) rfl) (And.intro rfl (And.intro rfl (True.intro)))

