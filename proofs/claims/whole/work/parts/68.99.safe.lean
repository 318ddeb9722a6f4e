/-! SAFETY of methods: printed by wip/safe (vc.py, decl.py) -/
/-! SAFETY of the reference: tests that were meant -/
theorem q_thv {m m2 : Int} {n : Nat} {td rn x y : Int} (h : THV m n td rn) (e1 : x = td) (e2 : y = rn) (e3 : m2 = m) (hn : n ≤ 5000) : (20000 ≤ x → 0 ≤ y ∧ y < m2) ∧ x % 10000 ≤ 5001 := by
  unfold THV at h
  refine ⟨fun q => ?_, by omega⟩
  have := h.2 (by omega)
  omega
theorem thk_c {S T : sS} {b c : Prop} {x y : Int} (h : thK S b c x) (e : Xi T 904 19 = Xi S 904 19) (e2 : y = x) : thK T b c y := by
  unfold thK at *
  rw [e, e2]
  exact h
theorem adx_c {S T : sS} {f a y : Int} (h : ADX S f a) (e1 : Xi T 904 23 = Xi S 904 23) (e2 : Xi T 904 32 = Xi S 904 32) (e : y = a) : ADM T y := by
  have t := h.1
  unfold ADM at *
  rw [e1, e2, e]
  exact t
theorem tq_5 {S : sS} {b c : Prop} {q : Nat} (h : Xi S 969 q = 5) (h1 : thK S b c (Xi S 971 q)) (h2 : thK S b c (Xi S 975 q)) (h3 : 0 ≤ Xi S 972 q ∧ Xi S 972 q ≤ 5) : TQ S b c q := ⟨h1, fun _ => ⟨h2, h3⟩, fun e => by omega, fun e => by omega, fun e => by omega⟩
theorem tq_3 {S : sS} {b c : Prop} {q : Nat} (h : Xi S 969 q = 3) (h1 : thK S b c (Xi S 971 q)) (h2 : ADM S (Xi S 973 q)) : TQ S b c q := ⟨h1, fun e => by omega, fun _ => h2, fun e => by omega, fun e => by omega⟩
theorem tq_4 {S : sS} {b c : Prop} {q : Nat} (h : Xi S 969 q = 4) (h1 : thK S b c (Xi S 971 q)) : TQ S b c q := ⟨h1, fun e => by omega, fun e => by omega, fun e => by omega, fun e => by omega⟩
theorem tq_2 {S : sS} {b c : Prop} {q : Nat} (h : Xi S 969 q ≤ 2) (h1 : thK S b c (Xi S 971 q)) (h2 : 0 ≤ Xi S 972 q ∧ Xi S 972 q < Xi S 904 32) (h3 : Xi S 969 q = 0 → OKT (Xi S 973 q) (Xi S 974 q)) : TQ S b c q := ⟨h1, fun e => by omega, fun e => by omega, fun _ => h2, h3⟩
/-- what phrases of the sort NOW may be -/
def NF (S : sS) (q : Nat) : Prop := (Xi S 969 q = 0 ∨ Xi S 969 q = 3 ∨ Xi S 969 q = 5) ∧ (Xi S 969 q = 3 → Xi S 973 q < 100 → Xi S 922 (Xi S 973 q).toNat ≠ -1)
/-- what may be told now -/
def NFX (S : sS) (w i : Int) : Prop := w = 1 → Xi S 952 i.toNat = 0 ∨ Xi S 952 i.toNat = 3 ∨ Xi S 952 i.toNat = 5
theorem syq_5 {S T U : sS} {q : Int} (h : SYQ T q) (e19 : Xi T 904 19 = Xi S 904 19) (e115 : Xi T 904 115 = Xi S 904 115) (e116 : Xi T 904 116 = Xi S 904 116) (u19 : Xi U 904 19 = Xi S 904 19) (u1 : Xi U 971 q.toNat = Xi T 971 q.toNat) (u2 : Xi U 972 q.toNat = Xi T 972 q.toNat) (u5 : Xi U 975 q.toNat = Xi T 975 q.toNat) (f : Xi U 969 q.toNat = 5) : TQ U (0 ≤ Xi S 904 115) (0 ≤ Xi S 904 116) q.toNat := by
  unfold SYQ at h
  rw [e115, e116] at h
  exact tq_5 f (thk_c h.1 (by rw [u19, e19]) u1) (thk_c h.2.1 (by rw [u19, e19]) u5) (by rw [u2]; exact h.2.2)
def md_mo_testMeant : List rec := [(904, 905, 64, 65), (904, 905, 104, 105), (904, 905, 105, 106), (904, 905, 106, 107), (904, 905, 113, 114), (969, 970, 0, 100000), (970, 971, 0, 100000), (971, 972, 0, 100000), (972, 973, 0, 100000), (973, 974, 0, 100000), (974, 975, 0, 100000), (975, 976, 0, 100000)]
abbrev Q_mo_testMeant (S : sS) (n : Nat) (i : Int) (q : Int) (isNow : Int) : pst := fun r S1 => HI S1 ∧ FR md_mo_testMeant S S1 ∧ (r = none ∧ (Xi S 904 106 ≠ 0 → Xi S1 904 106 ≠ 0) ∧ (Xi S1 904 106 = 0 → TQ S1 (0 ≤ Xi S 904 115) (0 ≤ Xi S 904 116) q.toNat) ∧ (Xi S1 904 106 = 0 → isNow = 1 → NF S1 q.toNat) ∧ (KQ S1 S q))
set_option maxRecDepth 100000 in
set_option maxHeartbeats 8000000 in
theorem c209_mo_testMeant {S : sS} (hH : HI S) (n : Nat) (i : Int) (q : Int) (isNow : Int) (hi : 0 ≤ i ∧ i ≤ 1699) (hq : 0 ≤ q ∧ q ≤ 2399) (hisNow : 0 ≤ isNow ∧ isNow ≤ 1) (hT : TK S n) (hv : RNV S n) (hM : LXM S) (hB : ABV S) (hC : DCM S) (hK : TXK S n) (htv : TV S n i.toNat) (hnf : NFX S isNow i) (d : Nat) : ∀  (T1 : sS) (_ : HI T1) (_ : FR md_mo_testMeant S T1) (v5 : Int) (v6 : Int), (0 ≤ v5 ∧ v5 ≤ 2599) → (0 ≤ v6 ∧ v6 ≤ 12) → (Xi T1 971 (q).toNat ≠ -9) → (0 ≤ v5 ∧ v5 < Xi S 904 69) → (Xi T1 969 (q).toNat = 3) → (Xi S 904 106 ≠ 0 → Xi T1 904 106 ≠ 0) → (thK S (0 ≤ Xi S 904 115) (0 ≤ Xi S 904 116) (Xi T1 971 (q).toNat)) → (Xi S 950 (v5).toNat + Xi S 951 (v5).toNat ≤ n ∧ 1 ≤ Xi S 951 (v5).toNat) → (1 ≤ v6 → ADX S (1 - isNow) (Xi T1 904 113)) → (KQ T1 S q) → Rl lay0 (d + 6) m_mo_testMeant 209 [(0, .ref 904), (2, iv q), (5, iv v5), (6, iv v6)] [] T1 (Q_mo_testMeant S n i q isNow) := by
  have hF : FR md_mo_testMeant S S := FR.rf
  have w1 : 0 ≤ Xi S 904 106 ∧ Xi S 904 106 ≤ 9 := hH.c _ _
  have w2 : -1 ≤ Xi S 904 113 ∧ Xi S 904 113 ≤ 6411 := hH.c _ _
  have w3 : -1 ≤ Xi S 904 115 ∧ Xi S 904 115 ≤ 15 := hH.c _ _
  have w4 : -1 ≤ Xi S 904 116 ∧ Xi S 904 116 ≤ 15 := hH.c _ _
  have w5 : 0 ≤ Xi S 904 69 ∧ Xi S 904 69 ≤ 2600 := hH.c _ _
  have hn5 := hT.1
  have hc69 : 0 ≤ Xi S 904 69 ∧ Xi S 904 69 ≤ 2600 := hH.c _ _
  have hc32 : 0 ≤ Xi S 904 32 ∧ Xi S 904 32 ≤ 12 := hH.c _ _
  have hc952 : 0 ≤ Xi S 952 i.toNat ∧ Xi S 952 i.toNat ≤ 5 := hH.c 952 _
  have hte := htv.1
  have hrf : ∀ r : Int, 0 ≤ r → r < Xi S 904 69 → Xi S 950 r.toNat + Xi S 951 r.toNat ≤ n ∧ 1 ≤ Xi S 951 r.toNat := fun r a b => hv r.toNat (by omega)
  intro T1 hHT1 hFT1 v5 v6 w6 w7 w8 w9 w10 w11 H209 G209 W209 K209
  have w12 : Xi T1 904 115 = Xi S 904 115 := hFT1.x _ _ rfl
  have w13 : Xi T1 904 116 = Xi S 904 116 := hFT1.x _ _ rfl
  have w14 : Xi T1 904 19 = Xi S 904 19 := hFT1.x _ _ rfl
  have w15 : Xi T1 904 32 = Xi S 904 32 := hFT1.x _ _ rfl
  have w16 : Xi T1 904 69 = Xi S 904 69 := hFT1.x _ _ rfl
  have w17 : 0 ≤ Xi T1 904 106 ∧ Xi T1 904 106 ≤ 9 := hHT1.c _ _
  have w18 : -1 ≤ Xi T1 904 113 ∧ Xi T1 904 113 ≤ 6411 := hHT1.c _ _
  refine l_aload_n rfl rfl ?_
  refine l_iload rfl rfl ?_
  refine l_if_le rfl rfl (by unfold rg; omega) (fun w19 => ?_) (fun w20 => ?_)
  · refine l_iconst rfl ?_
    refine l_iconst rfl ?_
    refine l_aload_n rfl rfl ?_
    refine l_gfr rfl rfl rfl rfl rfl (hHT1.r 904 67 950 rfl) ?_
    refine l_iload rfl rfl ?_
    refine l_iaload (n := 2600) rfl rfl (by omega) (by omega) (by unfold rg; omega) ?_
    have w21 : 0 ≤ (Xi T1 950 ((v5).toNat)) ∧ (Xi T1 950 ((v5).toNat)) ≤ 5010 := hHT1.c _ _
    have e227 : (Xi T1 950 ((v5).toNat)) = Xi S 950 (v5).toNat := by first | rfl | exact (hFT1.cx 950 rfl _).1 | exact (hFT1.cx 950 rfl _).1 | exact (hFT1.cx 950 rfl _).1
    refine l_callV rfl rfl rfl (t_mo_need hHT1 0 4 (Xi T1 950 ((v5).toNat)) ⟨by omega, by omega⟩ ⟨by omega, by omega⟩ ⟨by omega, by omega⟩ _) ?_
    rintro _ T2 ⟨hHT2, w28, rfl, w25, w26⟩
    have hFT2 : FR md_mo_testMeant S T2 := FR.tr hFT1 w28 rfl
    show Rl _ _ _ _ _ [] _ _
    refine l_aload_n rfl rfl ?_
    refine l_iload rfl rfl ?_
    refine l_iconst rfl ?_
    refine l_icmp_ge rfl rfl (by unfold rg; omega) (by unfold rg; omega) (fun w29 => ?_) (fun w30 => ?_)
    · refine l_iconst rfl ?_
      refine l_bipush rfl rfl ?_
      refine l_aload_n rfl rfl ?_
      refine l_gfr rfl rfl rfl rfl rfl (hHT2.r 904 67 950 rfl) ?_
      refine l_iload rfl rfl ?_
      refine l_iaload (n := 2600) rfl rfl (by omega) (by omega) (by unfold rg; omega) ?_
      have w31 : (Xi T2 950 ((v5).toNat)) = (Xi T1 950 ((v5).toNat)) := (show Xi T2 950 ((v5).toNat) = Xi T1 950 ((v5).toNat) from w28.x _ _ rfl)
      rw [w31]
      have e251 : (Xi T1 950 ((v5).toNat)) = Xi S 950 (v5).toNat := by first | rfl | exact (hFT2.cx 950 rfl _).1 | exact (hFT1.cx 950 rfl _).1 | exact (hFT1.cx 950 rfl _).1
      have w32 : 0 ≤ Xi T2 904 106 ∧ Xi T2 904 106 ≤ 9 := hHT2.c _ _
      refine l_callV rfl rfl rfl (t_mo_need hHT2 0 7 (Xi T1 950 ((v5).toNat)) ⟨by omega, by omega⟩ ⟨by omega, by omega⟩ ⟨by omega, by omega⟩ _) ?_
      rintro _ T3 ⟨hHT3, w40, rfl, w37, w38⟩
      have hFT3 : FR md_mo_testMeant S T3 := FR.tr hFT2 w40 rfl
      show Rl _ _ _ _ _ [] _ _
      refine l_aload_n rfl rfl ?_
      refine l_gfr rfl rfl rfl rfl rfl (hHT3.r 904 122 973 rfl) ?_
      refine l_iload_n rfl rfl ?_
      refine l_iload rfl rfl ?_
      refine l_if_le rfl rfl (by unfold rg; omega) (fun w41 => ?_) (fun w42 => ?_)
      · refine l_iconst rfl ?_
        refine l_iastore (n := 2400) rfl rfl (by omega) (by omega) (by unfold rg; omega) ?_
        obtain ⟨U4, eU4⟩ : ∃ T : sS, T = uI T3 973 ((q).toNat) (Int32.ofInt 0) := ⟨_, rfl⟩
        rw [← eU4]
        have hHU4 : HI U4 := by rw [eU4]; exact HI_any hHT3 (rfl)
        have hFU4 : FR md_mo_testMeant S U4 := by rw [eU4]; exact FR.wI hFT3 (mdf_i (r := (973, 974, 0, 100000)) (List.mem_of_getElem? (i := 9) rfl) (inR_i (by omega) (by omega) (by omega) (by omega)))
        have w43 : Xi U4 973 ((q).toNat) = 0 := by rw [eU4]; exact Xi_same (by unfold rg; omega)
        refine l_goto rfl rfl ?_
        refine l_return rfl rfl ?_
        have w44 : Xi U4 969 (q).toNat = Xi T1 969 (q).toNat := (show Xi U4 969 (q).toNat = Xi T3 969 (q).toNat from by rw [eU4]; exact Xi_ne (by omega)).trans ( (show Xi T3 969 (q).toNat = Xi T2 969 (q).toNat from (w40.cx 969 rfl _).1).trans ((show Xi T2 969 (q).toNat = Xi T1 969 (q).toNat from (w28.cx 969 rfl _).1)))
        have w45 : Xi U4 971 (q).toNat = Xi T1 971 (q).toNat := (show Xi U4 971 (q).toNat = Xi T3 971 (q).toNat from by rw [eU4]; exact Xi_ne (by omega)).trans ( (show Xi T3 971 (q).toNat = Xi T2 971 (q).toNat from (w40.cx 971 rfl _).1).trans ((show Xi T2 971 (q).toNat = Xi T1 971 (q).toNat from (w28.cx 971 rfl _).1)))
        have w46 : Xi U4 972 (q).toNat = Xi T1 972 (q).toNat := (show Xi U4 972 (q).toNat = Xi T3 972 (q).toNat from by rw [eU4]; exact Xi_ne (by omega)).trans ( (show Xi T3 972 (q).toNat = Xi T2 972 (q).toNat from (w40.cx 972 rfl _).1).trans ((show Xi T2 972 (q).toNat = Xi T1 972 (q).toNat from (w28.cx 972 rfl _).1)))
        have w47 : Xi U4 974 (q).toNat = Xi T1 974 (q).toNat := (show Xi U4 974 (q).toNat = Xi T3 974 (q).toNat from by rw [eU4]; exact Xi_ne (by omega)).trans ( (show Xi T3 974 (q).toNat = Xi T2 974 (q).toNat from (w40.cx 974 rfl _).1).trans ((show Xi T2 974 (q).toNat = Xi T1 974 (q).toNat from (w28.cx 974 rfl _).1)))
        have w48 : Xi U4 975 (q).toNat = Xi T1 975 (q).toNat := (show Xi U4 975 (q).toNat = Xi T3 975 (q).toNat from by rw [eU4]; exact Xi_ne (by omega)).trans ( (show Xi T3 975 (q).toNat = Xi T2 975 (q).toNat from (w40.cx 975 rfl _).1).trans ((show Xi T2 975 (q).toNat = Xi T1 975 (q).toNat from (w28.cx 975 rfl _).1)))
        have w49 : Xi U4 904 106 = Xi T3 904 106 := (show Xi U4 904 106 = Xi T3 904 106 from by rw [eU4]; exact Xi_ne (by omega))
        have w50 : 0 ≤ Xi T3 904 106 ∧ Xi T3 904 106 ≤ 9 := hHT3.c _ _
        have w51 : Xi U4 904 113 = Xi T1 904 113 := (show Xi U4 904 113 = Xi T3 904 113 from by rw [eU4]; exact Xi_ne (by omega)).trans ( (show Xi T3 904 113 = Xi T2 904 113 from w40.x _ _ rfl).trans ((show Xi T2 904 113 = Xi T1 904 113 from w28.x _ _ rfl)))
        have w53 : Xi U4 904 69 = Xi T1 904 69 := (show Xi U4 904 69 = Xi T3 904 69 from by rw [eU4]; exact Xi_ne (by omega)).trans ( (show Xi T3 904 69 = Xi T2 904 69 from w40.x _ _ rfl).trans ((show Xi T2 904 69 = Xi T1 904 69 from w28.x _ _ rfl)))
        have w54 : 0 ≤ Xi T1 904 69 ∧ Xi T1 904 69 ≤ 2600 := hHT1.c _ _
        exact ⟨hHU4, hFU4, rfl, (by omega), (by first | exact (fun _ q => syq_5 (f52 (by omega)) h52.1 h52.2.1 h52.2.2 (hFU4.x 904 19 rfl) (by omega) (by omega) (by omega) (by omega)) f52 | exact (fun _ q => tq_3 (by omega) (thk_c (H209) (hFU4.x 904 19 rfl) (by omega)) (adx_c (W209 (by omega)) (hFU4.x 904 23 rfl) (hFU4.x 904 32 rfl) (by omega))) W209 | exact (fun _ q => tq_4 (by omega) (thk_c (H277 (by omega)) (hFU4.x 904 19 rfl) (by omega))) q299 | exact (fun _ q => tq_2 (by omega) (thk_c (H328 (by omega)) (hFU4.x 904 19 rfl) (by omega)) (by have a := hFU4.x 904 32 rfl; omega) (fun _ => o386)) o386 | exact (fun _ q => tq_2 (by omega) (thk_c (H328 (by omega)) (hFU4.x 904 19 rfl) (by omega)) (by have a := hFU4.x 904 32 rfl; omega) (fun y => absurd y (by omega))) p337 | exact fun x => absurd x (by omega)), (by first | exact fun x y => ⟨Or.inr (Or.inr (by omega)), fun z => absurd z (by omega)⟩ | exact fun x y => ⟨by have t := hnf y; omega, fun z => absurd z (by omega)⟩ | exact (fun _ x0 => fun y => ⟨by omega, fun _ z => by rw [(hFU4.cx 922 rfl _).1, show Xi U4 973 (q).toNat = Xi T1 904 113 by omega]; exact (W209 (by omega)).2 (by omega) (by omega)⟩) W209 | exact fun x => absurd x (by omega)), ((KQ.w (KQ_FR w40 rfl (KQ_FR w28 rfl (by assumption : KQ T1 S _))) eU4 (by omega)))⟩
      · refine l_aload_n rfl rfl ?_
        refine l_gfi rfl rfl rfl rfl rfl ?_
        have w55 : (Xi T3 904 113) = (Xi T1 904 113) := (show Xi T3 904 113 = Xi T2 904 113 from w40.x _ _ rfl).trans ((show Xi T2 904 113 = Xi T1 904 113 from w28.x _ _ rfl))
        rw [w55]
        refine l_goto rfl rfl ?_
        refine l_iastore (n := 2400) rfl rfl (by omega) (by omega) (by unfold rg; omega) ?_
        obtain ⟨U5, eU5⟩ : ∃ T : sS, T = uI T3 973 ((q).toNat) (Int32.ofInt (Xi T1 904 113)) := ⟨_, rfl⟩
        rw [← eU5]
        have hHU5 : HI U5 := by rw [eU5]; exact HI_any hHT3 (rfl)
        have hFU5 : FR md_mo_testMeant S U5 := by rw [eU5]; exact FR.wI hFT3 (mdf_i (r := (973, 974, 0, 100000)) (List.mem_of_getElem? (i := 9) rfl) (inR_i (by omega) (by omega) (by omega) (by omega)))
        have w56 : Xi U5 973 ((q).toNat) = (Xi T1 904 113) := by rw [eU5]; exact Xi_same (by unfold rg; omega)
        refine l_goto rfl rfl ?_
        refine l_return rfl rfl ?_
        have w57 : Xi U5 969 (q).toNat = Xi T1 969 (q).toNat := (show Xi U5 969 (q).toNat = Xi T3 969 (q).toNat from by rw [eU5]; exact Xi_ne (by omega)).trans ( (show Xi T3 969 (q).toNat = Xi T2 969 (q).toNat from (w40.cx 969 rfl _).1).trans ((show Xi T2 969 (q).toNat = Xi T1 969 (q).toNat from (w28.cx 969 rfl _).1)))
        have w58 : Xi U5 971 (q).toNat = Xi T1 971 (q).toNat := (show Xi U5 971 (q).toNat = Xi T3 971 (q).toNat from by rw [eU5]; exact Xi_ne (by omega)).trans ( (show Xi T3 971 (q).toNat = Xi T2 971 (q).toNat from (w40.cx 971 rfl _).1).trans ((show Xi T2 971 (q).toNat = Xi T1 971 (q).toNat from (w28.cx 971 rfl _).1)))
        have w59 : Xi U5 972 (q).toNat = Xi T1 972 (q).toNat := (show Xi U5 972 (q).toNat = Xi T3 972 (q).toNat from by rw [eU5]; exact Xi_ne (by omega)).trans ( (show Xi T3 972 (q).toNat = Xi T2 972 (q).toNat from (w40.cx 972 rfl _).1).trans ((show Xi T2 972 (q).toNat = Xi T1 972 (q).toNat from (w28.cx 972 rfl _).1)))
        have w60 : Xi U5 974 (q).toNat = Xi T1 974 (q).toNat := (show Xi U5 974 (q).toNat = Xi T3 974 (q).toNat from by rw [eU5]; exact Xi_ne (by omega)).trans ( (show Xi T3 974 (q).toNat = Xi T2 974 (q).toNat from (w40.cx 974 rfl _).1).trans ((show Xi T2 974 (q).toNat = Xi T1 974 (q).toNat from (w28.cx 974 rfl _).1)))
        have w61 : Xi U5 975 (q).toNat = Xi T1 975 (q).toNat := (show Xi U5 975 (q).toNat = Xi T3 975 (q).toNat from by rw [eU5]; exact Xi_ne (by omega)).trans ( (show Xi T3 975 (q).toNat = Xi T2 975 (q).toNat from (w40.cx 975 rfl _).1).trans ((show Xi T2 975 (q).toNat = Xi T1 975 (q).toNat from (w28.cx 975 rfl _).1)))
        have w62 : Xi U5 904 106 = Xi T3 904 106 := (show Xi U5 904 106 = Xi T3 904 106 from by rw [eU5]; exact Xi_ne (by omega))
        have w63 : 0 ≤ Xi T3 904 106 ∧ Xi T3 904 106 ≤ 9 := hHT3.c _ _
        have w64 : Xi U5 904 113 = Xi T1 904 113 := (show Xi U5 904 113 = Xi T3 904 113 from by rw [eU5]; exact Xi_ne (by omega)).trans ( (show Xi T3 904 113 = Xi T2 904 113 from w40.x _ _ rfl).trans ((show Xi T2 904 113 = Xi T1 904 113 from w28.x _ _ rfl)))
        have w66 : Xi U5 904 69 = Xi T1 904 69 := (show Xi U5 904 69 = Xi T3 904 69 from by rw [eU5]; exact Xi_ne (by omega)).trans ( (show Xi T3 904 69 = Xi T2 904 69 from w40.x _ _ rfl).trans ((show Xi T2 904 69 = Xi T1 904 69 from w28.x _ _ rfl)))
        have w67 : 0 ≤ Xi T1 904 69 ∧ Xi T1 904 69 ≤ 2600 := hHT1.c _ _
        exact ⟨hHU5, hFU5, rfl, (by omega), (by first | exact (fun _ q => syq_5 (f52 (by omega)) h52.1 h52.2.1 h52.2.2 (hFU5.x 904 19 rfl) (by omega) (by omega) (by omega) (by omega)) f52 | exact (fun _ q => tq_3 (by omega) (thk_c (H209) (hFU5.x 904 19 rfl) (by omega)) (adx_c (W209 (by omega)) (hFU5.x 904 23 rfl) (hFU5.x 904 32 rfl) (by omega))) W209 | exact (fun _ q => tq_4 (by omega) (thk_c (H277 (by omega)) (hFU5.x 904 19 rfl) (by omega))) q299 | exact (fun _ q => tq_2 (by omega) (thk_c (H328 (by omega)) (hFU5.x 904 19 rfl) (by omega)) (by have a := hFU5.x 904 32 rfl; omega) (fun _ => o386)) o386 | exact (fun _ q => tq_2 (by omega) (thk_c (H328 (by omega)) (hFU5.x 904 19 rfl) (by omega)) (by have a := hFU5.x 904 32 rfl; omega) (fun y => absurd y (by omega))) p337 | exact fun x => absurd x (by omega)), (by first | exact fun x y => ⟨Or.inr (Or.inr (by omega)), fun z => absurd z (by omega)⟩ | exact fun x y => ⟨by have t := hnf y; omega, fun z => absurd z (by omega)⟩ | exact (fun _ x0 => fun y => ⟨by omega, fun _ z => by rw [(hFU5.cx 922 rfl _).1, show Xi U5 973 (q).toNat = Xi T1 904 113 by omega]; exact (W209 (by omega)).2 (by omega) (by omega)⟩) W209 | exact fun x => absurd x (by omega)), ((KQ.w (KQ_FR w40 rfl (KQ_FR w28 rfl (by assumption : KQ T1 S _))) eU5 (by omega)))⟩
    · refine l_iconst rfl ?_
      refine l_goto rfl rfl ?_
      refine l_bipush rfl rfl ?_
      refine l_aload_n rfl rfl ?_
      refine l_gfr rfl rfl rfl rfl rfl (hHT2.r 904 67 950 rfl) ?_
      refine l_iload rfl rfl ?_
      refine l_iaload (n := 2600) rfl rfl (by omega) (by omega) (by unfold rg; omega) ?_
      have w68 : (Xi T2 950 ((v5).toNat)) = (Xi T1 950 ((v5).toNat)) := (show Xi T2 950 ((v5).toNat) = Xi T1 950 ((v5).toNat) from w28.x _ _ rfl)
      rw [w68]
      have e251 : (Xi T1 950 ((v5).toNat)) = Xi S 950 (v5).toNat := by first | rfl | exact (hFT2.cx 950 rfl _).1 | exact (hFT1.cx 950 rfl _).1 | exact (hFT1.cx 950 rfl _).1
      have w69 : 0 ≤ Xi T2 904 106 ∧ Xi T2 904 106 ≤ 9 := hHT2.c _ _
      refine l_callV rfl rfl rfl (t_mo_need hHT2 1 7 (Xi T1 950 ((v5).toNat)) ⟨by omega, by omega⟩ ⟨by omega, by omega⟩ ⟨by omega, by omega⟩ _) ?_
      rintro _ T6 ⟨hHT6, w77, rfl, w74, w75⟩
      have hFT6 : FR md_mo_testMeant S T6 := FR.tr hFT2 w77 rfl
      show Rl _ _ _ _ _ [] _ _
      refine l_aload_n rfl rfl ?_
      refine l_gfr rfl rfl rfl rfl rfl (hHT6.r 904 122 973 rfl) ?_
      refine l_iload_n rfl rfl ?_
      refine l_iload rfl rfl ?_
      refine l_if_le rfl rfl (by unfold rg; omega) (fun w78 => ?_) (fun w79 => ?_)
      · refine l_iconst rfl ?_
        refine l_iastore (n := 2400) rfl rfl (by omega) (by omega) (by unfold rg; omega) ?_
        obtain ⟨U7, eU7⟩ : ∃ T : sS, T = uI T6 973 ((q).toNat) (Int32.ofInt 0) := ⟨_, rfl⟩
        rw [← eU7]
        have hHU7 : HI U7 := by rw [eU7]; exact HI_any hHT6 (rfl)
        have hFU7 : FR md_mo_testMeant S U7 := by rw [eU7]; exact FR.wI hFT6 (mdf_i (r := (973, 974, 0, 100000)) (List.mem_of_getElem? (i := 9) rfl) (inR_i (by omega) (by omega) (by omega) (by omega)))
        have w80 : Xi U7 973 ((q).toNat) = 0 := by rw [eU7]; exact Xi_same (by unfold rg; omega)
        refine l_goto rfl rfl ?_
        refine l_return rfl rfl ?_
        have w81 : Xi U7 969 (q).toNat = Xi T1 969 (q).toNat := (show Xi U7 969 (q).toNat = Xi T6 969 (q).toNat from by rw [eU7]; exact Xi_ne (by omega)).trans ( (show Xi T6 969 (q).toNat = Xi T2 969 (q).toNat from (w77.cx 969 rfl _).1).trans ((show Xi T2 969 (q).toNat = Xi T1 969 (q).toNat from (w28.cx 969 rfl _).1)))
        have w82 : Xi U7 971 (q).toNat = Xi T1 971 (q).toNat := (show Xi U7 971 (q).toNat = Xi T6 971 (q).toNat from by rw [eU7]; exact Xi_ne (by omega)).trans ( (show Xi T6 971 (q).toNat = Xi T2 971 (q).toNat from (w77.cx 971 rfl _).1).trans ((show Xi T2 971 (q).toNat = Xi T1 971 (q).toNat from (w28.cx 971 rfl _).1)))
        have w83 : Xi U7 972 (q).toNat = Xi T1 972 (q).toNat := (show Xi U7 972 (q).toNat = Xi T6 972 (q).toNat from by rw [eU7]; exact Xi_ne (by omega)).trans ( (show Xi T6 972 (q).toNat = Xi T2 972 (q).toNat from (w77.cx 972 rfl _).1).trans ((show Xi T2 972 (q).toNat = Xi T1 972 (q).toNat from (w28.cx 972 rfl _).1)))
        have w84 : Xi U7 974 (q).toNat = Xi T1 974 (q).toNat := (show Xi U7 974 (q).toNat = Xi T6 974 (q).toNat from by rw [eU7]; exact Xi_ne (by omega)).trans ( (show Xi T6 974 (q).toNat = Xi T2 974 (q).toNat from (w77.cx 974 rfl _).1).trans ((show Xi T2 974 (q).toNat = Xi T1 974 (q).toNat from (w28.cx 974 rfl _).1)))
        have w85 : Xi U7 975 (q).toNat = Xi T1 975 (q).toNat := (show Xi U7 975 (q).toNat = Xi T6 975 (q).toNat from by rw [eU7]; exact Xi_ne (by omega)).trans ( (show Xi T6 975 (q).toNat = Xi T2 975 (q).toNat from (w77.cx 975 rfl _).1).trans ((show Xi T2 975 (q).toNat = Xi T1 975 (q).toNat from (w28.cx 975 rfl _).1)))
        have w86 : Xi U7 904 106 = Xi T6 904 106 := (show Xi U7 904 106 = Xi T6 904 106 from by rw [eU7]; exact Xi_ne (by omega))
        have w87 : 0 ≤ Xi T6 904 106 ∧ Xi T6 904 106 ≤ 9 := hHT6.c _ _
        have w88 : Xi U7 904 113 = Xi T1 904 113 := (show Xi U7 904 113 = Xi T6 904 113 from by rw [eU7]; exact Xi_ne (by omega)).trans ( (show Xi T6 904 113 = Xi T2 904 113 from w77.x _ _ rfl).trans ((show Xi T2 904 113 = Xi T1 904 113 from w28.x _ _ rfl)))
        have w90 : Xi U7 904 69 = Xi T1 904 69 := (show Xi U7 904 69 = Xi T6 904 69 from by rw [eU7]; exact Xi_ne (by omega)).trans ( (show Xi T6 904 69 = Xi T2 904 69 from w77.x _ _ rfl).trans ((show Xi T2 904 69 = Xi T1 904 69 from w28.x _ _ rfl)))
        have w91 : 0 ≤ Xi T1 904 69 ∧ Xi T1 904 69 ≤ 2600 := hHT1.c _ _
        exact ⟨hHU7, hFU7, rfl, (by omega), (by first | exact (fun _ q => syq_5 (f52 (by omega)) h52.1 h52.2.1 h52.2.2 (hFU7.x 904 19 rfl) (by omega) (by omega) (by omega) (by omega)) f52 | exact (fun _ q => tq_3 (by omega) (thk_c (H209) (hFU7.x 904 19 rfl) (by omega)) (adx_c (W209 (by omega)) (hFU7.x 904 23 rfl) (hFU7.x 904 32 rfl) (by omega))) W209 | exact (fun _ q => tq_4 (by omega) (thk_c (H277 (by omega)) (hFU7.x 904 19 rfl) (by omega))) q299 | exact (fun _ q => tq_2 (by omega) (thk_c (H328 (by omega)) (hFU7.x 904 19 rfl) (by omega)) (by have a := hFU7.x 904 32 rfl; omega) (fun _ => o386)) o386 | exact (fun _ q => tq_2 (by omega) (thk_c (H328 (by omega)) (hFU7.x 904 19 rfl) (by omega)) (by have a := hFU7.x 904 32 rfl; omega) (fun y => absurd y (by omega))) p337 | exact fun x => absurd x (by omega)), (by first | exact fun x y => ⟨Or.inr (Or.inr (by omega)), fun z => absurd z (by omega)⟩ | exact fun x y => ⟨by have t := hnf y; omega, fun z => absurd z (by omega)⟩ | exact (fun _ x0 => fun y => ⟨by omega, fun _ z => by rw [(hFU7.cx 922 rfl _).1, show Xi U7 973 (q).toNat = Xi T1 904 113 by omega]; exact (W209 (by omega)).2 (by omega) (by omega)⟩) W209 | exact fun x => absurd x (by omega)), ((KQ.w (KQ_FR w77 rfl (KQ_FR w28 rfl (by assumption : KQ T1 S _))) eU7 (by omega)))⟩
      · refine l_aload_n rfl rfl ?_
        refine l_gfi rfl rfl rfl rfl rfl ?_
        have w92 : (Xi T6 904 113) = (Xi T1 904 113) := (show Xi T6 904 113 = Xi T2 904 113 from w77.x _ _ rfl).trans ((show Xi T2 904 113 = Xi T1 904 113 from w28.x _ _ rfl))
        rw [w92]
        refine l_goto rfl rfl ?_
        refine l_iastore (n := 2400) rfl rfl (by omega) (by omega) (by unfold rg; omega) ?_
        obtain ⟨U8, eU8⟩ : ∃ T : sS, T = uI T6 973 ((q).toNat) (Int32.ofInt (Xi T1 904 113)) := ⟨_, rfl⟩
        rw [← eU8]
        have hHU8 : HI U8 := by rw [eU8]; exact HI_any hHT6 (rfl)
        have hFU8 : FR md_mo_testMeant S U8 := by rw [eU8]; exact FR.wI hFT6 (mdf_i (r := (973, 974, 0, 100000)) (List.mem_of_getElem? (i := 9) rfl) (inR_i (by omega) (by omega) (by omega) (by omega)))
        have w93 : Xi U8 973 ((q).toNat) = (Xi T1 904 113) := by rw [eU8]; exact Xi_same (by unfold rg; omega)
        refine l_goto rfl rfl ?_
        refine l_return rfl rfl ?_
        have w94 : Xi U8 969 (q).toNat = Xi T1 969 (q).toNat := (show Xi U8 969 (q).toNat = Xi T6 969 (q).toNat from by rw [eU8]; exact Xi_ne (by omega)).trans ( (show Xi T6 969 (q).toNat = Xi T2 969 (q).toNat from (w77.cx 969 rfl _).1).trans ((show Xi T2 969 (q).toNat = Xi T1 969 (q).toNat from (w28.cx 969 rfl _).1)))
        have w95 : Xi U8 971 (q).toNat = Xi T1 971 (q).toNat := (show Xi U8 971 (q).toNat = Xi T6 971 (q).toNat from by rw [eU8]; exact Xi_ne (by omega)).trans ( (show Xi T6 971 (q).toNat = Xi T2 971 (q).toNat from (w77.cx 971 rfl _).1).trans ((show Xi T2 971 (q).toNat = Xi T1 971 (q).toNat from (w28.cx 971 rfl _).1)))
        have w96 : Xi U8 972 (q).toNat = Xi T1 972 (q).toNat := (show Xi U8 972 (q).toNat = Xi T6 972 (q).toNat from by rw [eU8]; exact Xi_ne (by omega)).trans ( (show Xi T6 972 (q).toNat = Xi T2 972 (q).toNat from (w77.cx 972 rfl _).1).trans ((show Xi T2 972 (q).toNat = Xi T1 972 (q).toNat from (w28.cx 972 rfl _).1)))
        have w97 : Xi U8 974 (q).toNat = Xi T1 974 (q).toNat := (show Xi U8 974 (q).toNat = Xi T6 974 (q).toNat from by rw [eU8]; exact Xi_ne (by omega)).trans ( (show Xi T6 974 (q).toNat = Xi T2 974 (q).toNat from (w77.cx 974 rfl _).1).trans ((show Xi T2 974 (q).toNat = Xi T1 974 (q).toNat from (w28.cx 974 rfl _).1)))
        have w98 : Xi U8 975 (q).toNat = Xi T1 975 (q).toNat := (show Xi U8 975 (q).toNat = Xi T6 975 (q).toNat from by rw [eU8]; exact Xi_ne (by omega)).trans ( (show Xi T6 975 (q).toNat = Xi T2 975 (q).toNat from (w77.cx 975 rfl _).1).trans ((show Xi T2 975 (q).toNat = Xi T1 975 (q).toNat from (w28.cx 975 rfl _).1)))
        have w99 : Xi U8 904 106 = Xi T6 904 106 := (show Xi U8 904 106 = Xi T6 904 106 from by rw [eU8]; exact Xi_ne (by omega))
        have w100 : 0 ≤ Xi T6 904 106 ∧ Xi T6 904 106 ≤ 9 := hHT6.c _ _
        have w101 : Xi U8 904 113 = Xi T1 904 113 := (show Xi U8 904 113 = Xi T6 904 113 from by rw [eU8]; exact Xi_ne (by omega)).trans ( (show Xi T6 904 113 = Xi T2 904 113 from w77.x _ _ rfl).trans ((show Xi T2 904 113 = Xi T1 904 113 from w28.x _ _ rfl)))
        have w103 : Xi U8 904 69 = Xi T1 904 69 := (show Xi U8 904 69 = Xi T6 904 69 from by rw [eU8]; exact Xi_ne (by omega)).trans ( (show Xi T6 904 69 = Xi T2 904 69 from w77.x _ _ rfl).trans ((show Xi T2 904 69 = Xi T1 904 69 from w28.x _ _ rfl)))
        have w104 : 0 ≤ Xi T1 904 69 ∧ Xi T1 904 69 ≤ 2600 := hHT1.c _ _
        exact ⟨hHU8, hFU8, rfl, (by omega), (by first | exact (fun _ q => syq_5 (f52 (by omega)) h52.1 h52.2.1 h52.2.2 (hFU8.x 904 19 rfl) (by omega) (by omega) (by omega) (by omega)) f52 | exact (fun _ q => tq_3 (by omega) (thk_c (H209) (hFU8.x 904 19 rfl) (by omega)) (adx_c (W209 (by omega)) (hFU8.x 904 23 rfl) (hFU8.x 904 32 rfl) (by omega))) W209 | exact (fun _ q => tq_4 (by omega) (thk_c (H277 (by omega)) (hFU8.x 904 19 rfl) (by omega))) q299 | exact (fun _ q => tq_2 (by omega) (thk_c (H328 (by omega)) (hFU8.x 904 19 rfl) (by omega)) (by have a := hFU8.x 904 32 rfl; omega) (fun _ => o386)) o386 | exact (fun _ q => tq_2 (by omega) (thk_c (H328 (by omega)) (hFU8.x 904 19 rfl) (by omega)) (by have a := hFU8.x 904 32 rfl; omega) (fun y => absurd y (by omega))) p337 | exact fun x => absurd x (by omega)), (by first | exact fun x y => ⟨Or.inr (Or.inr (by omega)), fun z => absurd z (by omega)⟩ | exact fun x y => ⟨by have t := hnf y; omega, fun z => absurd z (by omega)⟩ | exact (fun _ x0 => fun y => ⟨by omega, fun _ z => by rw [(hFU8.cx 922 rfl _).1, show Xi U8 973 (q).toNat = Xi T1 904 113 by omega]; exact (W209 (by omega)).2 (by omega) (by omega)⟩) W209 | exact fun x => absurd x (by omega)), ((KQ.w (KQ_FR w77 rfl (KQ_FR w28 rfl (by assumption : KQ T1 S _))) eU8 (by omega)))⟩
  · refine l_iconst rfl ?_
    refine l_goto rfl rfl ?_
    refine l_iconst rfl ?_
    refine l_aload_n rfl rfl ?_
    refine l_gfr rfl rfl rfl rfl rfl (hHT1.r 904 67 950 rfl) ?_
    refine l_iload rfl rfl ?_
    refine l_iaload (n := 2600) rfl rfl (by omega) (by omega) (by unfold rg; omega) ?_
    have w105 : 0 ≤ (Xi T1 950 ((v5).toNat)) ∧ (Xi T1 950 ((v5).toNat)) ≤ 5010 := hHT1.c _ _
    have e227 : (Xi T1 950 ((v5).toNat)) = Xi S 950 (v5).toNat := by first | rfl | exact (hFT1.cx 950 rfl _).1 | exact (hFT1.cx 950 rfl _).1 | exact (hFT1.cx 950 rfl _).1
    refine l_callV rfl rfl rfl (t_mo_need hHT1 1 4 (Xi T1 950 ((v5).toNat)) ⟨by omega, by omega⟩ ⟨by omega, by omega⟩ ⟨by omega, by omega⟩ _) ?_
    rintro _ T9 ⟨hHT9, w112, rfl, w109, w110⟩
    have hFT9 : FR md_mo_testMeant S T9 := FR.tr hFT1 w112 rfl
    show Rl _ _ _ _ _ [] _ _
    refine l_aload_n rfl rfl ?_
    refine l_iload rfl rfl ?_
    refine l_iconst rfl ?_
    refine l_icmp_ge rfl rfl (by unfold rg; omega) (by unfold rg; omega) (fun w113 => ?_) (fun w114 => ?_)
    · refine l_iconst rfl ?_
      refine l_bipush rfl rfl ?_
      refine l_aload_n rfl rfl ?_
      refine l_gfr rfl rfl rfl rfl rfl (hHT9.r 904 67 950 rfl) ?_
      refine l_iload rfl rfl ?_
      refine l_iaload (n := 2600) rfl rfl (by omega) (by omega) (by unfold rg; omega) ?_
      have w115 : (Xi T9 950 ((v5).toNat)) = (Xi T1 950 ((v5).toNat)) := (show Xi T9 950 ((v5).toNat) = Xi T1 950 ((v5).toNat) from w112.x _ _ rfl)
      rw [w115]
      have e251 : (Xi T1 950 ((v5).toNat)) = Xi S 950 (v5).toNat := by first | rfl | exact (hFT9.cx 950 rfl _).1 | exact (hFT1.cx 950 rfl _).1 | exact (hFT1.cx 950 rfl _).1
      have w116 : 0 ≤ Xi T9 904 106 ∧ Xi T9 904 106 ≤ 9 := hHT9.c _ _
      refine l_callV rfl rfl rfl (t_mo_need hHT9 0 7 (Xi T1 950 ((v5).toNat)) ⟨by omega, by omega⟩ ⟨by omega, by omega⟩ ⟨by omega, by omega⟩ _) ?_
      rintro _ T10 ⟨hHT10, w124, rfl, w121, w122⟩
      have hFT10 : FR md_mo_testMeant S T10 := FR.tr hFT9 w124 rfl
      show Rl _ _ _ _ _ [] _ _
      refine l_aload_n rfl rfl ?_
      refine l_gfr rfl rfl rfl rfl rfl (hHT10.r 904 122 973 rfl) ?_
      refine l_iload_n rfl rfl ?_
      refine l_iload rfl rfl ?_
      refine l_if_le rfl rfl (by unfold rg; omega) (fun w125 => ?_) (fun w126 => ?_)
      · refine l_iconst rfl ?_
        refine l_iastore (n := 2400) rfl rfl (by omega) (by omega) (by unfold rg; omega) ?_
        obtain ⟨U11, eU11⟩ : ∃ T : sS, T = uI T10 973 ((q).toNat) (Int32.ofInt 0) := ⟨_, rfl⟩
        rw [← eU11]
        have hHU11 : HI U11 := by rw [eU11]; exact HI_any hHT10 (rfl)
        have hFU11 : FR md_mo_testMeant S U11 := by rw [eU11]; exact FR.wI hFT10 (mdf_i (r := (973, 974, 0, 100000)) (List.mem_of_getElem? (i := 9) rfl) (inR_i (by omega) (by omega) (by omega) (by omega)))
        have w127 : Xi U11 973 ((q).toNat) = 0 := by rw [eU11]; exact Xi_same (by unfold rg; omega)
        refine l_goto rfl rfl ?_
        refine l_return rfl rfl ?_
        have w128 : Xi U11 969 (q).toNat = Xi T1 969 (q).toNat := (show Xi U11 969 (q).toNat = Xi T10 969 (q).toNat from by rw [eU11]; exact Xi_ne (by omega)).trans ( (show Xi T10 969 (q).toNat = Xi T9 969 (q).toNat from (w124.cx 969 rfl _).1).trans ((show Xi T9 969 (q).toNat = Xi T1 969 (q).toNat from (w112.cx 969 rfl _).1)))
        have w129 : Xi U11 971 (q).toNat = Xi T1 971 (q).toNat := (show Xi U11 971 (q).toNat = Xi T10 971 (q).toNat from by rw [eU11]; exact Xi_ne (by omega)).trans ( (show Xi T10 971 (q).toNat = Xi T9 971 (q).toNat from (w124.cx 971 rfl _).1).trans ((show Xi T9 971 (q).toNat = Xi T1 971 (q).toNat from (w112.cx 971 rfl _).1)))
        have w130 : Xi U11 972 (q).toNat = Xi T1 972 (q).toNat := (show Xi U11 972 (q).toNat = Xi T10 972 (q).toNat from by rw [eU11]; exact Xi_ne (by omega)).trans ( (show Xi T10 972 (q).toNat = Xi T9 972 (q).toNat from (w124.cx 972 rfl _).1).trans ((show Xi T9 972 (q).toNat = Xi T1 972 (q).toNat from (w112.cx 972 rfl _).1)))
        have w131 : Xi U11 974 (q).toNat = Xi T1 974 (q).toNat := (show Xi U11 974 (q).toNat = Xi T10 974 (q).toNat from by rw [eU11]; exact Xi_ne (by omega)).trans ( (show Xi T10 974 (q).toNat = Xi T9 974 (q).toNat from (w124.cx 974 rfl _).1).trans ((show Xi T9 974 (q).toNat = Xi T1 974 (q).toNat from (w112.cx 974 rfl _).1)))
        have w132 : Xi U11 975 (q).toNat = Xi T1 975 (q).toNat := (show Xi U11 975 (q).toNat = Xi T10 975 (q).toNat from by rw [eU11]; exact Xi_ne (by omega)).trans ( (show Xi T10 975 (q).toNat = Xi T9 975 (q).toNat from (w124.cx 975 rfl _).1).trans ((show Xi T9 975 (q).toNat = Xi T1 975 (q).toNat from (w112.cx 975 rfl _).1)))
        have w133 : Xi U11 904 106 = Xi T10 904 106 := (show Xi U11 904 106 = Xi T10 904 106 from by rw [eU11]; exact Xi_ne (by omega))
        have w134 : 0 ≤ Xi T10 904 106 ∧ Xi T10 904 106 ≤ 9 := hHT10.c _ _
        have w135 : Xi U11 904 113 = Xi T1 904 113 := (show Xi U11 904 113 = Xi T10 904 113 from by rw [eU11]; exact Xi_ne (by omega)).trans ( (show Xi T10 904 113 = Xi T9 904 113 from w124.x _ _ rfl).trans ((show Xi T9 904 113 = Xi T1 904 113 from w112.x _ _ rfl)))
        have w137 : Xi U11 904 69 = Xi T1 904 69 := (show Xi U11 904 69 = Xi T10 904 69 from by rw [eU11]; exact Xi_ne (by omega)).trans ( (show Xi T10 904 69 = Xi T9 904 69 from w124.x _ _ rfl).trans ((show Xi T9 904 69 = Xi T1 904 69 from w112.x _ _ rfl)))
        have w138 : 0 ≤ Xi T1 904 69 ∧ Xi T1 904 69 ≤ 2600 := hHT1.c _ _
        exact ⟨hHU11, hFU11, rfl, (by omega), (by first | exact (fun _ q => syq_5 (f52 (by omega)) h52.1 h52.2.1 h52.2.2 (hFU11.x 904 19 rfl) (by omega) (by omega) (by omega) (by omega)) f52 | exact (fun _ q => tq_3 (by omega) (thk_c (H209) (hFU11.x 904 19 rfl) (by omega)) (adx_c (W209 (by omega)) (hFU11.x 904 23 rfl) (hFU11.x 904 32 rfl) (by omega))) W209 | exact (fun _ q => tq_4 (by omega) (thk_c (H277 (by omega)) (hFU11.x 904 19 rfl) (by omega))) q299 | exact (fun _ q => tq_2 (by omega) (thk_c (H328 (by omega)) (hFU11.x 904 19 rfl) (by omega)) (by have a := hFU11.x 904 32 rfl; omega) (fun _ => o386)) o386 | exact (fun _ q => tq_2 (by omega) (thk_c (H328 (by omega)) (hFU11.x 904 19 rfl) (by omega)) (by have a := hFU11.x 904 32 rfl; omega) (fun y => absurd y (by omega))) p337 | exact fun x => absurd x (by omega)), (by first | exact fun x y => ⟨Or.inr (Or.inr (by omega)), fun z => absurd z (by omega)⟩ | exact fun x y => ⟨by have t := hnf y; omega, fun z => absurd z (by omega)⟩ | exact (fun _ x0 => fun y => ⟨by omega, fun _ z => by rw [(hFU11.cx 922 rfl _).1, show Xi U11 973 (q).toNat = Xi T1 904 113 by omega]; exact (W209 (by omega)).2 (by omega) (by omega)⟩) W209 | exact fun x => absurd x (by omega)), ((KQ.w (KQ_FR w124 rfl (KQ_FR w112 rfl (by assumption : KQ T1 S _))) eU11 (by omega)))⟩
      · refine l_aload_n rfl rfl ?_
        refine l_gfi rfl rfl rfl rfl rfl ?_
        have w139 : (Xi T10 904 113) = (Xi T1 904 113) := (show Xi T10 904 113 = Xi T9 904 113 from w124.x _ _ rfl).trans ((show Xi T9 904 113 = Xi T1 904 113 from w112.x _ _ rfl))
        rw [w139]
        refine l_goto rfl rfl ?_
        refine l_iastore (n := 2400) rfl rfl (by omega) (by omega) (by unfold rg; omega) ?_
        obtain ⟨U12, eU12⟩ : ∃ T : sS, T = uI T10 973 ((q).toNat) (Int32.ofInt (Xi T1 904 113)) := ⟨_, rfl⟩
        rw [← eU12]
        have hHU12 : HI U12 := by rw [eU12]; exact HI_any hHT10 (rfl)
        have hFU12 : FR md_mo_testMeant S U12 := by rw [eU12]; exact FR.wI hFT10 (mdf_i (r := (973, 974, 0, 100000)) (List.mem_of_getElem? (i := 9) rfl) (inR_i (by omega) (by omega) (by omega) (by omega)))
        have w140 : Xi U12 973 ((q).toNat) = (Xi T1 904 113) := by rw [eU12]; exact Xi_same (by unfold rg; omega)
        refine l_goto rfl rfl ?_
        refine l_return rfl rfl ?_
        have w141 : Xi U12 969 (q).toNat = Xi T1 969 (q).toNat := (show Xi U12 969 (q).toNat = Xi T10 969 (q).toNat from by rw [eU12]; exact Xi_ne (by omega)).trans ( (show Xi T10 969 (q).toNat = Xi T9 969 (q).toNat from (w124.cx 969 rfl _).1).trans ((show Xi T9 969 (q).toNat = Xi T1 969 (q).toNat from (w112.cx 969 rfl _).1)))
        have w142 : Xi U12 971 (q).toNat = Xi T1 971 (q).toNat := (show Xi U12 971 (q).toNat = Xi T10 971 (q).toNat from by rw [eU12]; exact Xi_ne (by omega)).trans ( (show Xi T10 971 (q).toNat = Xi T9 971 (q).toNat from (w124.cx 971 rfl _).1).trans ((show Xi T9 971 (q).toNat = Xi T1 971 (q).toNat from (w112.cx 971 rfl _).1)))
        have w143 : Xi U12 972 (q).toNat = Xi T1 972 (q).toNat := (show Xi U12 972 (q).toNat = Xi T10 972 (q).toNat from by rw [eU12]; exact Xi_ne (by omega)).trans ( (show Xi T10 972 (q).toNat = Xi T9 972 (q).toNat from (w124.cx 972 rfl _).1).trans ((show Xi T9 972 (q).toNat = Xi T1 972 (q).toNat from (w112.cx 972 rfl _).1)))
        have w144 : Xi U12 974 (q).toNat = Xi T1 974 (q).toNat := (show Xi U12 974 (q).toNat = Xi T10 974 (q).toNat from by rw [eU12]; exact Xi_ne (by omega)).trans ( (show Xi T10 974 (q).toNat = Xi T9 974 (q).toNat from (w124.cx 974 rfl _).1).trans ((show Xi T9 974 (q).toNat = Xi T1 974 (q).toNat from (w112.cx 974 rfl _).1)))
        have w145 : Xi U12 975 (q).toNat = Xi T1 975 (q).toNat := (show Xi U12 975 (q).toNat = Xi T10 975 (q).toNat from by rw [eU12]; exact Xi_ne (by omega)).trans ( (show Xi T10 975 (q).toNat = Xi T9 975 (q).toNat from (w124.cx 975 rfl _).1).trans ((show Xi T9 975 (q).toNat = Xi T1 975 (q).toNat from (w112.cx 975 rfl _).1)))
        have w146 : Xi U12 904 106 = Xi T10 904 106 := (show Xi U12 904 106 = Xi T10 904 106 from by rw [eU12]; exact Xi_ne (by omega))
        have w147 : 0 ≤ Xi T10 904 106 ∧ Xi T10 904 106 ≤ 9 := hHT10.c _ _
        have w148 : Xi U12 904 113 = Xi T1 904 113 := (show Xi U12 904 113 = Xi T10 904 113 from by rw [eU12]; exact Xi_ne (by omega)).trans ( (show Xi T10 904 113 = Xi T9 904 113 from w124.x _ _ rfl).trans ((show Xi T9 904 113 = Xi T1 904 113 from w112.x _ _ rfl)))
        have w150 : Xi U12 904 69 = Xi T1 904 69 := (show Xi U12 904 69 = Xi T10 904 69 from by rw [eU12]; exact Xi_ne (by omega)).trans ( (show Xi T10 904 69 = Xi T9 904 69 from w124.x _ _ rfl).trans ((show Xi T9 904 69 = Xi T1 904 69 from w112.x _ _ rfl)))
        have w151 : 0 ≤ Xi T1 904 69 ∧ Xi T1 904 69 ≤ 2600 := hHT1.c _ _
        exact ⟨hHU12, hFU12, rfl, (by omega), (by first | exact (fun _ q => syq_5 (f52 (by omega)) h52.1 h52.2.1 h52.2.2 (hFU12.x 904 19 rfl) (by omega) (by omega) (by omega) (by omega)) f52 | exact (fun _ q => tq_3 (by omega) (thk_c (H209) (hFU12.x 904 19 rfl) (by omega)) (adx_c (W209 (by omega)) (hFU12.x 904 23 rfl) (hFU12.x 904 32 rfl) (by omega))) W209 | exact (fun _ q => tq_4 (by omega) (thk_c (H277 (by omega)) (hFU12.x 904 19 rfl) (by omega))) q299 | exact (fun _ q => tq_2 (by omega) (thk_c (H328 (by omega)) (hFU12.x 904 19 rfl) (by omega)) (by have a := hFU12.x 904 32 rfl; omega) (fun _ => o386)) o386 | exact (fun _ q => tq_2 (by omega) (thk_c (H328 (by omega)) (hFU12.x 904 19 rfl) (by omega)) (by have a := hFU12.x 904 32 rfl; omega) (fun y => absurd y (by omega))) p337 | exact fun x => absurd x (by omega)), (by first | exact fun x y => ⟨Or.inr (Or.inr (by omega)), fun z => absurd z (by omega)⟩ | exact fun x y => ⟨by have t := hnf y; omega, fun z => absurd z (by omega)⟩ | exact (fun _ x0 => fun y => ⟨by omega, fun _ z => by rw [(hFU12.cx 922 rfl _).1, show Xi U12 973 (q).toNat = Xi T1 904 113 by omega]; exact (W209 (by omega)).2 (by omega) (by omega)⟩) W209 | exact fun x => absurd x (by omega)), ((KQ.w (KQ_FR w124 rfl (KQ_FR w112 rfl (by assumption : KQ T1 S _))) eU12 (by omega)))⟩
    · refine l_iconst rfl ?_
      refine l_goto rfl rfl ?_
      refine l_bipush rfl rfl ?_
      refine l_aload_n rfl rfl ?_
      refine l_gfr rfl rfl rfl rfl rfl (hHT9.r 904 67 950 rfl) ?_
      refine l_iload rfl rfl ?_
      refine l_iaload (n := 2600) rfl rfl (by omega) (by omega) (by unfold rg; omega) ?_
      have w152 : (Xi T9 950 ((v5).toNat)) = (Xi T1 950 ((v5).toNat)) := (show Xi T9 950 ((v5).toNat) = Xi T1 950 ((v5).toNat) from w112.x _ _ rfl)
      rw [w152]
      have e251 : (Xi T1 950 ((v5).toNat)) = Xi S 950 (v5).toNat := by first | rfl | exact (hFT9.cx 950 rfl _).1 | exact (hFT1.cx 950 rfl _).1 | exact (hFT1.cx 950 rfl _).1
      have w153 : 0 ≤ Xi T9 904 106 ∧ Xi T9 904 106 ≤ 9 := hHT9.c _ _
      refine l_callV rfl rfl rfl (t_mo_need hHT9 1 7 (Xi T1 950 ((v5).toNat)) ⟨by omega, by omega⟩ ⟨by omega, by omega⟩ ⟨by omega, by omega⟩ _) ?_
      rintro _ T13 ⟨hHT13, w161, rfl, w158, w159⟩
      have hFT13 : FR md_mo_testMeant S T13 := FR.tr hFT9 w161 rfl
      show Rl _ _ _ _ _ [] _ _
      refine l_aload_n rfl rfl ?_
      refine l_gfr rfl rfl rfl rfl rfl (hHT13.r 904 122 973 rfl) ?_
      refine l_iload_n rfl rfl ?_
      refine l_iload rfl rfl ?_
      refine l_if_le rfl rfl (by unfold rg; omega) (fun w162 => ?_) (fun w163 => ?_)
      · refine l_iconst rfl ?_
        refine l_iastore (n := 2400) rfl rfl (by omega) (by omega) (by unfold rg; omega) ?_
        obtain ⟨U14, eU14⟩ : ∃ T : sS, T = uI T13 973 ((q).toNat) (Int32.ofInt 0) := ⟨_, rfl⟩
        rw [← eU14]
        have hHU14 : HI U14 := by rw [eU14]; exact HI_any hHT13 (rfl)
        have hFU14 : FR md_mo_testMeant S U14 := by rw [eU14]; exact FR.wI hFT13 (mdf_i (r := (973, 974, 0, 100000)) (List.mem_of_getElem? (i := 9) rfl) (inR_i (by omega) (by omega) (by omega) (by omega)))
        have w164 : Xi U14 973 ((q).toNat) = 0 := by rw [eU14]; exact Xi_same (by unfold rg; omega)
        refine l_goto rfl rfl ?_
        refine l_return rfl rfl ?_
        have w165 : Xi U14 969 (q).toNat = Xi T1 969 (q).toNat := (show Xi U14 969 (q).toNat = Xi T13 969 (q).toNat from by rw [eU14]; exact Xi_ne (by omega)).trans ( (show Xi T13 969 (q).toNat = Xi T9 969 (q).toNat from (w161.cx 969 rfl _).1).trans ((show Xi T9 969 (q).toNat = Xi T1 969 (q).toNat from (w112.cx 969 rfl _).1)))
        have w166 : Xi U14 971 (q).toNat = Xi T1 971 (q).toNat := (show Xi U14 971 (q).toNat = Xi T13 971 (q).toNat from by rw [eU14]; exact Xi_ne (by omega)).trans ( (show Xi T13 971 (q).toNat = Xi T9 971 (q).toNat from (w161.cx 971 rfl _).1).trans ((show Xi T9 971 (q).toNat = Xi T1 971 (q).toNat from (w112.cx 971 rfl _).1)))
        have w167 : Xi U14 972 (q).toNat = Xi T1 972 (q).toNat := (show Xi U14 972 (q).toNat = Xi T13 972 (q).toNat from by rw [eU14]; exact Xi_ne (by omega)).trans ( (show Xi T13 972 (q).toNat = Xi T9 972 (q).toNat from (w161.cx 972 rfl _).1).trans ((show Xi T9 972 (q).toNat = Xi T1 972 (q).toNat from (w112.cx 972 rfl _).1)))
        have w168 : Xi U14 974 (q).toNat = Xi T1 974 (q).toNat := (show Xi U14 974 (q).toNat = Xi T13 974 (q).toNat from by rw [eU14]; exact Xi_ne (by omega)).trans ( (show Xi T13 974 (q).toNat = Xi T9 974 (q).toNat from (w161.cx 974 rfl _).1).trans ((show Xi T9 974 (q).toNat = Xi T1 974 (q).toNat from (w112.cx 974 rfl _).1)))
        have w169 : Xi U14 975 (q).toNat = Xi T1 975 (q).toNat := (show Xi U14 975 (q).toNat = Xi T13 975 (q).toNat from by rw [eU14]; exact Xi_ne (by omega)).trans ( (show Xi T13 975 (q).toNat = Xi T9 975 (q).toNat from (w161.cx 975 rfl _).1).trans ((show Xi T9 975 (q).toNat = Xi T1 975 (q).toNat from (w112.cx 975 rfl _).1)))
        have w170 : Xi U14 904 106 = Xi T13 904 106 := (show Xi U14 904 106 = Xi T13 904 106 from by rw [eU14]; exact Xi_ne (by omega))
        have w171 : 0 ≤ Xi T13 904 106 ∧ Xi T13 904 106 ≤ 9 := hHT13.c _ _
        have w172 : Xi U14 904 113 = Xi T1 904 113 := (show Xi U14 904 113 = Xi T13 904 113 from by rw [eU14]; exact Xi_ne (by omega)).trans ( (show Xi T13 904 113 = Xi T9 904 113 from w161.x _ _ rfl).trans ((show Xi T9 904 113 = Xi T1 904 113 from w112.x _ _ rfl)))
        have w174 : Xi U14 904 69 = Xi T1 904 69 := (show Xi U14 904 69 = Xi T13 904 69 from by rw [eU14]; exact Xi_ne (by omega)).trans ( (show Xi T13 904 69 = Xi T9 904 69 from w161.x _ _ rfl).trans ((show Xi T9 904 69 = Xi T1 904 69 from w112.x _ _ rfl)))
        have w175 : 0 ≤ Xi T1 904 69 ∧ Xi T1 904 69 ≤ 2600 := hHT1.c _ _
        exact ⟨hHU14, hFU14, rfl, (by omega), (by first | exact (fun _ q => syq_5 (f52 (by omega)) h52.1 h52.2.1 h52.2.2 (hFU14.x 904 19 rfl) (by omega) (by omega) (by omega) (by omega)) f52 | exact (fun _ q => tq_3 (by omega) (thk_c (H209) (hFU14.x 904 19 rfl) (by omega)) (adx_c (W209 (by omega)) (hFU14.x 904 23 rfl) (hFU14.x 904 32 rfl) (by omega))) W209 | exact (fun _ q => tq_4 (by omega) (thk_c (H277 (by omega)) (hFU14.x 904 19 rfl) (by omega))) q299 | exact (fun _ q => tq_2 (by omega) (thk_c (H328 (by omega)) (hFU14.x 904 19 rfl) (by omega)) (by have a := hFU14.x 904 32 rfl; omega) (fun _ => o386)) o386 | exact (fun _ q => tq_2 (by omega) (thk_c (H328 (by omega)) (hFU14.x 904 19 rfl) (by omega)) (by have a := hFU14.x 904 32 rfl; omega) (fun y => absurd y (by omega))) p337 | exact fun x => absurd x (by omega)), (by first | exact fun x y => ⟨Or.inr (Or.inr (by omega)), fun z => absurd z (by omega)⟩ | exact fun x y => ⟨by have t := hnf y; omega, fun z => absurd z (by omega)⟩ | exact (fun _ x0 => fun y => ⟨by omega, fun _ z => by rw [(hFU14.cx 922 rfl _).1, show Xi U14 973 (q).toNat = Xi T1 904 113 by omega]; exact (W209 (by omega)).2 (by omega) (by omega)⟩) W209 | exact fun x => absurd x (by omega)), ((KQ.w (KQ_FR w161 rfl (KQ_FR w112 rfl (by assumption : KQ T1 S _))) eU14 (by omega)))⟩
      · refine l_aload_n rfl rfl ?_
        refine l_gfi rfl rfl rfl rfl rfl ?_
        have w176 : (Xi T13 904 113) = (Xi T1 904 113) := (show Xi T13 904 113 = Xi T9 904 113 from w161.x _ _ rfl).trans ((show Xi T9 904 113 = Xi T1 904 113 from w112.x _ _ rfl))
        rw [w176]
        refine l_goto rfl rfl ?_
        refine l_iastore (n := 2400) rfl rfl (by omega) (by omega) (by unfold rg; omega) ?_
        obtain ⟨U15, eU15⟩ : ∃ T : sS, T = uI T13 973 ((q).toNat) (Int32.ofInt (Xi T1 904 113)) := ⟨_, rfl⟩
        rw [← eU15]
        have hHU15 : HI U15 := by rw [eU15]; exact HI_any hHT13 (rfl)
        have hFU15 : FR md_mo_testMeant S U15 := by rw [eU15]; exact FR.wI hFT13 (mdf_i (r := (973, 974, 0, 100000)) (List.mem_of_getElem? (i := 9) rfl) (inR_i (by omega) (by omega) (by omega) (by omega)))
        have w177 : Xi U15 973 ((q).toNat) = (Xi T1 904 113) := by rw [eU15]; exact Xi_same (by unfold rg; omega)
        refine l_goto rfl rfl ?_
        refine l_return rfl rfl ?_
        have w178 : Xi U15 969 (q).toNat = Xi T1 969 (q).toNat := (show Xi U15 969 (q).toNat = Xi T13 969 (q).toNat from by rw [eU15]; exact Xi_ne (by omega)).trans ( (show Xi T13 969 (q).toNat = Xi T9 969 (q).toNat from (w161.cx 969 rfl _).1).trans ((show Xi T9 969 (q).toNat = Xi T1 969 (q).toNat from (w112.cx 969 rfl _).1)))
        have w179 : Xi U15 971 (q).toNat = Xi T1 971 (q).toNat := (show Xi U15 971 (q).toNat = Xi T13 971 (q).toNat from by rw [eU15]; exact Xi_ne (by omega)).trans ( (show Xi T13 971 (q).toNat = Xi T9 971 (q).toNat from (w161.cx 971 rfl _).1).trans ((show Xi T9 971 (q).toNat = Xi T1 971 (q).toNat from (w112.cx 971 rfl _).1)))
        have w180 : Xi U15 972 (q).toNat = Xi T1 972 (q).toNat := (show Xi U15 972 (q).toNat = Xi T13 972 (q).toNat from by rw [eU15]; exact Xi_ne (by omega)).trans ( (show Xi T13 972 (q).toNat = Xi T9 972 (q).toNat from (w161.cx 972 rfl _).1).trans ((show Xi T9 972 (q).toNat = Xi T1 972 (q).toNat from (w112.cx 972 rfl _).1)))
        have w181 : Xi U15 974 (q).toNat = Xi T1 974 (q).toNat := (show Xi U15 974 (q).toNat = Xi T13 974 (q).toNat from by rw [eU15]; exact Xi_ne (by omega)).trans ( (show Xi T13 974 (q).toNat = Xi T9 974 (q).toNat from (w161.cx 974 rfl _).1).trans ((show Xi T9 974 (q).toNat = Xi T1 974 (q).toNat from (w112.cx 974 rfl _).1)))
        have w182 : Xi U15 975 (q).toNat = Xi T1 975 (q).toNat := (show Xi U15 975 (q).toNat = Xi T13 975 (q).toNat from by rw [eU15]; exact Xi_ne (by omega)).trans ( (show Xi T13 975 (q).toNat = Xi T9 975 (q).toNat from (w161.cx 975 rfl _).1).trans ((show Xi T9 975 (q).toNat = Xi T1 975 (q).toNat from (w112.cx 975 rfl _).1)))
        have w183 : Xi U15 904 106 = Xi T13 904 106 := (show Xi U15 904 106 = Xi T13 904 106 from by rw [eU15]; exact Xi_ne (by omega))
        have w184 : 0 ≤ Xi T13 904 106 ∧ Xi T13 904 106 ≤ 9 := hHT13.c _ _
        have w185 : Xi U15 904 113 = Xi T1 904 113 := (show Xi U15 904 113 = Xi T13 904 113 from by rw [eU15]; exact Xi_ne (by omega)).trans ( (show Xi T13 904 113 = Xi T9 904 113 from w161.x _ _ rfl).trans ((show Xi T9 904 113 = Xi T1 904 113 from w112.x _ _ rfl)))
        have w187 : Xi U15 904 69 = Xi T1 904 69 := (show Xi U15 904 69 = Xi T13 904 69 from by rw [eU15]; exact Xi_ne (by omega)).trans ( (show Xi T13 904 69 = Xi T9 904 69 from w161.x _ _ rfl).trans ((show Xi T9 904 69 = Xi T1 904 69 from w112.x _ _ rfl)))
        have w188 : 0 ≤ Xi T1 904 69 ∧ Xi T1 904 69 ≤ 2600 := hHT1.c _ _
        exact ⟨hHU15, hFU15, rfl, (by omega), (by first | exact (fun _ q => syq_5 (f52 (by omega)) h52.1 h52.2.1 h52.2.2 (hFU15.x 904 19 rfl) (by omega) (by omega) (by omega) (by omega)) f52 | exact (fun _ q => tq_3 (by omega) (thk_c (H209) (hFU15.x 904 19 rfl) (by omega)) (adx_c (W209 (by omega)) (hFU15.x 904 23 rfl) (hFU15.x 904 32 rfl) (by omega))) W209 | exact (fun _ q => tq_4 (by omega) (thk_c (H277 (by omega)) (hFU15.x 904 19 rfl) (by omega))) q299 | exact (fun _ q => tq_2 (by omega) (thk_c (H328 (by omega)) (hFU15.x 904 19 rfl) (by omega)) (by have a := hFU15.x 904 32 rfl; omega) (fun _ => o386)) o386 | exact (fun _ q => tq_2 (by omega) (thk_c (H328 (by omega)) (hFU15.x 904 19 rfl) (by omega)) (by have a := hFU15.x 904 32 rfl; omega) (fun y => absurd y (by omega))) p337 | exact fun x => absurd x (by omega)), (by first | exact fun x y => ⟨Or.inr (Or.inr (by omega)), fun z => absurd z (by omega)⟩ | exact fun x y => ⟨by have t := hnf y; omega, fun z => absurd z (by omega)⟩ | exact (fun _ x0 => fun y => ⟨by omega, fun _ z => by rw [(hFU15.cx 922 rfl _).1, show Xi U15 973 (q).toNat = Xi T1 904 113 by omega]; exact (W209 (by omega)).2 (by omega) (by omega)⟩) W209 | exact fun x => absurd x (by omega)), ((KQ.w (KQ_FR w161 rfl (KQ_FR w112 rfl (by assumption : KQ T1 S _))) eU15 (by omega)))⟩
set_option maxRecDepth 100000 in
set_option maxHeartbeats 8000000 in
theorem c328_mo_testMeant {S : sS} (hH : HI S) (n : Nat) (i : Int) (q : Int) (isNow : Int) (hi : 0 ≤ i ∧ i ≤ 1699) (hq : 0 ≤ q ∧ q ≤ 2399) (hisNow : 0 ≤ isNow ∧ isNow ≤ 1) (hT : TK S n) (hv : RNV S n) (hM : LXM S) (hB : ABV S) (hC : DCM S) (hK : TXK S n) (htv : TV S n i.toNat) (hnf : NFX S isNow i) (d : Nat) : ∀  (T16 : sS) (_ : HI T16) (_ : FR md_mo_testMeant S T16) (v4 : Int), (-9 ≤ v4 ∧ v4 ≤ 23) → (Xi T16 969 (q).toNat = Xi S 952 i.toNat) → (Xi S 904 106 ≠ 0 → Xi T16 904 106 ≠ 0) → (Xi T16 904 69 = Xi S 904 69) → (KQ T16 S q) → (Xi T16 971 (q).toNat = v4) → (v4 = -9 → Xi T16 904 106 ≠ 0) → (v4 ≠ -9 → -2 ≤ v4) → (v4 ≠ -9 → thK S (0 ≤ Xi S 904 115) (0 ≤ Xi S 904 116) v4) → (Xi S 952 i.toNat ≤ 2) → Rl lay0 (d + 6) m_mo_testMeant 328 [(0, .ref 904), (1, iv i), (2, iv q), (4, iv v4)] [] T16 (Q_mo_testMeant S n i q isNow) := by
  have hF : FR md_mo_testMeant S S := FR.rf
  have w1 : 0 ≤ Xi S 904 106 ∧ Xi S 904 106 ≤ 9 := hH.c _ _
  have w2 : -1 ≤ Xi S 904 113 ∧ Xi S 904 113 ≤ 6411 := hH.c _ _
  have w3 : -1 ≤ Xi S 904 115 ∧ Xi S 904 115 ≤ 15 := hH.c _ _
  have w4 : -1 ≤ Xi S 904 116 ∧ Xi S 904 116 ≤ 15 := hH.c _ _
  have w5 : 0 ≤ Xi S 904 69 ∧ Xi S 904 69 ≤ 2600 := hH.c _ _
  have hn5 := hT.1
  have hc69 : 0 ≤ Xi S 904 69 ∧ Xi S 904 69 ≤ 2600 := hH.c _ _
  have hc32 : 0 ≤ Xi S 904 32 ∧ Xi S 904 32 ≤ 12 := hH.c _ _
  have hc952 : 0 ≤ Xi S 952 i.toNat ∧ Xi S 952 i.toNat ≤ 5 := hH.c 952 _
  have hte := htv.1
  have hrf : ∀ r : Int, 0 ≤ r → r < Xi S 904 69 → Xi S 950 r.toNat + Xi S 951 r.toNat ≤ n ∧ 1 ≤ Xi S 951 r.toNat := fun r a b => hv r.toNat (by omega)
  intro T16 hHT16 hFT16 v4 w189 w190 w191 w192 K328 w193 w194 w195 H328 w196
  have w197 : Xi T16 904 115 = Xi S 904 115 := hFT16.x _ _ rfl
  have w198 : Xi T16 904 116 = Xi S 904 116 := hFT16.x _ _ rfl
  have w199 : Xi T16 904 19 = Xi S 904 19 := hFT16.x _ _ rfl
  have w200 : Xi T16 904 32 = Xi S 904 32 := hFT16.x _ _ rfl
  have w201 : Xi T16 904 69 = Xi S 904 69 := hFT16.x _ _ rfl
  have w202 : 0 ≤ Xi T16 904 106 ∧ Xi T16 904 106 ≤ 9 := hHT16.c _ _
  have w203 : 0 ≤ Xi T16 904 69 ∧ Xi T16 904 69 ≤ 2600 := hHT16.c _ _
  refine l_aload_n rfl rfl ?_
  refine l_aload_n rfl rfl ?_
  refine l_gfr rfl rfl rfl rfl rfl (hHT16.r 904 86 956 rfl) ?_
  refine l_iload_n rfl rfl ?_
  refine l_iaload (n := 1700) rfl rfl (by omega) (by omega) (by unfold rg; omega) ?_
  have w204 : 0 ≤ (Xi T16 956 ((i).toNat)) ∧ (Xi T16 956 ((i).toNat)) ≤ 2600 := hHT16.c _ _
  have e334 : (Xi T16 956 ((i).toNat)) = Xi S 956 (i).toNat := by first | rfl | exact (hFT16.cx 956 rfl _).1 | exact (hFT16.cx 956 rfl _).1 | exact (hFT16.cx 956 rfl _).1
  have t334 := htv.2.2.1 (by omega)
  refine l_iload rfl rfl ?_
  have w207 : 0 ≤ Xi T16 904 32 ∧ Xi T16 904 32 ≤ 12 := hHT16.c _ _
  refine l_callV rfl rfl rfl (t_mo_propertyMeant__2 hHT16 n (Xi T16 956 ((i).toNat)) v4 ⟨by omega, by omega⟩ ⟨by omega, by omega⟩ (by first | assumption | exact (TK_FR hFT16 rfl (by assumption : TK S _))) (by first | assumption | exact (RNV_FR hFT16 rfl (by assumption : RNV S _))) (by first | assumption | omega) (by first | assumption | exact (LXM_FR hFT16 rfl (by assumption : LXM S))) (by first | assumption | exact (ABV_FR hFT16 rfl (by assumption : ABV S))) (by first | assumption | omega) _) ?_
  rintro _ T17 ⟨hHT17, w214, z213, rfl, w213, p337, w209, w210, w211, w212⟩
  have hFT17 : FR md_mo_testMeant S T17 := FR.tr hFT16 w214 rfl
  show Rl _ _ _ _ _ [iv z213] _ _
  refine l_istore rfl rfl rfl ?_
  refine l_aload_n rfl rfl ?_
  refine l_gfr rfl rfl rfl rfl rfl (hHT17.r 904 121 972 rfl) ?_
  refine l_iload_n rfl rfl ?_
  refine l_iload rfl rfl ?_
  refine l_iastore (n := 2400) rfl rfl (by omega) (by omega) (by unfold rg; omega) ?_
  obtain ⟨U18, eU18⟩ : ∃ T : sS, T = uI T17 972 ((q).toNat) (Int32.ofInt z213) := ⟨_, rfl⟩
  rw [← eU18]
  have hHU18 : HI U18 := by rw [eU18]; exact HI_w hHT17 (show -1 ≤ z213 by omega) (show z213 ≤ 11 by omega)
  have hFU18 : FR md_mo_testMeant S U18 := by rw [eU18]; exact FR.wI hFT17 (mdf_i (r := (972, 973, 0, 100000)) (List.mem_of_getElem? (i := 8) rfl) (inR_i (by omega) (by omega) (by omega) (by omega)))
  have w215 : Xi U18 972 ((q).toNat) = z213 := by rw [eU18]; exact Xi_same (by unfold rg; omega)
  refine l_iload rfl rfl ?_
  refine l_iconst rfl ?_
  refine l_icmp_eq rfl rfl (by unfold rg; omega) (by unfold rg; omega) (fun w216 => ?_) (fun w217 => ?_)
  · refine l_aload_n rfl rfl ?_
    refine l_gfr rfl rfl rfl rfl rfl (hHU18.r 904 82 952 rfl) ?_
    refine l_iload_n rfl rfl ?_
    refine l_iaload (n := 1700) rfl rfl (by omega) (by omega) (by unfold rg; omega) ?_
    have w218 : 0 ≤ (Xi U18 952 ((i).toNat)) ∧ (Xi U18 952 ((i).toNat)) ≤ 5 := hHU18.c _ _
    have e397 : (Xi U18 952 ((i).toNat)) = Xi S 952 (i).toNat := by first | rfl | exact (hFU18.cx 952 rfl _).1 | exact (hFT17.cx 952 rfl _).1 | exact (hFT16.cx 952 rfl _).1
    refine l_if_eq rfl rfl (by unfold rg; omega) (fun w219 => ?_) (fun w220 => ?_)
    · refine l_return rfl rfl ?_
      have w221 : Xi U18 969 (q).toNat = Xi T16 969 (q).toNat := (show Xi U18 969 (q).toNat = Xi T17 969 (q).toNat from by rw [eU18]; exact Xi_ne (by omega)).trans ((show Xi T17 969 (q).toNat = Xi T16 969 (q).toNat from (w214.cx 969 rfl _).1))
      have w222 : Xi U18 971 (q).toNat = Xi T16 971 (q).toNat := (show Xi U18 971 (q).toNat = Xi T17 971 (q).toNat from by rw [eU18]; exact Xi_ne (by omega)).trans ((show Xi T17 971 (q).toNat = Xi T16 971 (q).toNat from (w214.cx 971 rfl _).1))
      have w223 : Xi U18 973 (q).toNat = Xi T16 973 (q).toNat := (show Xi U18 973 (q).toNat = Xi T17 973 (q).toNat from by rw [eU18]; exact Xi_ne (by omega)).trans ((show Xi T17 973 (q).toNat = Xi T16 973 (q).toNat from (w214.cx 973 rfl _).1))
      have w224 : Xi U18 974 (q).toNat = Xi T16 974 (q).toNat := (show Xi U18 974 (q).toNat = Xi T17 974 (q).toNat from by rw [eU18]; exact Xi_ne (by omega)).trans ((show Xi T17 974 (q).toNat = Xi T16 974 (q).toNat from (w214.cx 974 rfl _).1))
      have w225 : Xi U18 975 (q).toNat = Xi T16 975 (q).toNat := (show Xi U18 975 (q).toNat = Xi T17 975 (q).toNat from by rw [eU18]; exact Xi_ne (by omega)).trans ((show Xi T17 975 (q).toNat = Xi T16 975 (q).toNat from (w214.cx 975 rfl _).1))
      have w226 : Xi U18 904 106 = Xi T17 904 106 := (show Xi U18 904 106 = Xi T17 904 106 from by rw [eU18]; exact Xi_ne (by omega))
      have w227 : 0 ≤ Xi T17 904 106 ∧ Xi T17 904 106 ≤ 9 := hHT17.c _ _
      have w228 : Xi U18 904 113 = Xi T16 904 113 := (show Xi U18 904 113 = Xi T17 904 113 from by rw [eU18]; exact Xi_ne (by omega)).trans ((show Xi T17 904 113 = Xi T16 904 113 from w214.x _ _ rfl))
      have w229 : -1 ≤ Xi T16 904 113 ∧ Xi T16 904 113 ≤ 6411 := hHT16.c _ _
      have w230 : Xi U18 904 69 = Xi T16 904 69 := (show Xi U18 904 69 = Xi T17 904 69 from by rw [eU18]; exact Xi_ne (by omega)).trans ((show Xi T17 904 69 = Xi T16 904 69 from w214.x _ _ rfl))
      exact ⟨hHU18, hFU18, rfl, (by omega), (by first | exact (fun _ q => syq_5 (f52 (by omega)) h52.1 h52.2.1 h52.2.2 (hFU18.x 904 19 rfl) (by omega) (by omega) (by omega) (by omega)) f52 | exact (fun _ q => tq_3 (by omega) (thk_c (H209) (hFU18.x 904 19 rfl) (by omega)) (adx_c (W209 (by omega)) (hFU18.x 904 23 rfl) (hFU18.x 904 32 rfl) (by omega))) W209 | exact (fun _ q => tq_4 (by omega) (thk_c (H277 (by omega)) (hFU18.x 904 19 rfl) (by omega))) q299 | exact (fun _ q => tq_2 (by omega) (thk_c (H328 (by omega)) (hFU18.x 904 19 rfl) (by omega)) (by have a := hFU18.x 904 32 rfl; omega) (fun _ => o386)) o386 | exact (fun _ q => tq_2 (by omega) (thk_c (H328 (by omega)) (hFU18.x 904 19 rfl) (by omega)) (by have a := hFU18.x 904 32 rfl; omega) (fun y => absurd y (by omega))) p337 | exact fun x => absurd x (by omega)), (by first | exact fun x y => ⟨Or.inr (Or.inr (by omega)), fun z => absurd z (by omega)⟩ | exact fun x y => ⟨by have t := hnf y; omega, fun z => absurd z (by omega)⟩ | exact (fun _ x0 => fun y => ⟨by omega, fun _ z => by rw [(hFU18.cx 922 rfl _).1, show Xi U18 973 (q).toNat = Xi T16 904 113 by omega]; exact (W209 (by omega)).2 (by omega) (by omega)⟩) W209 | exact fun x => absurd x (by omega)), ((KQ.w (KQ_FR w214 rfl (by assumption : KQ T16 S _)) eU18 (by omega)))⟩
    · refine l_aload_n rfl rfl ?_
      refine l_aload_n rfl rfl ?_
      refine l_gfr rfl rfl rfl rfl rfl (hHU18.r 904 86 956 rfl) ?_
      refine l_iload_n rfl rfl ?_
      refine l_iaload (n := 1700) rfl rfl (by omega) (by omega) (by unfold rg; omega) ?_
      have w232 : (Xi U18 956 ((i).toNat)) = (Xi T16 956 ((i).toNat)) := (show Xi U18 956 ((i).toNat) = Xi T17 956 ((i).toNat) from by rw [eU18]; exact Xi_ne (by omega)).trans ((show Xi T17 956 ((i).toNat) = Xi T16 956 ((i).toNat) from w214.x _ _ rfl))
      rw [w232]
      have e407 : (Xi T16 956 ((i).toNat)) = Xi S 956 (i).toNat := by first | rfl | exact (hFU18.cx 956 rfl _).1 | exact (hFT17.cx 956 rfl _).1 | exact (hFT16.cx 956 rfl _).1
      have t407 := htv.2.2.1 (by omega)
      have w233 : Xi U18 904 106 = Xi T17 904 106 := (show Xi U18 904 106 = Xi T17 904 106 from by rw [eU18]; exact Xi_ne (by omega))
      have w234 : 0 ≤ Xi T17 904 106 ∧ Xi T17 904 106 ≤ 9 := hHT17.c _ _
      have w237 : Xi U18 904 69 = Xi T16 904 69 := (show Xi U18 904 69 = Xi T17 904 69 from by rw [eU18]; exact Xi_ne (by omega)).trans ((show Xi T17 904 69 = Xi T16 904 69 from w214.x _ _ rfl))
      refine l_callV rfl rfl rfl (t_mo_numberMeant__2 hHU18 n (Xi T16 956 ((i).toNat)) ⟨by omega, by omega⟩ (by first | assumption | exact (TK_FR hFU18 rfl (by assumption : TK S _))) (by first | assumption | exact (RNV_FR hFU18 rfl (by assumption : RNV S _))) (by first | assumption | omega) (by first | assumption | exact (LXM_FR hFU18 rfl (by assumption : LXM S))) _) ?_
      rintro _ T19 ⟨hHT19, w242, rfl, w239, w240⟩
      have hFT19 : FR md_mo_testMeant S T19 := FR.tr hFU18 w242 rfl
      show Rl _ _ _ _ _ [] _ _
      refine l_aload_n rfl rfl ?_
      refine l_gfr rfl rfl rfl rfl rfl (hHT19.r 904 122 973 rfl) ?_
      refine l_iload_n rfl rfl ?_
      refine l_aload_n rfl rfl ?_
      refine l_gfr rfl rfl rfl rfl rfl (hHT19.r 904 7 910 rfl) ?_
      refine l_aload_n rfl rfl ?_
      refine l_gfr rfl rfl rfl rfl rfl (hHT19.r 904 87 957 rfl) ?_
      refine l_iload_n rfl rfl ?_
      refine l_iaload (n := 1700) rfl rfl (by omega) (by omega) (by unfold rg; omega) ?_
      have w243 : 0 ≤ (Xi T19 957 ((i).toNat)) ∧ (Xi T19 957 ((i).toNat)) ≤ 5010 := hHT19.c _ _
      have e425 : (Xi T19 957 ((i).toNat)) = Xi S 957 (i).toNat := by first | rfl | exact (hFT19.cx 957 rfl _).1 | exact (hFU18.cx 957 rfl _).1 | exact (hFT16.cx 957 rfl _).1
      have t425 := htv.2.2.2.2.1 (by omega)
      refine l_laload (n := 5002) rfl rfl (by omega) (by omega) (by unfold rg; omega) ?_
      have w244 : -9223372036854775808 ≤ (Xj T19 910 (((Xi T19 957 ((i).toNat))).toNat)) ∧ (Xj T19 910 (((Xi T19 957 ((i).toNat))).toNat)) < 9223372036854775808 := Xj_rg
      refine l_l2iA rfl (fun c245 w245 => ?_)
      refine l_iastore (n := 2400) rfl rfl (by omega) (by omega) (by unfold rg; omega) ?_
      obtain ⟨U20, eU20⟩ : ∃ T : sS, T = uI T19 973 ((q).toNat) (Int32.ofInt c245) := ⟨_, rfl⟩
      rw [← eU20]
      have hHU20 : HI U20 := by rw [eU20]; exact HI_any hHT19 (rfl)
      have hFU20 : FR md_mo_testMeant S U20 := by rw [eU20]; exact FR.wI hFT19 (mdf_i (r := (973, 974, 0, 100000)) (List.mem_of_getElem? (i := 9) rfl) (inR_i (by omega) (by omega) (by omega) (by omega)))
      have w246 : Xi U20 973 ((q).toNat) = c245 := by rw [eU20]; exact Xi_same (by unfold rg; omega)
      refine l_return rfl rfl ?_
      have w247 : Xi U20 969 (q).toNat = Xi T16 969 (q).toNat := (show Xi U20 969 (q).toNat = Xi T19 969 (q).toNat from by rw [eU20]; exact Xi_ne (by omega)).trans ( (show Xi T19 969 (q).toNat = Xi U18 969 (q).toNat from (w242.cx 969 rfl _).1).trans ( (show Xi U18 969 (q).toNat = Xi T17 969 (q).toNat from by rw [eU18]; exact Xi_ne (by omega)).trans ((show Xi T17 969 (q).toNat = Xi T16 969 (q).toNat from (w214.cx 969 rfl _).1))))
      have w248 : Xi U20 971 (q).toNat = Xi T16 971 (q).toNat := (show Xi U20 971 (q).toNat = Xi T19 971 (q).toNat from by rw [eU20]; exact Xi_ne (by omega)).trans ( (show Xi T19 971 (q).toNat = Xi U18 971 (q).toNat from (w242.cx 971 rfl _).1).trans ( (show Xi U18 971 (q).toNat = Xi T17 971 (q).toNat from by rw [eU18]; exact Xi_ne (by omega)).trans ((show Xi T17 971 (q).toNat = Xi T16 971 (q).toNat from (w214.cx 971 rfl _).1))))
      have w249 : Xi U20 972 (q).toNat = Xi U18 972 (q).toNat := (show Xi U20 972 (q).toNat = Xi T19 972 (q).toNat from by rw [eU20]; exact Xi_ne (by omega)).trans ((show Xi T19 972 (q).toNat = Xi U18 972 (q).toNat from (w242.cx 972 rfl _).1))
      have w250 : Xi U20 974 (q).toNat = Xi T16 974 (q).toNat := (show Xi U20 974 (q).toNat = Xi T19 974 (q).toNat from by rw [eU20]; exact Xi_ne (by omega)).trans ( (show Xi T19 974 (q).toNat = Xi U18 974 (q).toNat from (w242.cx 974 rfl _).1).trans ( (show Xi U18 974 (q).toNat = Xi T17 974 (q).toNat from by rw [eU18]; exact Xi_ne (by omega)).trans ((show Xi T17 974 (q).toNat = Xi T16 974 (q).toNat from (w214.cx 974 rfl _).1))))
      have w251 : Xi U20 975 (q).toNat = Xi T16 975 (q).toNat := (show Xi U20 975 (q).toNat = Xi T19 975 (q).toNat from by rw [eU20]; exact Xi_ne (by omega)).trans ( (show Xi T19 975 (q).toNat = Xi U18 975 (q).toNat from (w242.cx 975 rfl _).1).trans ( (show Xi U18 975 (q).toNat = Xi T17 975 (q).toNat from by rw [eU18]; exact Xi_ne (by omega)).trans ((show Xi T17 975 (q).toNat = Xi T16 975 (q).toNat from (w214.cx 975 rfl _).1))))
      have w252 : Xi U20 904 106 = Xi T19 904 106 := (show Xi U20 904 106 = Xi T19 904 106 from by rw [eU20]; exact Xi_ne (by omega))
      have w253 : 0 ≤ Xi T19 904 106 ∧ Xi T19 904 106 ≤ 9 := hHT19.c _ _
      have w254 : Xi U20 904 113 = Xi T16 904 113 := (show Xi U20 904 113 = Xi T19 904 113 from by rw [eU20]; exact Xi_ne (by omega)).trans ( (show Xi T19 904 113 = Xi U18 904 113 from w242.x _ _ rfl).trans ( (show Xi U18 904 113 = Xi T17 904 113 from by rw [eU18]; exact Xi_ne (by omega)).trans ((show Xi T17 904 113 = Xi T16 904 113 from w214.x _ _ rfl))))
      have w255 : -1 ≤ Xi T16 904 113 ∧ Xi T16 904 113 ≤ 6411 := hHT16.c _ _
      have w256 : Xi U20 904 69 = Xi T16 904 69 := (show Xi U20 904 69 = Xi T19 904 69 from by rw [eU20]; exact Xi_ne (by omega)).trans ( (show Xi T19 904 69 = Xi U18 904 69 from w242.x _ _ rfl).trans ( (show Xi U18 904 69 = Xi T17 904 69 from by rw [eU18]; exact Xi_ne (by omega)).trans ((show Xi T17 904 69 = Xi T16 904 69 from w214.x _ _ rfl))))
      exact ⟨hHU20, hFU20, rfl, (by omega), (by first | exact (fun _ q => syq_5 (f52 (by omega)) h52.1 h52.2.1 h52.2.2 (hFU20.x 904 19 rfl) (by omega) (by omega) (by omega) (by omega)) f52 | exact (fun _ q => tq_3 (by omega) (thk_c (H209) (hFU20.x 904 19 rfl) (by omega)) (adx_c (W209 (by omega)) (hFU20.x 904 23 rfl) (hFU20.x 904 32 rfl) (by omega))) W209 | exact (fun _ q => tq_4 (by omega) (thk_c (H277 (by omega)) (hFU20.x 904 19 rfl) (by omega))) q299 | exact (fun _ q => tq_2 (by omega) (thk_c (H328 (by omega)) (hFU20.x 904 19 rfl) (by omega)) (by have a := hFU20.x 904 32 rfl; omega) (fun _ => o386)) o386 | exact (fun _ q => tq_2 (by omega) (thk_c (H328 (by omega)) (hFU20.x 904 19 rfl) (by omega)) (by have a := hFU20.x 904 32 rfl; omega) (fun y => absurd y (by omega))) p337 | exact fun x => absurd x (by omega)), (by first | exact fun x y => ⟨Or.inr (Or.inr (by omega)), fun z => absurd z (by omega)⟩ | exact fun x y => ⟨by have t := hnf y; omega, fun z => absurd z (by omega)⟩ | exact (fun _ x0 => fun y => ⟨by omega, fun _ z => by rw [(hFU20.cx 922 rfl _).1, show Xi U20 973 (q).toNat = Xi T16 904 113 by omega]; exact (W209 (by omega)).2 (by omega) (by omega)⟩) W209 | exact fun x => absurd x (by omega)), ((KQ.w (KQ_FR w242 rfl (KQ.w (KQ_FR w214 rfl (by assumption : KQ T16 S _)) eU18 (by omega))) eU20 (by omega)))⟩
  · refine l_aload_n rfl rfl ?_
    refine l_gfr rfl rfl rfl rfl rfl (hHU18.r 904 82 952 rfl) ?_
    refine l_iload_n rfl rfl ?_
    refine l_iaload (n := 1700) rfl rfl (by omega) (by omega) (by unfold rg; omega) ?_
    have w258 : 0 ≤ (Xi U18 952 ((i).toNat)) ∧ (Xi U18 952 ((i).toNat)) ≤ 5 := hHU18.c _ _
    have e361 : (Xi U18 952 ((i).toNat)) = Xi S 952 (i).toNat := by first | rfl | exact (hFU18.cx 952 rfl _).1 | exact (hFT17.cx 952 rfl _).1 | exact (hFT16.cx 952 rfl _).1
    refine l_if_ne rfl rfl (by unfold rg; omega) (fun w259 => ?_) (fun w260 => ?_)
    · refine l_aload_n rfl rfl ?_
      refine l_gfr rfl rfl rfl rfl rfl (hHU18.r 904 82 952 rfl) ?_
      refine l_iload_n rfl rfl ?_
      refine l_iaload (n := 1700) rfl rfl (by omega) (by omega) (by unfold rg; omega) ?_
      have e397 : (Xi U18 952 ((i).toNat)) = Xi S 952 (i).toNat := by first | rfl | exact (hFU18.cx 952 rfl _).1 | exact (hFT17.cx 952 rfl _).1 | exact (hFT16.cx 952 rfl _).1
      refine l_if_eq rfl rfl (by unfold rg; omega) (fun w261 => ?_) (fun w262 => ?_)
      · refine l_return rfl rfl ?_
        have w263 : Xi U18 969 (q).toNat = Xi T16 969 (q).toNat := (show Xi U18 969 (q).toNat = Xi T17 969 (q).toNat from by rw [eU18]; exact Xi_ne (by omega)).trans ((show Xi T17 969 (q).toNat = Xi T16 969 (q).toNat from (w214.cx 969 rfl _).1))
        have w264 : Xi U18 971 (q).toNat = Xi T16 971 (q).toNat := (show Xi U18 971 (q).toNat = Xi T17 971 (q).toNat from by rw [eU18]; exact Xi_ne (by omega)).trans ((show Xi T17 971 (q).toNat = Xi T16 971 (q).toNat from (w214.cx 971 rfl _).1))
        have w265 : Xi U18 973 (q).toNat = Xi T16 973 (q).toNat := (show Xi U18 973 (q).toNat = Xi T17 973 (q).toNat from by rw [eU18]; exact Xi_ne (by omega)).trans ((show Xi T17 973 (q).toNat = Xi T16 973 (q).toNat from (w214.cx 973 rfl _).1))
        have w266 : Xi U18 974 (q).toNat = Xi T16 974 (q).toNat := (show Xi U18 974 (q).toNat = Xi T17 974 (q).toNat from by rw [eU18]; exact Xi_ne (by omega)).trans ((show Xi T17 974 (q).toNat = Xi T16 974 (q).toNat from (w214.cx 974 rfl _).1))
        have w267 : Xi U18 975 (q).toNat = Xi T16 975 (q).toNat := (show Xi U18 975 (q).toNat = Xi T17 975 (q).toNat from by rw [eU18]; exact Xi_ne (by omega)).trans ((show Xi T17 975 (q).toNat = Xi T16 975 (q).toNat from (w214.cx 975 rfl _).1))
        have w268 : Xi U18 904 106 = Xi T17 904 106 := (show Xi U18 904 106 = Xi T17 904 106 from by rw [eU18]; exact Xi_ne (by omega))
        have w269 : 0 ≤ Xi T17 904 106 ∧ Xi T17 904 106 ≤ 9 := hHT17.c _ _
        have w270 : Xi U18 904 113 = Xi T16 904 113 := (show Xi U18 904 113 = Xi T17 904 113 from by rw [eU18]; exact Xi_ne (by omega)).trans ((show Xi T17 904 113 = Xi T16 904 113 from w214.x _ _ rfl))
        have w271 : -1 ≤ Xi T16 904 113 ∧ Xi T16 904 113 ≤ 6411 := hHT16.c _ _
        have w272 : Xi U18 904 69 = Xi T16 904 69 := (show Xi U18 904 69 = Xi T17 904 69 from by rw [eU18]; exact Xi_ne (by omega)).trans ((show Xi T17 904 69 = Xi T16 904 69 from w214.x _ _ rfl))
        exact ⟨hHU18, hFU18, rfl, (by omega), (by first | exact (fun _ q => syq_5 (f52 (by omega)) h52.1 h52.2.1 h52.2.2 (hFU18.x 904 19 rfl) (by omega) (by omega) (by omega) (by omega)) f52 | exact (fun _ q => tq_3 (by omega) (thk_c (H209) (hFU18.x 904 19 rfl) (by omega)) (adx_c (W209 (by omega)) (hFU18.x 904 23 rfl) (hFU18.x 904 32 rfl) (by omega))) W209 | exact (fun _ q => tq_4 (by omega) (thk_c (H277 (by omega)) (hFU18.x 904 19 rfl) (by omega))) q299 | exact (fun _ q => tq_2 (by omega) (thk_c (H328 (by omega)) (hFU18.x 904 19 rfl) (by omega)) (by have a := hFU18.x 904 32 rfl; omega) (fun _ => o386)) o386 | exact (fun _ q => tq_2 (by omega) (thk_c (H328 (by omega)) (hFU18.x 904 19 rfl) (by omega)) (by have a := hFU18.x 904 32 rfl; omega) (fun y => absurd y (by omega))) p337 | exact fun x => absurd x (by omega)), (by first | exact fun x y => ⟨Or.inr (Or.inr (by omega)), fun z => absurd z (by omega)⟩ | exact fun x y => ⟨by have t := hnf y; omega, fun z => absurd z (by omega)⟩ | exact (fun _ x0 => fun y => ⟨by omega, fun _ z => by rw [(hFU18.cx 922 rfl _).1, show Xi U18 973 (q).toNat = Xi T16 904 113 by omega]; exact (W209 (by omega)).2 (by omega) (by omega)⟩) W209 | exact fun x => absurd x (by omega)), ((KQ.w (KQ_FR w214 rfl (by assumption : KQ T16 S _)) eU18 (by omega)))⟩
      · refine l_aload_n rfl rfl ?_
        refine l_aload_n rfl rfl ?_
        refine l_gfr rfl rfl rfl rfl rfl (hHU18.r 904 86 956 rfl) ?_
        refine l_iload_n rfl rfl ?_
        refine l_iaload (n := 1700) rfl rfl (by omega) (by omega) (by unfold rg; omega) ?_
        have w274 : (Xi U18 956 ((i).toNat)) = (Xi T16 956 ((i).toNat)) := (show Xi U18 956 ((i).toNat) = Xi T17 956 ((i).toNat) from by rw [eU18]; exact Xi_ne (by omega)).trans ((show Xi T17 956 ((i).toNat) = Xi T16 956 ((i).toNat) from w214.x _ _ rfl))
        rw [w274]
        have e407 : (Xi T16 956 ((i).toNat)) = Xi S 956 (i).toNat := by first | rfl | exact (hFU18.cx 956 rfl _).1 | exact (hFT17.cx 956 rfl _).1 | exact (hFT16.cx 956 rfl _).1
        have t407 := htv.2.2.1 (by omega)
        have w275 : Xi U18 904 106 = Xi T17 904 106 := (show Xi U18 904 106 = Xi T17 904 106 from by rw [eU18]; exact Xi_ne (by omega))
        have w276 : 0 ≤ Xi T17 904 106 ∧ Xi T17 904 106 ≤ 9 := hHT17.c _ _
        have w279 : Xi U18 904 69 = Xi T16 904 69 := (show Xi U18 904 69 = Xi T17 904 69 from by rw [eU18]; exact Xi_ne (by omega)).trans ((show Xi T17 904 69 = Xi T16 904 69 from w214.x _ _ rfl))
        refine l_callV rfl rfl rfl (t_mo_numberMeant__2 hHU18 n (Xi T16 956 ((i).toNat)) ⟨by omega, by omega⟩ (by first | assumption | exact (TK_FR hFU18 rfl (by assumption : TK S _))) (by first | assumption | exact (RNV_FR hFU18 rfl (by assumption : RNV S _))) (by first | assumption | omega) (by first | assumption | exact (LXM_FR hFU18 rfl (by assumption : LXM S))) _) ?_
        rintro _ T21 ⟨hHT21, w284, rfl, w281, w282⟩
        have hFT21 : FR md_mo_testMeant S T21 := FR.tr hFU18 w284 rfl
        show Rl _ _ _ _ _ [] _ _
        refine l_aload_n rfl rfl ?_
        refine l_gfr rfl rfl rfl rfl rfl (hHT21.r 904 122 973 rfl) ?_
        refine l_iload_n rfl rfl ?_
        refine l_aload_n rfl rfl ?_
        refine l_gfr rfl rfl rfl rfl rfl (hHT21.r 904 7 910 rfl) ?_
        refine l_aload_n rfl rfl ?_
        refine l_gfr rfl rfl rfl rfl rfl (hHT21.r 904 87 957 rfl) ?_
        refine l_iload_n rfl rfl ?_
        refine l_iaload (n := 1700) rfl rfl (by omega) (by omega) (by unfold rg; omega) ?_
        have w285 : 0 ≤ (Xi T21 957 ((i).toNat)) ∧ (Xi T21 957 ((i).toNat)) ≤ 5010 := hHT21.c _ _
        have e425 : (Xi T21 957 ((i).toNat)) = Xi S 957 (i).toNat := by first | rfl | exact (hFT21.cx 957 rfl _).1 | exact (hFU18.cx 957 rfl _).1 | exact (hFT16.cx 957 rfl _).1
        have t425 := htv.2.2.2.2.1 (by omega)
        refine l_laload (n := 5002) rfl rfl (by omega) (by omega) (by unfold rg; omega) ?_
        have w286 : -9223372036854775808 ≤ (Xj T21 910 (((Xi T21 957 ((i).toNat))).toNat)) ∧ (Xj T21 910 (((Xi T21 957 ((i).toNat))).toNat)) < 9223372036854775808 := Xj_rg
        refine l_l2iA rfl (fun c287 w287 => ?_)
        refine l_iastore (n := 2400) rfl rfl (by omega) (by omega) (by unfold rg; omega) ?_
        obtain ⟨U22, eU22⟩ : ∃ T : sS, T = uI T21 973 ((q).toNat) (Int32.ofInt c287) := ⟨_, rfl⟩
        rw [← eU22]
        have hHU22 : HI U22 := by rw [eU22]; exact HI_any hHT21 (rfl)
        have hFU22 : FR md_mo_testMeant S U22 := by rw [eU22]; exact FR.wI hFT21 (mdf_i (r := (973, 974, 0, 100000)) (List.mem_of_getElem? (i := 9) rfl) (inR_i (by omega) (by omega) (by omega) (by omega)))
        have w288 : Xi U22 973 ((q).toNat) = c287 := by rw [eU22]; exact Xi_same (by unfold rg; omega)
        refine l_return rfl rfl ?_
        have w289 : Xi U22 969 (q).toNat = Xi T16 969 (q).toNat := (show Xi U22 969 (q).toNat = Xi T21 969 (q).toNat from by rw [eU22]; exact Xi_ne (by omega)).trans ( (show Xi T21 969 (q).toNat = Xi U18 969 (q).toNat from (w284.cx 969 rfl _).1).trans ( (show Xi U18 969 (q).toNat = Xi T17 969 (q).toNat from by rw [eU18]; exact Xi_ne (by omega)).trans ((show Xi T17 969 (q).toNat = Xi T16 969 (q).toNat from (w214.cx 969 rfl _).1))))
        have w290 : Xi U22 971 (q).toNat = Xi T16 971 (q).toNat := (show Xi U22 971 (q).toNat = Xi T21 971 (q).toNat from by rw [eU22]; exact Xi_ne (by omega)).trans ( (show Xi T21 971 (q).toNat = Xi U18 971 (q).toNat from (w284.cx 971 rfl _).1).trans ( (show Xi U18 971 (q).toNat = Xi T17 971 (q).toNat from by rw [eU18]; exact Xi_ne (by omega)).trans ((show Xi T17 971 (q).toNat = Xi T16 971 (q).toNat from (w214.cx 971 rfl _).1))))
        have w291 : Xi U22 972 (q).toNat = Xi U18 972 (q).toNat := (show Xi U22 972 (q).toNat = Xi T21 972 (q).toNat from by rw [eU22]; exact Xi_ne (by omega)).trans ((show Xi T21 972 (q).toNat = Xi U18 972 (q).toNat from (w284.cx 972 rfl _).1))
        have w292 : Xi U22 974 (q).toNat = Xi T16 974 (q).toNat := (show Xi U22 974 (q).toNat = Xi T21 974 (q).toNat from by rw [eU22]; exact Xi_ne (by omega)).trans ( (show Xi T21 974 (q).toNat = Xi U18 974 (q).toNat from (w284.cx 974 rfl _).1).trans ( (show Xi U18 974 (q).toNat = Xi T17 974 (q).toNat from by rw [eU18]; exact Xi_ne (by omega)).trans ((show Xi T17 974 (q).toNat = Xi T16 974 (q).toNat from (w214.cx 974 rfl _).1))))
        have w293 : Xi U22 975 (q).toNat = Xi T16 975 (q).toNat := (show Xi U22 975 (q).toNat = Xi T21 975 (q).toNat from by rw [eU22]; exact Xi_ne (by omega)).trans ( (show Xi T21 975 (q).toNat = Xi U18 975 (q).toNat from (w284.cx 975 rfl _).1).trans ( (show Xi U18 975 (q).toNat = Xi T17 975 (q).toNat from by rw [eU18]; exact Xi_ne (by omega)).trans ((show Xi T17 975 (q).toNat = Xi T16 975 (q).toNat from (w214.cx 975 rfl _).1))))
        have w294 : Xi U22 904 106 = Xi T21 904 106 := (show Xi U22 904 106 = Xi T21 904 106 from by rw [eU22]; exact Xi_ne (by omega))
        have w295 : 0 ≤ Xi T21 904 106 ∧ Xi T21 904 106 ≤ 9 := hHT21.c _ _
        have w296 : Xi U22 904 113 = Xi T16 904 113 := (show Xi U22 904 113 = Xi T21 904 113 from by rw [eU22]; exact Xi_ne (by omega)).trans ( (show Xi T21 904 113 = Xi U18 904 113 from w284.x _ _ rfl).trans ( (show Xi U18 904 113 = Xi T17 904 113 from by rw [eU18]; exact Xi_ne (by omega)).trans ((show Xi T17 904 113 = Xi T16 904 113 from w214.x _ _ rfl))))
        have w297 : -1 ≤ Xi T16 904 113 ∧ Xi T16 904 113 ≤ 6411 := hHT16.c _ _
        have w298 : Xi U22 904 69 = Xi T16 904 69 := (show Xi U22 904 69 = Xi T21 904 69 from by rw [eU22]; exact Xi_ne (by omega)).trans ( (show Xi T21 904 69 = Xi U18 904 69 from w284.x _ _ rfl).trans ( (show Xi U18 904 69 = Xi T17 904 69 from by rw [eU18]; exact Xi_ne (by omega)).trans ((show Xi T17 904 69 = Xi T16 904 69 from w214.x _ _ rfl))))
        exact ⟨hHU22, hFU22, rfl, (by omega), (by first | exact (fun _ q => syq_5 (f52 (by omega)) h52.1 h52.2.1 h52.2.2 (hFU22.x 904 19 rfl) (by omega) (by omega) (by omega) (by omega)) f52 | exact (fun _ q => tq_3 (by omega) (thk_c (H209) (hFU22.x 904 19 rfl) (by omega)) (adx_c (W209 (by omega)) (hFU22.x 904 23 rfl) (hFU22.x 904 32 rfl) (by omega))) W209 | exact (fun _ q => tq_4 (by omega) (thk_c (H277 (by omega)) (hFU22.x 904 19 rfl) (by omega))) q299 | exact (fun _ q => tq_2 (by omega) (thk_c (H328 (by omega)) (hFU22.x 904 19 rfl) (by omega)) (by have a := hFU22.x 904 32 rfl; omega) (fun _ => o386)) o386 | exact (fun _ q => tq_2 (by omega) (thk_c (H328 (by omega)) (hFU22.x 904 19 rfl) (by omega)) (by have a := hFU22.x 904 32 rfl; omega) (fun y => absurd y (by omega))) p337 | exact fun x => absurd x (by omega)), (by first | exact fun x y => ⟨Or.inr (Or.inr (by omega)), fun z => absurd z (by omega)⟩ | exact fun x y => ⟨by have t := hnf y; omega, fun z => absurd z (by omega)⟩ | exact (fun _ x0 => fun y => ⟨by omega, fun _ z => by rw [(hFU22.cx 922 rfl _).1, show Xi U22 973 (q).toNat = Xi T16 904 113 by omega]; exact (W209 (by omega)).2 (by omega) (by omega)⟩) W209 | exact fun x => absurd x (by omega)), ((KQ.w (KQ_FR w284 rfl (KQ.w (KQ_FR w214 rfl (by assumption : KQ T16 S _)) eU18 (by omega))) eU22 (by omega)))⟩
    · refine l_aload_n rfl rfl ?_
      refine l_aload_n rfl rfl ?_
      refine l_gfr rfl rfl rfl rfl rfl (hHU18.r 904 87 957 rfl) ?_
      refine l_iload_n rfl rfl ?_
      refine l_iaload (n := 1700) rfl rfl (by omega) (by omega) (by unfold rg; omega) ?_
      have w300 : 0 ≤ (Xi U18 957 ((i).toNat)) ∧ (Xi U18 957 ((i).toNat)) ≤ 5010 := hHU18.c _ _
      have e371 : (Xi U18 957 ((i).toNat)) = Xi S 957 (i).toNat := by first | rfl | exact (hFU18.cx 957 rfl _).1 | exact (hFT17.cx 957 rfl _).1 | exact (hFT16.cx 957 rfl _).1
      have t371 := htv.2.2.2.2.1 (by omega)
      refine l_aload_n rfl rfl ?_
      refine l_gfr rfl rfl rfl rfl rfl (hHU18.r 904 90 960 rfl) ?_
      refine l_iload_n rfl rfl ?_
      refine l_iaload (n := 1700) rfl rfl (by omega) (by omega) (by unfold rg; omega) ?_
      have w301 : -1 ≤ (Xi U18 960 ((i).toNat)) ∧ (Xi U18 960 ((i).toNat)) ≤ 2600 := hHU18.c _ _
      have e377 : (Xi U18 960 ((i).toNat)) = Xi S 960 (i).toNat := by first | rfl | exact (hFU18.cx 960 rfl _).1 | exact (hFT17.cx 960 rfl _).1 | exact (hFT16.cx 960 rfl _).1
      refine l_aload_n rfl rfl ?_
      refine l_gfr rfl rfl rfl rfl rfl (hHU18.r 904 33 928 rfl) ?_
      refine l_iload rfl rfl ?_
      refine l_iaload (n := 12) rfl rfl (by omega) (by omega) (by unfold rg; omega) ?_
      have w302 : 0 ≤ (Xi U18 928 ((z213).toNat)) ∧ (Xi U18 928 ((z213).toNat)) ≤ 7 := hHU18.c _ _
      refine l_iload_n rfl rfl ?_
      have w303 : Xi U18 904 106 = Xi T17 904 106 := (show Xi U18 904 106 = Xi T17 904 106 from by rw [eU18]; exact Xi_ne (by omega))
      have w304 : 0 ≤ Xi T17 904 106 ∧ Xi T17 904 106 ≤ 9 := hHT17.c _ _
      have w307 : Xi U18 904 69 = Xi T16 904 69 := (show Xi U18 904 69 = Xi T17 904 69 from by rw [eU18]; exact Xi_ne (by omega)).trans ((show Xi T17 904 69 = Xi T16 904 69 from w214.x _ _ rfl))
      refine l_callV rfl rfl rfl (t_mo_whatMeant hHU18 n (Xi U18 957 ((i).toNat)) (Xi U18 960 ((i).toNat)) (Xi U18 928 ((z213).toNat)) q ⟨by omega, by omega⟩ ⟨by omega, by omega⟩ ⟨by omega, by omega⟩ ⟨by omega, by omega⟩ (by first | assumption | exact (TK_FR hFU18 rfl (by assumption : TK S _))) (by first | assumption | exact (RNV_FR hFU18 rfl (by assumption : RNV S _))) (by first | assumption | exact (LXM_FR hFU18 rfl (by assumption : LXM S))) (by first | assumption | exact (TXK_FR hFU18 rfl (by assumption : TXK S _))) (by first | assumption | omega) (fun a b => by rw [(hFU18.cx 907 rfl _).1] at a b; have t := htv.2.2.2.2.2 (by omega) (by rw [← e371]; exact a) (by rw [← e371]; exact b); omega) _) ?_
      rintro _ T23 ⟨hHT23, w312, rfl, w309, o386, w310⟩
      have hFT23 : FR md_mo_testMeant S T23 := FR.tr hFU18 w312 rfl
      show Rl _ _ _ _ _ [] _ _
      refine l_goto rfl rfl ?_
      refine l_return rfl rfl ?_
      have w313 : Xi T23 969 (q).toNat = Xi T16 969 (q).toNat := (show Xi T23 969 (q).toNat = Xi U18 969 (q).toNat from (w312.cx 969 rfl _).1).trans ( (show Xi U18 969 (q).toNat = Xi T17 969 (q).toNat from by rw [eU18]; exact Xi_ne (by omega)).trans ((show Xi T17 969 (q).toNat = Xi T16 969 (q).toNat from (w214.cx 969 rfl _).1)))
      have w314 : Xi T23 971 (q).toNat = Xi T16 971 (q).toNat := (show Xi T23 971 (q).toNat = Xi U18 971 (q).toNat from (w312.cx 971 rfl _).1).trans ( (show Xi U18 971 (q).toNat = Xi T17 971 (q).toNat from by rw [eU18]; exact Xi_ne (by omega)).trans ((show Xi T17 971 (q).toNat = Xi T16 971 (q).toNat from (w214.cx 971 rfl _).1)))
      have w315 : Xi T23 972 (q).toNat = Xi U18 972 (q).toNat := (show Xi T23 972 (q).toNat = Xi U18 972 (q).toNat from (w312.cx 972 rfl _).1)
      have w316 : Xi T23 975 (q).toNat = Xi T16 975 (q).toNat := (show Xi T23 975 (q).toNat = Xi U18 975 (q).toNat from (w312.cx 975 rfl _).1).trans ( (show Xi U18 975 (q).toNat = Xi T17 975 (q).toNat from by rw [eU18]; exact Xi_ne (by omega)).trans ((show Xi T17 975 (q).toNat = Xi T16 975 (q).toNat from (w214.cx 975 rfl _).1)))
      have w317 : 0 ≤ Xi T23 904 106 ∧ Xi T23 904 106 ≤ 9 := hHT23.c _ _
      have w318 : Xi T23 904 113 = Xi T16 904 113 := (show Xi T23 904 113 = Xi U18 904 113 from w312.x _ _ rfl).trans ( (show Xi U18 904 113 = Xi T17 904 113 from by rw [eU18]; exact Xi_ne (by omega)).trans ((show Xi T17 904 113 = Xi T16 904 113 from w214.x _ _ rfl)))
      have w319 : -1 ≤ Xi T16 904 113 ∧ Xi T16 904 113 ≤ 6411 := hHT16.c _ _
      have w320 : Xi T23 904 69 = Xi T16 904 69 := (show Xi T23 904 69 = Xi U18 904 69 from w312.x _ _ rfl).trans ( (show Xi U18 904 69 = Xi T17 904 69 from by rw [eU18]; exact Xi_ne (by omega)).trans ((show Xi T17 904 69 = Xi T16 904 69 from w214.x _ _ rfl)))
      exact ⟨hHT23, hFT23, rfl, (by omega), (by first | exact (fun _ q => syq_5 (f52 (by omega)) h52.1 h52.2.1 h52.2.2 (hFT23.x 904 19 rfl) (by omega) (by omega) (by omega) (by omega)) f52 | exact (fun _ q => tq_3 (by omega) (thk_c (H209) (hFT23.x 904 19 rfl) (by omega)) (adx_c (W209 (by omega)) (hFT23.x 904 23 rfl) (hFT23.x 904 32 rfl) (by omega))) W209 | exact (fun _ q => tq_4 (by omega) (thk_c (H277 (by omega)) (hFT23.x 904 19 rfl) (by omega))) q299 | exact (fun _ q => tq_2 (by omega) (thk_c (H328 (by omega)) (hFT23.x 904 19 rfl) (by omega)) (by have a := hFT23.x 904 32 rfl; omega) (fun _ => o386)) o386 | exact (fun _ q => tq_2 (by omega) (thk_c (H328 (by omega)) (hFT23.x 904 19 rfl) (by omega)) (by have a := hFT23.x 904 32 rfl; omega) (fun y => absurd y (by omega))) p337 | exact fun x => absurd x (by omega)), (by first | exact fun x y => ⟨Or.inr (Or.inr (by omega)), fun z => absurd z (by omega)⟩ | exact fun x y => ⟨by have t := hnf y; omega, fun z => absurd z (by omega)⟩ | exact (fun _ x0 => fun y => ⟨by omega, fun _ z => by rw [(hFT23.cx 922 rfl _).1, show Xi T23 973 (q).toNat = Xi T16 904 113 by omega]; exact (W209 (by omega)).2 (by omega) (by omega)⟩) W209 | exact fun x => absurd x (by omega)), ((KQ.tr (KQ.w (KQ_FR w214 rfl (by assumption : KQ T16 S _)) eU18 (by omega)) (by assumption : KQ T23 U18 _)))⟩
set_option maxRecDepth 100000 in
set_option maxHeartbeats 8000000 in
theorem c277_mo_testMeant {S : sS} (hH : HI S) (n : Nat) (i : Int) (q : Int) (isNow : Int) (hi : 0 ≤ i ∧ i ≤ 1699) (hq : 0 ≤ q ∧ q ≤ 2399) (hisNow : 0 ≤ isNow ∧ isNow ≤ 1) (hT : TK S n) (hv : RNV S n) (hM : LXM S) (hB : ABV S) (hC : DCM S) (hK : TXK S n) (htv : TV S n i.toNat) (hnf : NFX S isNow i) (d : Nat) : ∀  (T24 : sS) (_ : HI T24) (_ : FR md_mo_testMeant S T24) (v4 : Int), (-9 ≤ v4 ∧ v4 ≤ 23) → (Xi T24 969 (q).toNat = Xi S 952 i.toNat) → (Xi S 904 106 ≠ 0 → Xi T24 904 106 ≠ 0) → (Xi T24 904 69 = Xi S 904 69) → (KQ T24 S q) → (Xi T24 971 (q).toNat = v4) → (v4 = -9 → Xi T24 904 106 ≠ 0) → (v4 ≠ -9 → -2 ≤ v4) → (v4 ≠ -9 → thK S (0 ≤ Xi S 904 115) (0 ≤ Xi S 904 116) v4) → (Xi S 952 i.toNat ≠ 5) → (Xi S 952 i.toNat ≠ 3) → Rl lay0 (d + 6) m_mo_testMeant 277 [(0, .ref 904), (1, iv i), (2, iv q), (4, iv v4)] [] T24 (Q_mo_testMeant S n i q isNow) := by
  have C328 := c328_mo_testMeant hH n i q isNow hi hq hisNow hT hv hM hB hC hK htv hnf d 
  have hF : FR md_mo_testMeant S S := FR.rf
  have w1 : 0 ≤ Xi S 904 106 ∧ Xi S 904 106 ≤ 9 := hH.c _ _
  have w2 : -1 ≤ Xi S 904 113 ∧ Xi S 904 113 ≤ 6411 := hH.c _ _
  have w3 : -1 ≤ Xi S 904 115 ∧ Xi S 904 115 ≤ 15 := hH.c _ _
  have w4 : -1 ≤ Xi S 904 116 ∧ Xi S 904 116 ≤ 15 := hH.c _ _
  have w5 : 0 ≤ Xi S 904 69 ∧ Xi S 904 69 ≤ 2600 := hH.c _ _
  have hn5 := hT.1
  have hc69 : 0 ≤ Xi S 904 69 ∧ Xi S 904 69 ≤ 2600 := hH.c _ _
  have hc32 : 0 ≤ Xi S 904 32 ∧ Xi S 904 32 ≤ 12 := hH.c _ _
  have hc952 : 0 ≤ Xi S 952 i.toNat ∧ Xi S 952 i.toNat ≤ 5 := hH.c 952 _
  have hte := htv.1
  have hrf : ∀ r : Int, 0 ≤ r → r < Xi S 904 69 → Xi S 950 r.toNat + Xi S 951 r.toNat ≤ n ∧ 1 ≤ Xi S 951 r.toNat := fun r a b => hv r.toNat (by omega)
  intro T24 hHT24 hFT24 v4 w322 w323 w324 w325 K277 w326 w327 w328 H277 w329 w330
  have w331 : Xi T24 904 115 = Xi S 904 115 := hFT24.x _ _ rfl
  have w332 : Xi T24 904 116 = Xi S 904 116 := hFT24.x _ _ rfl
  have w333 : Xi T24 904 19 = Xi S 904 19 := hFT24.x _ _ rfl
  have w334 : Xi T24 904 32 = Xi S 904 32 := hFT24.x _ _ rfl
  have w335 : Xi T24 904 69 = Xi S 904 69 := hFT24.x _ _ rfl
  have w336 : 0 ≤ Xi T24 904 106 ∧ Xi T24 904 106 ≤ 9 := hHT24.c _ _
  have w337 : 0 ≤ Xi T24 904 69 ∧ Xi T24 904 69 ≤ 2600 := hHT24.c _ _
  refine l_aload_n rfl rfl ?_
  refine l_gfr rfl rfl rfl rfl rfl (hHT24.r 904 82 952 rfl) ?_
  refine l_iload_n rfl rfl ?_
  refine l_iaload (n := 1700) rfl rfl (by omega) (by omega) (by unfold rg; omega) ?_
  have w338 : 0 ≤ (Xi T24 952 ((i).toNat)) ∧ (Xi T24 952 ((i).toNat)) ≤ 5 := hHT24.c _ _
  have e282 : (Xi T24 952 ((i).toNat)) = Xi S 952 (i).toNat := by first | rfl | exact (hFT24.cx 952 rfl _).1 | exact (hFT24.cx 952 rfl _).1 | exact (hFT24.cx 952 rfl _).1
  refine l_iconst rfl ?_
  refine l_icmp_ne rfl rfl (by unfold rg; omega) (by unfold rg; omega) (fun w339 => ?_) (fun w340 => ?_)
  · have w341 : 0 ≤ Xi T24 904 106 ∧ Xi T24 904 106 ≤ 9 := hHT24.c _ _
    have w342 : -1 ≤ Xi T24 904 113 ∧ Xi T24 904 113 ≤ 6411 := hHT24.c _ _
    exact Rl_weak (C328 T24 hHT24 hFT24 (v4) (by omega) (by omega) (by omega) (by omega) ((by assumption : KQ T24 S _)) (by omega) (by omega) (by omega) (H277) (by omega)) (And.intro rfl (And.intro rfl (And.intro rfl (And.intro rfl (True.intro)))))
  · refine l_aload_n rfl rfl ?_
    refine l_aload_n rfl rfl ?_
    refine l_gfr rfl rfl rfl rfl rfl (hHT24.r 904 89 959 rfl) ?_
    refine l_iload_n rfl rfl ?_
    refine l_iaload (n := 1700) rfl rfl (by omega) (by omega) (by unfold rg; omega) ?_
    have w344 : 0 ≤ (Xi T24 959 ((i).toNat)) ∧ (Xi T24 959 ((i).toNat)) ≤ 25010 := hHT24.c _ _
    have e293 : (Xi T24 959 ((i).toNat)) = Xi S 959 (i).toNat := by first | rfl | exact (hFT24.cx 959 rfl _).1 | exact (hFT24.cx 959 rfl _).1 | exact (hFT24.cx 959 rfl _).1
    refine l_aload_n rfl rfl ?_
    refine l_gfr rfl rfl rfl rfl rfl (hHT24.r 904 90 960 rfl) ?_
    refine l_iload_n rfl rfl ?_
    refine l_iaload (n := 1700) rfl rfl (by omega) (by omega) (by unfold rg; omega) ?_
    have w345 : -1 ≤ (Xi T24 960 ((i).toNat)) ∧ (Xi T24 960 ((i).toNat)) ≤ 2600 := hHT24.c _ _
    have e299 : (Xi T24 960 ((i).toNat)) = Xi S 960 (i).toNat := by first | rfl | exact (hFT24.cx 960 rfl _).1 | exact (hFT24.cx 960 rfl _).1 | exact (hFT24.cx 960 rfl _).1
    have q299 := q_thv (htv.2.2.2.1 (by omega)) e293 e299 (hFT24.x 904 69 rfl) hn5
    have w348 : 0 ≤ Xi T24 904 19 ∧ Xi T24 904 19 ≤ 24 := hHT24.c _ _
    refine l_callV rfl rfl rfl (t_mo_meant hHT24 n (Xi T24 959 ((i).toNat)) (Xi T24 960 ((i).toNat)) ⟨by omega, by omega⟩ ⟨by omega, by omega⟩ (by first | assumption | exact (TK_FR hFT24 rfl (by assumption : TK S _))) (by first | assumption | exact (RNV_FR hFT24 rfl (by assumption : RNV S _))) (by first | exact q299.1 | exact q106.1) (by first | exact q299.2 | exact q106.2) (by first | assumption | exact (LXM_FR hFT24 rfl (by assumption : LXM S))) _) ?_
    rintro _ T25 ⟨hHT25, w353, z352, rfl, w352, p300, i300, j300, w350, w351⟩
    have hFT25 : FR md_mo_testMeant S T25 := FR.tr hFT24 w353 rfl
    show Rl _ _ _ _ _ [iv z352] _ _
    clear p300 i300 j300
    refine l_istore rfl rfl rfl ?_
    refine l_aload_n rfl rfl ?_
    refine l_gfr rfl rfl rfl rfl rfl (hHT25.r 904 124 975 rfl) ?_
    refine l_iload_n rfl rfl ?_
    refine l_iload rfl rfl ?_
    refine l_iastore (n := 2400) rfl rfl (by omega) (by omega) (by unfold rg; omega) ?_
    obtain ⟨U26, eU26⟩ : ∃ T : sS, T = uI T25 975 ((q).toNat) (Int32.ofInt z352) := ⟨_, rfl⟩
    rw [← eU26]
    have hHU26 : HI U26 := by rw [eU26]; exact HI_w hHT25 (show -9 ≤ z352 by omega) (show z352 ≤ 23 by omega)
    have hFU26 : FR md_mo_testMeant S U26 := by rw [eU26]; exact FR.wI hFT25 (mdf_i (r := (975, 976, 0, 100000)) (List.mem_of_getElem? (i := 11) rfl) (inR_i (by omega) (by omega) (by omega) (by omega)))
    have w354 : Xi U26 975 ((q).toNat) = z352 := by rw [eU26]; exact Xi_same (by unfold rg; omega)
    refine l_aload_n rfl rfl ?_
    refine l_gfr rfl rfl rfl rfl rfl (hHU26.r 904 122 973 rfl) ?_
    refine l_iload_n rfl rfl ?_
    refine l_aload_n rfl rfl ?_
    refine l_gfr rfl rfl rfl rfl rfl (hHU26.r 904 88 958 rfl) ?_
    refine l_iload_n rfl rfl ?_
    refine l_iaload (n := 1700) rfl rfl (by omega) (by omega) (by unfold rg; omega) ?_
    have w355 : 0 ≤ (Xi U26 958 ((i).toNat)) ∧ (Xi U26 958 ((i).toNat)) ≤ 5 := hHU26.c _ _
    refine l_iastore (n := 2400) rfl rfl (by omega) (by omega) (by unfold rg; omega) ?_
    obtain ⟨U27, eU27⟩ : ∃ T : sS, T = uI U26 973 ((q).toNat) (Int32.ofInt (Xi U26 958 ((i).toNat))) := ⟨_, rfl⟩
    rw [← eU27]
    have hHU27 : HI U27 := by rw [eU27]; exact HI_any hHU26 (rfl)
    have hFU27 : FR md_mo_testMeant S U27 := by rw [eU27]; exact FR.wI hFU26 (mdf_i (r := (973, 974, 0, 100000)) (List.mem_of_getElem? (i := 9) rfl) (inR_i (by omega) (by omega) (by omega) (by omega)))
    have w356 : Xi U27 973 ((q).toNat) = (Xi U26 958 ((i).toNat)) := by rw [eU27]; exact Xi_same (by unfold rg; omega)
    refine l_goto rfl rfl ?_
    refine l_return rfl rfl ?_
    have w357 : Xi U27 969 (q).toNat = Xi T24 969 (q).toNat := (show Xi U27 969 (q).toNat = Xi U26 969 (q).toNat from by rw [eU27]; exact Xi_ne (by omega)).trans ( (show Xi U26 969 (q).toNat = Xi T25 969 (q).toNat from by rw [eU26]; exact Xi_ne (by omega)).trans ((show Xi T25 969 (q).toNat = Xi T24 969 (q).toNat from (w353.cx 969 rfl _).1)))
    have w358 : Xi U27 971 (q).toNat = Xi T24 971 (q).toNat := (show Xi U27 971 (q).toNat = Xi U26 971 (q).toNat from by rw [eU27]; exact Xi_ne (by omega)).trans ( (show Xi U26 971 (q).toNat = Xi T25 971 (q).toNat from by rw [eU26]; exact Xi_ne (by omega)).trans ((show Xi T25 971 (q).toNat = Xi T24 971 (q).toNat from (w353.cx 971 rfl _).1)))
    have w359 : Xi U27 972 (q).toNat = Xi T24 972 (q).toNat := (show Xi U27 972 (q).toNat = Xi U26 972 (q).toNat from by rw [eU27]; exact Xi_ne (by omega)).trans ( (show Xi U26 972 (q).toNat = Xi T25 972 (q).toNat from by rw [eU26]; exact Xi_ne (by omega)).trans ((show Xi T25 972 (q).toNat = Xi T24 972 (q).toNat from (w353.cx 972 rfl _).1)))
    have w360 : Xi U27 974 (q).toNat = Xi T24 974 (q).toNat := (show Xi U27 974 (q).toNat = Xi U26 974 (q).toNat from by rw [eU27]; exact Xi_ne (by omega)).trans ( (show Xi U26 974 (q).toNat = Xi T25 974 (q).toNat from by rw [eU26]; exact Xi_ne (by omega)).trans ((show Xi T25 974 (q).toNat = Xi T24 974 (q).toNat from (w353.cx 974 rfl _).1)))
    have w361 : Xi U27 975 (q).toNat = Xi U26 975 (q).toNat := (show Xi U27 975 (q).toNat = Xi U26 975 (q).toNat from by rw [eU27]; exact Xi_ne (by omega))
    have w362 : Xi U27 904 106 = Xi T25 904 106 := (show Xi U27 904 106 = Xi U26 904 106 from by rw [eU27]; exact Xi_ne (by omega)).trans ((show Xi U26 904 106 = Xi T25 904 106 from by rw [eU26]; exact Xi_ne (by omega)))
    have w363 : 0 ≤ Xi T25 904 106 ∧ Xi T25 904 106 ≤ 9 := hHT25.c _ _
    have w364 : Xi U27 904 113 = Xi T24 904 113 := (show Xi U27 904 113 = Xi U26 904 113 from by rw [eU27]; exact Xi_ne (by omega)).trans ( (show Xi U26 904 113 = Xi T25 904 113 from by rw [eU26]; exact Xi_ne (by omega)).trans ((show Xi T25 904 113 = Xi T24 904 113 from w353.x _ _ rfl)))
    have w365 : -1 ≤ Xi T24 904 113 ∧ Xi T24 904 113 ≤ 6411 := hHT24.c _ _
    have w366 : Xi U27 904 69 = Xi T24 904 69 := (show Xi U27 904 69 = Xi U26 904 69 from by rw [eU27]; exact Xi_ne (by omega)).trans ( (show Xi U26 904 69 = Xi T25 904 69 from by rw [eU26]; exact Xi_ne (by omega)).trans ((show Xi T25 904 69 = Xi T24 904 69 from w353.x _ _ rfl)))
    exact ⟨hHU27, hFU27, rfl, (by omega), (by first | exact (fun _ q => syq_5 (f52 (by omega)) h52.1 h52.2.1 h52.2.2 (hFU27.x 904 19 rfl) (by omega) (by omega) (by omega) (by omega)) f52 | exact (fun _ q => tq_3 (by omega) (thk_c (H209) (hFU27.x 904 19 rfl) (by omega)) (adx_c (W209 (by omega)) (hFU27.x 904 23 rfl) (hFU27.x 904 32 rfl) (by omega))) W209 | exact (fun _ q => tq_4 (by omega) (thk_c (H277 (by omega)) (hFU27.x 904 19 rfl) (by omega))) q299 | exact (fun _ q => tq_2 (by omega) (thk_c (H328 (by omega)) (hFU27.x 904 19 rfl) (by omega)) (by have a := hFU27.x 904 32 rfl; omega) (fun _ => o386)) o386 | exact (fun _ q => tq_2 (by omega) (thk_c (H328 (by omega)) (hFU27.x 904 19 rfl) (by omega)) (by have a := hFU27.x 904 32 rfl; omega) (fun y => absurd y (by omega))) p337 | exact fun x => absurd x (by omega)), (by first | exact fun x y => ⟨Or.inr (Or.inr (by omega)), fun z => absurd z (by omega)⟩ | exact fun x y => ⟨by have t := hnf y; omega, fun z => absurd z (by omega)⟩ | exact (fun _ x0 => fun y => ⟨by omega, fun _ z => by rw [(hFU27.cx 922 rfl _).1, show Xi U27 973 (q).toNat = Xi T24 904 113 by omega]; exact (W209 (by omega)).2 (by omega) (by omega)⟩) W209 | exact fun x => absurd x (by omega)), ((KQ.w (KQ.w (KQ_FR w353 rfl (by assumption : KQ T24 S _)) eU26 (by omega)) eU27 (by omega)))⟩
set_option maxRecDepth 100000 in
set_option maxHeartbeats 8000000 in
theorem c94_mo_testMeant {S : sS} (hH : HI S) (n : Nat) (i : Int) (q : Int) (isNow : Int) (hi : 0 ≤ i ∧ i ≤ 1699) (hq : 0 ≤ q ∧ q ≤ 2399) (hisNow : 0 ≤ isNow ∧ isNow ≤ 1) (hT : TK S n) (hv : RNV S n) (hM : LXM S) (hB : ABV S) (hC : DCM S) (hK : TXK S n) (htv : TV S n i.toNat) (hnf : NFX S isNow i) (d : Nat) : ∀  (T28 : sS) (_ : HI T28) (_ : FR md_mo_testMeant S T28), (Xi T28 969 (q).toNat = Xi S 952 i.toNat) → (Xi S 904 106 ≠ 0 → Xi T28 904 106 ≠ 0) → (Xi T28 904 69 = Xi S 904 69) → (KQ T28 S q) → (Xi S 952 i.toNat ≠ 5) → Rl lay0 (d + 6) m_mo_testMeant 94 [(0, .ref 904), (1, iv i), (2, iv q), (3, iv isNow)] [] T28 (Q_mo_testMeant S n i q isNow) := by
  have C209 := c209_mo_testMeant hH n i q isNow hi hq hisNow hT hv hM hB hC hK htv hnf d 
  have C277 := c277_mo_testMeant hH n i q isNow hi hq hisNow hT hv hM hB hC hK htv hnf d 
  have hF : FR md_mo_testMeant S S := FR.rf
  have w1 : 0 ≤ Xi S 904 106 ∧ Xi S 904 106 ≤ 9 := hH.c _ _
  have w2 : -1 ≤ Xi S 904 113 ∧ Xi S 904 113 ≤ 6411 := hH.c _ _
  have w3 : -1 ≤ Xi S 904 115 ∧ Xi S 904 115 ≤ 15 := hH.c _ _
  have w4 : -1 ≤ Xi S 904 116 ∧ Xi S 904 116 ≤ 15 := hH.c _ _
  have w5 : 0 ≤ Xi S 904 69 ∧ Xi S 904 69 ≤ 2600 := hH.c _ _
  have hn5 := hT.1
  have hc69 : 0 ≤ Xi S 904 69 ∧ Xi S 904 69 ≤ 2600 := hH.c _ _
  have hc32 : 0 ≤ Xi S 904 32 ∧ Xi S 904 32 ≤ 12 := hH.c _ _
  have hc952 : 0 ≤ Xi S 952 i.toNat ∧ Xi S 952 i.toNat ≤ 5 := hH.c 952 _
  have hte := htv.1
  have hrf : ∀ r : Int, 0 ≤ r → r < Xi S 904 69 → Xi S 950 r.toNat + Xi S 951 r.toNat ≤ n ∧ 1 ≤ Xi S 951 r.toNat := fun r a b => hv r.toNat (by omega)
  intro T28 hHT28 hFT28 w368 w369 w370 K94 w371
  have w372 : Xi T28 904 115 = Xi S 904 115 := hFT28.x _ _ rfl
  have w373 : Xi T28 904 116 = Xi S 904 116 := hFT28.x _ _ rfl
  have w374 : Xi T28 904 19 = Xi S 904 19 := hFT28.x _ _ rfl
  have w375 : Xi T28 904 32 = Xi S 904 32 := hFT28.x _ _ rfl
  have w376 : Xi T28 904 69 = Xi S 904 69 := hFT28.x _ _ rfl
  have w377 : 0 ≤ Xi T28 904 106 ∧ Xi T28 904 106 ≤ 9 := hHT28.c _ _
  have w378 : 0 ≤ Xi T28 904 69 ∧ Xi T28 904 69 ≤ 2600 := hHT28.c _ _
  refine l_aload_n rfl rfl ?_
  refine l_aload_n rfl rfl ?_
  refine l_gfr rfl rfl rfl rfl rfl (hHT28.r 904 84 954 rfl) ?_
  refine l_iload_n rfl rfl ?_
  refine l_iaload (n := 1700) rfl rfl (by omega) (by omega) (by unfold rg; omega) ?_
  have w379 : 0 ≤ (Xi T28 954 ((i).toNat)) ∧ (Xi T28 954 ((i).toNat)) ≤ 25010 := hHT28.c _ _
  have e100 : (Xi T28 954 ((i).toNat)) = Xi S 954 (i).toNat := by first | rfl | exact (hFT28.cx 954 rfl _).1 | exact (hFT28.cx 954 rfl _).1 | exact (hFT28.cx 954 rfl _).1
  refine l_aload_n rfl rfl ?_
  refine l_gfr rfl rfl rfl rfl rfl (hHT28.r 904 85 955 rfl) ?_
  refine l_iload_n rfl rfl ?_
  refine l_iaload (n := 1700) rfl rfl (by omega) (by omega) (by unfold rg; omega) ?_
  have w380 : 0 ≤ (Xi T28 955 ((i).toNat)) ∧ (Xi T28 955 ((i).toNat)) ≤ 2600 := hHT28.c _ _
  have e106 : (Xi T28 955 ((i).toNat)) = Xi S 955 (i).toNat := by first | rfl | exact (hFT28.cx 955 rfl _).1 | exact (hFT28.cx 955 rfl _).1 | exact (hFT28.cx 955 rfl _).1
  have q106 := q_thv (htv.2.1 (by omega)) e100 e106 (hFT28.x 904 69 rfl) hn5
  have w383 : 0 ≤ Xi T28 904 19 ∧ Xi T28 904 19 ≤ 24 := hHT28.c _ _
  refine l_callV rfl rfl rfl (t_mo_meant hHT28 n (Xi T28 954 ((i).toNat)) (Xi T28 955 ((i).toNat)) ⟨by omega, by omega⟩ ⟨by omega, by omega⟩ (by first | assumption | exact (TK_FR hFT28 rfl (by assumption : TK S _))) (by first | assumption | exact (RNV_FR hFT28 rfl (by assumption : RNV S _))) (by first | exact q299.1 | exact q106.1) (by first | exact q299.2 | exact q106.2) (by first | assumption | exact (LXM_FR hFT28 rfl (by assumption : LXM S))) _) ?_
  rintro _ T29 ⟨hHT29, w388, z387, rfl, w387, p107, i107, j107, w385, w386⟩
  have hFT29 : FR md_mo_testMeant S T29 := FR.tr hFT28 w388 rfl
  show Rl _ _ _ _ _ [iv z387] _ _
  have th107 : z387 ≠ -9 → thK S (0 ≤ Xi S 904 115) (0 ≤ Xi S 904 116) z387 := fun x => by unfold thK; have a := hFT28.x 904 19 rfl; have b := hFT29.x 904 115 rfl; have c := hFT29.x 904 116 rfl; omega
  have m107 : z387 ≠ -9 → -2 ≤ z387 := by omega
  clear p107 i107 j107
  refine l_istore rfl rfl rfl ?_
  refine l_aload_n rfl rfl ?_
  refine l_gfr rfl rfl rfl rfl rfl (hHT29.r 904 120 971 rfl) ?_
  refine l_iload_n rfl rfl ?_
  refine l_iload rfl rfl ?_
  refine l_iastore (n := 2400) rfl rfl (by omega) (by omega) (by unfold rg; omega) ?_
  obtain ⟨U30, eU30⟩ : ∃ T : sS, T = uI T29 971 ((q).toNat) (Int32.ofInt z387) := ⟨_, rfl⟩
  rw [← eU30]
  have hHU30 : HI U30 := by rw [eU30]; exact HI_w hHT29 (show -9 ≤ z387 by omega) (show z387 ≤ 23 by omega)
  have hFU30 : FR md_mo_testMeant S U30 := by rw [eU30]; exact FR.wI hFT29 (mdf_i (r := (971, 972, 0, 100000)) (List.mem_of_getElem? (i := 7) rfl) (inR_i (by omega) (by omega) (by omega) (by omega)))
  have w389 : Xi U30 971 ((q).toNat) = z387 := by rw [eU30]; exact Xi_same (by unfold rg; omega)
  refine l_aload_n rfl rfl ?_
  refine l_gfr rfl rfl rfl rfl rfl (hHU30.r 904 82 952 rfl) ?_
  refine l_iload_n rfl rfl ?_
  refine l_iaload (n := 1700) rfl rfl (by omega) (by omega) (by unfold rg; omega) ?_
  have w390 : 0 ≤ (Xi U30 952 ((i).toNat)) ∧ (Xi U30 952 ((i).toNat)) ≤ 5 := hHU30.c _ _
  have e125 : (Xi U30 952 ((i).toNat)) = Xi S 952 (i).toNat := by first | rfl | exact (hFU30.cx 952 rfl _).1 | exact (hFT29.cx 952 rfl _).1 | exact (hFT28.cx 952 rfl _).1
  refine l_iconst rfl ?_
  refine l_icmp_ne rfl rfl (by unfold rg; omega) (by unfold rg; omega) (fun w391 => ?_) (fun w392 => ?_)
  · have w393 : Xi U30 969 (q).toNat = Xi T28 969 (q).toNat := (show Xi U30 969 (q).toNat = Xi T29 969 (q).toNat from by rw [eU30]; exact Xi_ne (by omega)).trans ((show Xi T29 969 (q).toNat = Xi T28 969 (q).toNat from (w388.cx 969 rfl _).1))
    have w394 : Xi U30 972 (q).toNat = Xi T28 972 (q).toNat := (show Xi U30 972 (q).toNat = Xi T29 972 (q).toNat from by rw [eU30]; exact Xi_ne (by omega)).trans ((show Xi T29 972 (q).toNat = Xi T28 972 (q).toNat from (w388.cx 972 rfl _).1))
    have w395 : Xi U30 973 (q).toNat = Xi T28 973 (q).toNat := (show Xi U30 973 (q).toNat = Xi T29 973 (q).toNat from by rw [eU30]; exact Xi_ne (by omega)).trans ((show Xi T29 973 (q).toNat = Xi T28 973 (q).toNat from (w388.cx 973 rfl _).1))
    have w396 : Xi U30 974 (q).toNat = Xi T28 974 (q).toNat := (show Xi U30 974 (q).toNat = Xi T29 974 (q).toNat from by rw [eU30]; exact Xi_ne (by omega)).trans ((show Xi T29 974 (q).toNat = Xi T28 974 (q).toNat from (w388.cx 974 rfl _).1))
    have w397 : Xi U30 975 (q).toNat = Xi T28 975 (q).toNat := (show Xi U30 975 (q).toNat = Xi T29 975 (q).toNat from by rw [eU30]; exact Xi_ne (by omega)).trans ((show Xi T29 975 (q).toNat = Xi T28 975 (q).toNat from (w388.cx 975 rfl _).1))
    have w398 : Xi U30 904 106 = Xi T29 904 106 := (show Xi U30 904 106 = Xi T29 904 106 from by rw [eU30]; exact Xi_ne (by omega))
    have w399 : 0 ≤ Xi T29 904 106 ∧ Xi T29 904 106 ≤ 9 := hHT29.c _ _
    have w400 : Xi U30 904 113 = Xi T28 904 113 := (show Xi U30 904 113 = Xi T29 904 113 from by rw [eU30]; exact Xi_ne (by omega)).trans ((show Xi T29 904 113 = Xi T28 904 113 from w388.x _ _ rfl))
    have w401 : -1 ≤ Xi T28 904 113 ∧ Xi T28 904 113 ≤ 6411 := hHT28.c _ _
    have w402 : Xi U30 904 69 = Xi T28 904 69 := (show Xi U30 904 69 = Xi T29 904 69 from by rw [eU30]; exact Xi_ne (by omega)).trans ((show Xi T29 904 69 = Xi T28 904 69 from w388.x _ _ rfl))
    exact Rl_weak (C277 U30 hHU30 hFU30 (z387) (by omega) (by omega) (by omega) (by omega) ((KQ.w (KQ_FR w388 rfl (by assumption : KQ T28 S _)) eU30 (by omega))) (by omega) (by omega) (by omega) (th107) (by omega) (by omega)) (And.intro rfl (And.intro rfl (And.intro rfl (And.intro rfl (True.intro)))))
  · refine l_iload rfl rfl ?_
    refine l_bipush rfl rfl ?_
    refine l_icmp_eq rfl rfl (by unfold rg; omega) (by unfold rg; omega) (fun w404 => ?_) (fun w405 => ?_)
    · refine l_return rfl rfl ?_
      have w406 : Xi U30 969 (q).toNat = Xi T28 969 (q).toNat := (show Xi U30 969 (q).toNat = Xi T29 969 (q).toNat from by rw [eU30]; exact Xi_ne (by omega)).trans ((show Xi T29 969 (q).toNat = Xi T28 969 (q).toNat from (w388.cx 969 rfl _).1))
      have w407 : Xi U30 972 (q).toNat = Xi T28 972 (q).toNat := (show Xi U30 972 (q).toNat = Xi T29 972 (q).toNat from by rw [eU30]; exact Xi_ne (by omega)).trans ((show Xi T29 972 (q).toNat = Xi T28 972 (q).toNat from (w388.cx 972 rfl _).1))
      have w408 : Xi U30 973 (q).toNat = Xi T28 973 (q).toNat := (show Xi U30 973 (q).toNat = Xi T29 973 (q).toNat from by rw [eU30]; exact Xi_ne (by omega)).trans ((show Xi T29 973 (q).toNat = Xi T28 973 (q).toNat from (w388.cx 973 rfl _).1))
      have w409 : Xi U30 974 (q).toNat = Xi T28 974 (q).toNat := (show Xi U30 974 (q).toNat = Xi T29 974 (q).toNat from by rw [eU30]; exact Xi_ne (by omega)).trans ((show Xi T29 974 (q).toNat = Xi T28 974 (q).toNat from (w388.cx 974 rfl _).1))
      have w410 : Xi U30 975 (q).toNat = Xi T28 975 (q).toNat := (show Xi U30 975 (q).toNat = Xi T29 975 (q).toNat from by rw [eU30]; exact Xi_ne (by omega)).trans ((show Xi T29 975 (q).toNat = Xi T28 975 (q).toNat from (w388.cx 975 rfl _).1))
      have w411 : Xi U30 904 106 = Xi T29 904 106 := (show Xi U30 904 106 = Xi T29 904 106 from by rw [eU30]; exact Xi_ne (by omega))
      have w412 : 0 ≤ Xi T29 904 106 ∧ Xi T29 904 106 ≤ 9 := hHT29.c _ _
      have w413 : Xi U30 904 113 = Xi T28 904 113 := (show Xi U30 904 113 = Xi T29 904 113 from by rw [eU30]; exact Xi_ne (by omega)).trans ((show Xi T29 904 113 = Xi T28 904 113 from w388.x _ _ rfl))
      have w414 : -1 ≤ Xi T28 904 113 ∧ Xi T28 904 113 ≤ 6411 := hHT28.c _ _
      have w415 : Xi U30 904 69 = Xi T28 904 69 := (show Xi U30 904 69 = Xi T29 904 69 from by rw [eU30]; exact Xi_ne (by omega)).trans ((show Xi T29 904 69 = Xi T28 904 69 from w388.x _ _ rfl))
      exact ⟨hHU30, hFU30, rfl, (by omega), (by first | exact (fun _ q => syq_5 (f52 (by omega)) h52.1 h52.2.1 h52.2.2 (hFU30.x 904 19 rfl) (by omega) (by omega) (by omega) (by omega)) f52 | exact (fun _ q => tq_3 (by omega) (thk_c (H209) (hFU30.x 904 19 rfl) (by omega)) (adx_c (W209 (by omega)) (hFU30.x 904 23 rfl) (hFU30.x 904 32 rfl) (by omega))) W209 | exact (fun _ q => tq_4 (by omega) (thk_c (H277 (by omega)) (hFU30.x 904 19 rfl) (by omega))) q299 | exact (fun _ q => tq_2 (by omega) (thk_c (H328 (by omega)) (hFU30.x 904 19 rfl) (by omega)) (by have a := hFU30.x 904 32 rfl; omega) (fun _ => o386)) o386 | exact (fun _ q => tq_2 (by omega) (thk_c (H328 (by omega)) (hFU30.x 904 19 rfl) (by omega)) (by have a := hFU30.x 904 32 rfl; omega) (fun y => absurd y (by omega))) p337 | exact fun x => absurd x (by omega)), (by first | exact fun x y => ⟨Or.inr (Or.inr (by omega)), fun z => absurd z (by omega)⟩ | exact fun x y => ⟨by have t := hnf y; omega, fun z => absurd z (by omega)⟩ | exact (fun _ x0 => fun y => ⟨by omega, fun _ z => by rw [(hFU30.cx 922 rfl _).1, show Xi U30 973 (q).toNat = Xi T28 904 113 by omega]; exact (W209 (by omega)).2 (by omega) (by omega)⟩) W209 | exact fun x => absurd x (by omega)), ((KQ.w (KQ_FR w388 rfl (by assumption : KQ T28 S _)) eU30 (by omega)))⟩
    · refine l_aload_n rfl rfl ?_
      refine l_gfr rfl rfl rfl rfl rfl (hHU30.r 904 86 956 rfl) ?_
      refine l_iload_n rfl rfl ?_
      refine l_iaload (n := 1700) rfl rfl (by omega) (by omega) (by unfold rg; omega) ?_
      have w417 : 0 ≤ (Xi U30 956 ((i).toNat)) ∧ (Xi U30 956 ((i).toNat)) ≤ 2600 := hHU30.c _ _
      have e142 : (Xi U30 956 ((i).toNat)) = Xi S 956 (i).toNat := by first | rfl | exact (hFU30.cx 956 rfl _).1 | exact (hFT29.cx 956 rfl _).1 | exact (hFT28.cx 956 rfl _).1
      have t142 := htv.2.2.1 (by omega)
      refine l_istore rfl rfl rfl ?_
      refine l_aload_n rfl rfl ?_
      refine l_gfr rfl rfl rfl rfl rfl (hHU30.r 904 68 951 rfl) ?_
      refine l_iload rfl rfl ?_
      refine l_iaload (n := 2600) rfl rfl (by omega) (by omega) (by unfold rg; omega) ?_
      have w418 : 0 ≤ (Xi U30 951 (((Xi U30 956 ((i).toNat))).toNat)) ∧ (Xi U30 951 (((Xi U30 956 ((i).toNat))).toNat)) ≤ 5010 := hHU30.c _ _
      have e151 : (Xi U30 951 (((Xi U30 956 ((i).toNat))).toNat)) = Xi S 951 ((Xi U30 956 ((i).toNat))).toNat := by first | rfl | exact (hFU30.cx 951 rfl _).1
      have g151 := hrf (Xi U30 956 ((i).toNat)) (by omega) (by omega)
      refine l_iconst rfl ?_
      refine l_icmp_le rfl rfl (by unfold rg; omega) (by unfold rg; omega) (fun w419 => ?_) (fun w420 => ?_)
      · refine l_aload_n rfl rfl ?_
        refine l_aload_n rfl rfl ?_
        refine l_gfr rfl rfl rfl rfl rfl (hHU30.r 904 67 950 rfl) ?_
        refine l_iload rfl rfl ?_
        refine l_iaload (n := 2600) rfl rfl (by omega) (by omega) (by unfold rg; omega) ?_
        have w421 : 0 ≤ (Xi U30 950 (((Xi U30 956 ((i).toNat))).toNat)) ∧ (Xi U30 950 (((Xi U30 956 ((i).toNat))).toNat)) ≤ 5010 := hHU30.c _ _
        have e167 : (Xi U30 950 (((Xi U30 956 ((i).toNat))).toNat)) = Xi S 950 ((Xi U30 956 ((i).toNat))).toNat := by first | rfl | exact (hFU30.cx 950 rfl _).1
        refine l_aload_n rfl rfl ?_
        refine l_gfr rfl rfl rfl rfl rfl (hHU30.r 904 68 951 rfl) ?_
        refine l_iload rfl rfl ?_
        refine l_iaload (n := 2600) rfl rfl (by omega) (by omega) (by unfold rg; omega) ?_
        refine l_aload_n rfl rfl ?_
        refine l_iload rfl rfl ?_
        refine l_callV rfl rfl rfl (t_mo_kindOfThing hHU30 z387 ⟨by omega, by omega⟩ (by first | assumption | omega) _) ?_
        rintro _ _ ⟨rfl, z428, rfl, w428⟩
        show Rl _ _ _ _ _ [iv z428, iv (Xi U30 951 (((Xi U30 956 ((i).toNat))).toNat)), iv (Xi U30 950 (((Xi U30 956 ((i).toNat))).toNat)), .ref 904] _ _
        refine l_iload_n rfl rfl ?_
        refine l_if_ne rfl rfl (by unfold rg; omega) (fun w429 => ?_) (fun w430 => ?_)
        · refine l_iconst rfl ?_
          refine l_aload_n rfl rfl ?_
          refine l_gfr rfl rfl rfl rfl rfl (hHU30.r 904 83 953 rfl) ?_
          refine l_iload_n rfl rfl ?_
          refine l_baload (n := 1700) rfl rfl rfl (by decide) (by omega) (by omega) (by unfold rg; omega) ?_
          have w431 : 0 ≤ (Xi U30 953 ((i).toNat)) ∧ (Xi U30 953 ((i).toNat)) ≤ 1 := hHU30.c _ _
          refine l_if_ne rfl rfl (by unfold rg; omega) (fun w432 => ?_) (fun w433 => ?_)
          · refine l_iconst rfl ?_
            have w436 : Xi U30 904 113 = Xi T28 904 113 := (show Xi U30 904 113 = Xi T29 904 113 from by rw [eU30]; exact Xi_ne (by omega)).trans ((show Xi T29 904 113 = Xi T28 904 113 from w388.x _ _ rfl))
            have w437 : -1 ≤ Xi T28 904 113 ∧ Xi T28 904 113 ≤ 6411 := hHT28.c _ _
            refine l_callV rfl rfl rfl (t_mo_adjective__2 hHU30 (Xi U30 950 (((Xi U30 956 ((i).toNat))).toNat)) (Xi U30 951 (((Xi U30 956 ((i).toNat))).toNat)) z428 0 0 ⟨by omega, by omega⟩ ⟨by omega, by omega⟩ ⟨by omega, by omega⟩ ⟨by omega, by omega⟩ ⟨by omega, by omega⟩ (by first | assumption | omega) (by first | assumption | exact (LXM_FR hFU30 rfl (by assumption : LXM S))) (by first | assumption | exact (ABV_FR hFU30 rfl (by assumption : ABV S))) (by first | assumption | exact (DCM_FR hFU30 rfl (by assumption : DCM S))) _) ?_
            rintro _ T31 ⟨hHT31, w443, z442, rfl, w442, w440, e204x, w441⟩
            have hFT31 : FR md_mo_testMeant S T31 := FR.tr hFU30 w443 rfl
            show Rl _ _ _ _ _ [iv z442] _ _
            have A204 : 1 ≤ z442 → ADX S (1 - isNow) (Xi T31 904 113) := fun x => ⟨by have t := (by assumption : 1 ≤ z442 → ADM T31 (Xi T31 904 113)) x; unfold ADM at *; rw [hFT31.x 904 23 rfl, hFT31.x 904 32 rfl] at t; exact t, fun y z => by have t := e204x x (by omega) z; rw [(hFU30.cx 922 rfl _).1] at t; exact t⟩
            clear e204x
            refine l_istore rfl rfl rfl ?_
            have w444 : Xi T31 969 (q).toNat = Xi T28 969 (q).toNat := (show Xi T31 969 (q).toNat = Xi U30 969 (q).toNat from (w443.cx 969 rfl _).1).trans ( (show Xi U30 969 (q).toNat = Xi T29 969 (q).toNat from by rw [eU30]; exact Xi_ne (by omega)).trans ((show Xi T29 969 (q).toNat = Xi T28 969 (q).toNat from (w388.cx 969 rfl _).1)))
            have w445 : Xi T31 971 (q).toNat = Xi U30 971 (q).toNat := (show Xi T31 971 (q).toNat = Xi U30 971 (q).toNat from (w443.cx 971 rfl _).1)
            have w446 : Xi T31 972 (q).toNat = Xi T28 972 (q).toNat := (show Xi T31 972 (q).toNat = Xi U30 972 (q).toNat from (w443.cx 972 rfl _).1).trans ( (show Xi U30 972 (q).toNat = Xi T29 972 (q).toNat from by rw [eU30]; exact Xi_ne (by omega)).trans ((show Xi T29 972 (q).toNat = Xi T28 972 (q).toNat from (w388.cx 972 rfl _).1)))
            have w447 : Xi T31 973 (q).toNat = Xi T28 973 (q).toNat := (show Xi T31 973 (q).toNat = Xi U30 973 (q).toNat from (w443.cx 973 rfl _).1).trans ( (show Xi U30 973 (q).toNat = Xi T29 973 (q).toNat from by rw [eU30]; exact Xi_ne (by omega)).trans ((show Xi T29 973 (q).toNat = Xi T28 973 (q).toNat from (w388.cx 973 rfl _).1)))
            have w448 : Xi T31 974 (q).toNat = Xi T28 974 (q).toNat := (show Xi T31 974 (q).toNat = Xi U30 974 (q).toNat from (w443.cx 974 rfl _).1).trans ( (show Xi U30 974 (q).toNat = Xi T29 974 (q).toNat from by rw [eU30]; exact Xi_ne (by omega)).trans ((show Xi T29 974 (q).toNat = Xi T28 974 (q).toNat from (w388.cx 974 rfl _).1)))
            have w449 : Xi T31 975 (q).toNat = Xi T28 975 (q).toNat := (show Xi T31 975 (q).toNat = Xi U30 975 (q).toNat from (w443.cx 975 rfl _).1).trans ( (show Xi U30 975 (q).toNat = Xi T29 975 (q).toNat from by rw [eU30]; exact Xi_ne (by omega)).trans ((show Xi T29 975 (q).toNat = Xi T28 975 (q).toNat from (w388.cx 975 rfl _).1)))
            have w450 : Xi T31 904 106 = Xi T29 904 106 := (show Xi T31 904 106 = Xi U30 904 106 from w443.x _ _ rfl).trans ((show Xi U30 904 106 = Xi T29 904 106 from by rw [eU30]; exact Xi_ne (by omega)))
            have w451 : 0 ≤ Xi T29 904 106 ∧ Xi T29 904 106 ≤ 9 := hHT29.c _ _
            have w452 : -1 ≤ Xi T31 904 113 ∧ Xi T31 904 113 ≤ 6411 := hHT31.c _ _
            have w453 : Xi T31 904 69 = Xi T28 904 69 := (show Xi T31 904 69 = Xi U30 904 69 from w443.x _ _ rfl).trans ( (show Xi U30 904 69 = Xi T29 904 69 from by rw [eU30]; exact Xi_ne (by omega)).trans ((show Xi T29 904 69 = Xi T28 904 69 from w388.x _ _ rfl)))
            exact Rl_weak (C209 T31 hHT31 hFT31 ((Xi U30 956 ((i).toNat))) (z442) (by omega) (by omega) (by omega) (by omega) (by omega) (by omega) (thk_c (th107 (by omega)) rfl (by omega)) (g151) (by first | exact A204 | exact fun x => absurd x (by omega)) ((KQ_FR w443 rfl (KQ.w (KQ_FR w388 rfl (by assumption : KQ T28 S _)) eU30 (by omega))))) (And.intro rfl (And.intro rfl (And.intro rfl (And.intro rfl (True.intro)))))
          · refine l_iconst rfl ?_
            refine l_goto rfl rfl ?_
            have w457 : Xi U30 904 113 = Xi T28 904 113 := (show Xi U30 904 113 = Xi T29 904 113 from by rw [eU30]; exact Xi_ne (by omega)).trans ((show Xi T29 904 113 = Xi T28 904 113 from w388.x _ _ rfl))
            have w458 : -1 ≤ Xi T28 904 113 ∧ Xi T28 904 113 ≤ 6411 := hHT28.c _ _
            refine l_callV rfl rfl rfl (t_mo_adjective__2 hHU30 (Xi U30 950 (((Xi U30 956 ((i).toNat))).toNat)) (Xi U30 951 (((Xi U30 956 ((i).toNat))).toNat)) z428 0 1 ⟨by omega, by omega⟩ ⟨by omega, by omega⟩ ⟨by omega, by omega⟩ ⟨by omega, by omega⟩ ⟨by omega, by omega⟩ (by first | assumption | omega) (by first | assumption | exact (LXM_FR hFU30 rfl (by assumption : LXM S))) (by first | assumption | exact (ABV_FR hFU30 rfl (by assumption : ABV S))) (by first | assumption | exact (DCM_FR hFU30 rfl (by assumption : DCM S))) _) ?_
            rintro _ T32 ⟨hHT32, w464, z463, rfl, w463, w461, e204x, w462⟩
            have hFT32 : FR md_mo_testMeant S T32 := FR.tr hFU30 w464 rfl
            show Rl _ _ _ _ _ [iv z463] _ _
            have A204 : 1 ≤ z463 → ADX S (1 - isNow) (Xi T32 904 113) := fun x => ⟨by have t := (by assumption : 1 ≤ z463 → ADM T32 (Xi T32 904 113)) x; unfold ADM at *; rw [hFT32.x 904 23 rfl, hFT32.x 904 32 rfl] at t; exact t, fun y z => by have t := e204x x (by omega) z; rw [(hFU30.cx 922 rfl _).1] at t; exact t⟩
            clear e204x
            refine l_istore rfl rfl rfl ?_
            have w465 : Xi T32 969 (q).toNat = Xi T28 969 (q).toNat := (show Xi T32 969 (q).toNat = Xi U30 969 (q).toNat from (w464.cx 969 rfl _).1).trans ( (show Xi U30 969 (q).toNat = Xi T29 969 (q).toNat from by rw [eU30]; exact Xi_ne (by omega)).trans ((show Xi T29 969 (q).toNat = Xi T28 969 (q).toNat from (w388.cx 969 rfl _).1)))
            have w466 : Xi T32 971 (q).toNat = Xi U30 971 (q).toNat := (show Xi T32 971 (q).toNat = Xi U30 971 (q).toNat from (w464.cx 971 rfl _).1)
            have w467 : Xi T32 972 (q).toNat = Xi T28 972 (q).toNat := (show Xi T32 972 (q).toNat = Xi U30 972 (q).toNat from (w464.cx 972 rfl _).1).trans ( (show Xi U30 972 (q).toNat = Xi T29 972 (q).toNat from by rw [eU30]; exact Xi_ne (by omega)).trans ((show Xi T29 972 (q).toNat = Xi T28 972 (q).toNat from (w388.cx 972 rfl _).1)))
            have w468 : Xi T32 973 (q).toNat = Xi T28 973 (q).toNat := (show Xi T32 973 (q).toNat = Xi U30 973 (q).toNat from (w464.cx 973 rfl _).1).trans ( (show Xi U30 973 (q).toNat = Xi T29 973 (q).toNat from by rw [eU30]; exact Xi_ne (by omega)).trans ((show Xi T29 973 (q).toNat = Xi T28 973 (q).toNat from (w388.cx 973 rfl _).1)))
            have w469 : Xi T32 974 (q).toNat = Xi T28 974 (q).toNat := (show Xi T32 974 (q).toNat = Xi U30 974 (q).toNat from (w464.cx 974 rfl _).1).trans ( (show Xi U30 974 (q).toNat = Xi T29 974 (q).toNat from by rw [eU30]; exact Xi_ne (by omega)).trans ((show Xi T29 974 (q).toNat = Xi T28 974 (q).toNat from (w388.cx 974 rfl _).1)))
            have w470 : Xi T32 975 (q).toNat = Xi T28 975 (q).toNat := (show Xi T32 975 (q).toNat = Xi U30 975 (q).toNat from (w464.cx 975 rfl _).1).trans ( (show Xi U30 975 (q).toNat = Xi T29 975 (q).toNat from by rw [eU30]; exact Xi_ne (by omega)).trans ((show Xi T29 975 (q).toNat = Xi T28 975 (q).toNat from (w388.cx 975 rfl _).1)))
            have w471 : Xi T32 904 106 = Xi T29 904 106 := (show Xi T32 904 106 = Xi U30 904 106 from w464.x _ _ rfl).trans ((show Xi U30 904 106 = Xi T29 904 106 from by rw [eU30]; exact Xi_ne (by omega)))
            have w472 : 0 ≤ Xi T29 904 106 ∧ Xi T29 904 106 ≤ 9 := hHT29.c _ _
            have w473 : -1 ≤ Xi T32 904 113 ∧ Xi T32 904 113 ≤ 6411 := hHT32.c _ _
            have w474 : Xi T32 904 69 = Xi T28 904 69 := (show Xi T32 904 69 = Xi U30 904 69 from w464.x _ _ rfl).trans ( (show Xi U30 904 69 = Xi T29 904 69 from by rw [eU30]; exact Xi_ne (by omega)).trans ((show Xi T29 904 69 = Xi T28 904 69 from w388.x _ _ rfl)))
            exact Rl_weak (C209 T32 hHT32 hFT32 ((Xi U30 956 ((i).toNat))) (z463) (by omega) (by omega) (by omega) (by omega) (by omega) (by omega) (thk_c (th107 (by omega)) rfl (by omega)) (g151) (by first | exact A204 | exact fun x => absurd x (by omega)) ((KQ_FR w464 rfl (KQ.w (KQ_FR w388 rfl (by assumption : KQ T28 S _)) eU30 (by omega))))) (And.intro rfl (And.intro rfl (And.intro rfl (And.intro rfl (True.intro)))))
        · refine l_iconst rfl ?_
          refine l_goto rfl rfl ?_
          refine l_aload_n rfl rfl ?_
          refine l_gfr rfl rfl rfl rfl rfl (hHU30.r 904 83 953 rfl) ?_
          refine l_iload_n rfl rfl ?_
          refine l_baload (n := 1700) rfl rfl rfl (by decide) (by omega) (by omega) (by unfold rg; omega) ?_
          have w476 : 0 ≤ (Xi U30 953 ((i).toNat)) ∧ (Xi U30 953 ((i).toNat)) ≤ 1 := hHU30.c _ _
          refine l_if_ne rfl rfl (by unfold rg; omega) (fun w477 => ?_) (fun w478 => ?_)
          · refine l_iconst rfl ?_
            have w481 : Xi U30 904 113 = Xi T28 904 113 := (show Xi U30 904 113 = Xi T29 904 113 from by rw [eU30]; exact Xi_ne (by omega)).trans ((show Xi T29 904 113 = Xi T28 904 113 from w388.x _ _ rfl))
            have w482 : -1 ≤ Xi T28 904 113 ∧ Xi T28 904 113 ≤ 6411 := hHT28.c _ _
            refine l_callV rfl rfl rfl (t_mo_adjective__2 hHU30 (Xi U30 950 (((Xi U30 956 ((i).toNat))).toNat)) (Xi U30 951 (((Xi U30 956 ((i).toNat))).toNat)) z428 1 0 ⟨by omega, by omega⟩ ⟨by omega, by omega⟩ ⟨by omega, by omega⟩ ⟨by omega, by omega⟩ ⟨by omega, by omega⟩ (by first | assumption | omega) (by first | assumption | exact (LXM_FR hFU30 rfl (by assumption : LXM S))) (by first | assumption | exact (ABV_FR hFU30 rfl (by assumption : ABV S))) (by first | assumption | exact (DCM_FR hFU30 rfl (by assumption : DCM S))) _) ?_
            rintro _ T33 ⟨hHT33, w488, z487, rfl, w487, w485, e204x, w486⟩
            have hFT33 : FR md_mo_testMeant S T33 := FR.tr hFU30 w488 rfl
            show Rl _ _ _ _ _ [iv z487] _ _
            have A204 : 1 ≤ z487 → ADX S (1 - isNow) (Xi T33 904 113) := fun x => ⟨by have t := (by assumption : 1 ≤ z487 → ADM T33 (Xi T33 904 113)) x; unfold ADM at *; rw [hFT33.x 904 23 rfl, hFT33.x 904 32 rfl] at t; exact t, fun y z => by have t := e204x x (by omega) z; rw [(hFU30.cx 922 rfl _).1] at t; exact t⟩
            clear e204x
            refine l_istore rfl rfl rfl ?_
            have w489 : Xi T33 969 (q).toNat = Xi T28 969 (q).toNat := (show Xi T33 969 (q).toNat = Xi U30 969 (q).toNat from (w488.cx 969 rfl _).1).trans ( (show Xi U30 969 (q).toNat = Xi T29 969 (q).toNat from by rw [eU30]; exact Xi_ne (by omega)).trans ((show Xi T29 969 (q).toNat = Xi T28 969 (q).toNat from (w388.cx 969 rfl _).1)))
            have w490 : Xi T33 971 (q).toNat = Xi U30 971 (q).toNat := (show Xi T33 971 (q).toNat = Xi U30 971 (q).toNat from (w488.cx 971 rfl _).1)
            have w491 : Xi T33 972 (q).toNat = Xi T28 972 (q).toNat := (show Xi T33 972 (q).toNat = Xi U30 972 (q).toNat from (w488.cx 972 rfl _).1).trans ( (show Xi U30 972 (q).toNat = Xi T29 972 (q).toNat from by rw [eU30]; exact Xi_ne (by omega)).trans ((show Xi T29 972 (q).toNat = Xi T28 972 (q).toNat from (w388.cx 972 rfl _).1)))
            have w492 : Xi T33 973 (q).toNat = Xi T28 973 (q).toNat := (show Xi T33 973 (q).toNat = Xi U30 973 (q).toNat from (w488.cx 973 rfl _).1).trans ( (show Xi U30 973 (q).toNat = Xi T29 973 (q).toNat from by rw [eU30]; exact Xi_ne (by omega)).trans ((show Xi T29 973 (q).toNat = Xi T28 973 (q).toNat from (w388.cx 973 rfl _).1)))
            have w493 : Xi T33 974 (q).toNat = Xi T28 974 (q).toNat := (show Xi T33 974 (q).toNat = Xi U30 974 (q).toNat from (w488.cx 974 rfl _).1).trans ( (show Xi U30 974 (q).toNat = Xi T29 974 (q).toNat from by rw [eU30]; exact Xi_ne (by omega)).trans ((show Xi T29 974 (q).toNat = Xi T28 974 (q).toNat from (w388.cx 974 rfl _).1)))
            have w494 : Xi T33 975 (q).toNat = Xi T28 975 (q).toNat := (show Xi T33 975 (q).toNat = Xi U30 975 (q).toNat from (w488.cx 975 rfl _).1).trans ( (show Xi U30 975 (q).toNat = Xi T29 975 (q).toNat from by rw [eU30]; exact Xi_ne (by omega)).trans ((show Xi T29 975 (q).toNat = Xi T28 975 (q).toNat from (w388.cx 975 rfl _).1)))
            have w495 : Xi T33 904 106 = Xi T29 904 106 := (show Xi T33 904 106 = Xi U30 904 106 from w488.x _ _ rfl).trans ((show Xi U30 904 106 = Xi T29 904 106 from by rw [eU30]; exact Xi_ne (by omega)))
            have w496 : 0 ≤ Xi T29 904 106 ∧ Xi T29 904 106 ≤ 9 := hHT29.c _ _
            have w497 : -1 ≤ Xi T33 904 113 ∧ Xi T33 904 113 ≤ 6411 := hHT33.c _ _
            have w498 : Xi T33 904 69 = Xi T28 904 69 := (show Xi T33 904 69 = Xi U30 904 69 from w488.x _ _ rfl).trans ( (show Xi U30 904 69 = Xi T29 904 69 from by rw [eU30]; exact Xi_ne (by omega)).trans ((show Xi T29 904 69 = Xi T28 904 69 from w388.x _ _ rfl)))
            exact Rl_weak (C209 T33 hHT33 hFT33 ((Xi U30 956 ((i).toNat))) (z487) (by omega) (by omega) (by omega) (by omega) (by omega) (by omega) (thk_c (th107 (by omega)) rfl (by omega)) (g151) (by first | exact A204 | exact fun x => absurd x (by omega)) ((KQ_FR w488 rfl (KQ.w (KQ_FR w388 rfl (by assumption : KQ T28 S _)) eU30 (by omega))))) (And.intro rfl (And.intro rfl (And.intro rfl (And.intro rfl (True.intro)))))
          · refine l_iconst rfl ?_
            refine l_goto rfl rfl ?_
            have w502 : Xi U30 904 113 = Xi T28 904 113 := (show Xi U30 904 113 = Xi T29 904 113 from by rw [eU30]; exact Xi_ne (by omega)).trans ((show Xi T29 904 113 = Xi T28 904 113 from w388.x _ _ rfl))
            have w503 : -1 ≤ Xi T28 904 113 ∧ Xi T28 904 113 ≤ 6411 := hHT28.c _ _
            refine l_callV rfl rfl rfl (t_mo_adjective__2 hHU30 (Xi U30 950 (((Xi U30 956 ((i).toNat))).toNat)) (Xi U30 951 (((Xi U30 956 ((i).toNat))).toNat)) z428 1 1 ⟨by omega, by omega⟩ ⟨by omega, by omega⟩ ⟨by omega, by omega⟩ ⟨by omega, by omega⟩ ⟨by omega, by omega⟩ (by first | assumption | omega) (by first | assumption | exact (LXM_FR hFU30 rfl (by assumption : LXM S))) (by first | assumption | exact (ABV_FR hFU30 rfl (by assumption : ABV S))) (by first | assumption | exact (DCM_FR hFU30 rfl (by assumption : DCM S))) _) ?_
            rintro _ T34 ⟨hHT34, w509, z508, rfl, w508, w506, e204x, w507⟩
            have hFT34 : FR md_mo_testMeant S T34 := FR.tr hFU30 w509 rfl
            show Rl _ _ _ _ _ [iv z508] _ _
            have A204 : 1 ≤ z508 → ADX S (1 - isNow) (Xi T34 904 113) := fun x => ⟨by have t := (by assumption : 1 ≤ z508 → ADM T34 (Xi T34 904 113)) x; unfold ADM at *; rw [hFT34.x 904 23 rfl, hFT34.x 904 32 rfl] at t; exact t, fun y z => by have t := e204x x (by omega) z; rw [(hFU30.cx 922 rfl _).1] at t; exact t⟩
            clear e204x
            refine l_istore rfl rfl rfl ?_
            have w510 : Xi T34 969 (q).toNat = Xi T28 969 (q).toNat := (show Xi T34 969 (q).toNat = Xi U30 969 (q).toNat from (w509.cx 969 rfl _).1).trans ( (show Xi U30 969 (q).toNat = Xi T29 969 (q).toNat from by rw [eU30]; exact Xi_ne (by omega)).trans ((show Xi T29 969 (q).toNat = Xi T28 969 (q).toNat from (w388.cx 969 rfl _).1)))
            have w511 : Xi T34 971 (q).toNat = Xi U30 971 (q).toNat := (show Xi T34 971 (q).toNat = Xi U30 971 (q).toNat from (w509.cx 971 rfl _).1)
            have w512 : Xi T34 972 (q).toNat = Xi T28 972 (q).toNat := (show Xi T34 972 (q).toNat = Xi U30 972 (q).toNat from (w509.cx 972 rfl _).1).trans ( (show Xi U30 972 (q).toNat = Xi T29 972 (q).toNat from by rw [eU30]; exact Xi_ne (by omega)).trans ((show Xi T29 972 (q).toNat = Xi T28 972 (q).toNat from (w388.cx 972 rfl _).1)))
            have w513 : Xi T34 973 (q).toNat = Xi T28 973 (q).toNat := (show Xi T34 973 (q).toNat = Xi U30 973 (q).toNat from (w509.cx 973 rfl _).1).trans ( (show Xi U30 973 (q).toNat = Xi T29 973 (q).toNat from by rw [eU30]; exact Xi_ne (by omega)).trans ((show Xi T29 973 (q).toNat = Xi T28 973 (q).toNat from (w388.cx 973 rfl _).1)))
            have w514 : Xi T34 974 (q).toNat = Xi T28 974 (q).toNat := (show Xi T34 974 (q).toNat = Xi U30 974 (q).toNat from (w509.cx 974 rfl _).1).trans ( (show Xi U30 974 (q).toNat = Xi T29 974 (q).toNat from by rw [eU30]; exact Xi_ne (by omega)).trans ((show Xi T29 974 (q).toNat = Xi T28 974 (q).toNat from (w388.cx 974 rfl _).1)))
            have w515 : Xi T34 975 (q).toNat = Xi T28 975 (q).toNat := (show Xi T34 975 (q).toNat = Xi U30 975 (q).toNat from (w509.cx 975 rfl _).1).trans ( (show Xi U30 975 (q).toNat = Xi T29 975 (q).toNat from by rw [eU30]; exact Xi_ne (by omega)).trans ((show Xi T29 975 (q).toNat = Xi T28 975 (q).toNat from (w388.cx 975 rfl _).1)))
            have w516 : Xi T34 904 106 = Xi T29 904 106 := (show Xi T34 904 106 = Xi U30 904 106 from w509.x _ _ rfl).trans ((show Xi U30 904 106 = Xi T29 904 106 from by rw [eU30]; exact Xi_ne (by omega)))
            have w517 : 0 ≤ Xi T29 904 106 ∧ Xi T29 904 106 ≤ 9 := hHT29.c _ _
            have w518 : -1 ≤ Xi T34 904 113 ∧ Xi T34 904 113 ≤ 6411 := hHT34.c _ _
            have w519 : Xi T34 904 69 = Xi T28 904 69 := (show Xi T34 904 69 = Xi U30 904 69 from w509.x _ _ rfl).trans ( (show Xi U30 904 69 = Xi T29 904 69 from by rw [eU30]; exact Xi_ne (by omega)).trans ((show Xi T29 904 69 = Xi T28 904 69 from w388.x _ _ rfl)))
            exact Rl_weak (C209 T34 hHT34 hFT34 ((Xi U30 956 ((i).toNat))) (z508) (by omega) (by omega) (by omega) (by omega) (by omega) (by omega) (thk_c (th107 (by omega)) rfl (by omega)) (g151) (by first | exact A204 | exact fun x => absurd x (by omega)) ((KQ_FR w509 rfl (KQ.w (KQ_FR w388 rfl (by assumption : KQ T28 S _)) eU30 (by omega))))) (And.intro rfl (And.intro rfl (And.intro rfl (And.intro rfl (True.intro)))))
      · refine l_iconst rfl ?_
        refine l_goto rfl rfl ?_
        refine l_istore rfl rfl rfl ?_
        have w521 : Xi U30 969 (q).toNat = Xi T28 969 (q).toNat := (show Xi U30 969 (q).toNat = Xi T29 969 (q).toNat from by rw [eU30]; exact Xi_ne (by omega)).trans ((show Xi T29 969 (q).toNat = Xi T28 969 (q).toNat from (w388.cx 969 rfl _).1))
        have w522 : Xi U30 972 (q).toNat = Xi T28 972 (q).toNat := (show Xi U30 972 (q).toNat = Xi T29 972 (q).toNat from by rw [eU30]; exact Xi_ne (by omega)).trans ((show Xi T29 972 (q).toNat = Xi T28 972 (q).toNat from (w388.cx 972 rfl _).1))
        have w523 : Xi U30 973 (q).toNat = Xi T28 973 (q).toNat := (show Xi U30 973 (q).toNat = Xi T29 973 (q).toNat from by rw [eU30]; exact Xi_ne (by omega)).trans ((show Xi T29 973 (q).toNat = Xi T28 973 (q).toNat from (w388.cx 973 rfl _).1))
        have w524 : Xi U30 974 (q).toNat = Xi T28 974 (q).toNat := (show Xi U30 974 (q).toNat = Xi T29 974 (q).toNat from by rw [eU30]; exact Xi_ne (by omega)).trans ((show Xi T29 974 (q).toNat = Xi T28 974 (q).toNat from (w388.cx 974 rfl _).1))
        have w525 : Xi U30 975 (q).toNat = Xi T28 975 (q).toNat := (show Xi U30 975 (q).toNat = Xi T29 975 (q).toNat from by rw [eU30]; exact Xi_ne (by omega)).trans ((show Xi T29 975 (q).toNat = Xi T28 975 (q).toNat from (w388.cx 975 rfl _).1))
        have w526 : Xi U30 904 106 = Xi T29 904 106 := (show Xi U30 904 106 = Xi T29 904 106 from by rw [eU30]; exact Xi_ne (by omega))
        have w527 : 0 ≤ Xi T29 904 106 ∧ Xi T29 904 106 ≤ 9 := hHT29.c _ _
        have w528 : Xi U30 904 113 = Xi T28 904 113 := (show Xi U30 904 113 = Xi T29 904 113 from by rw [eU30]; exact Xi_ne (by omega)).trans ((show Xi T29 904 113 = Xi T28 904 113 from w388.x _ _ rfl))
        have w529 : -1 ≤ Xi T28 904 113 ∧ Xi T28 904 113 ≤ 6411 := hHT28.c _ _
        have w530 : Xi U30 904 69 = Xi T28 904 69 := (show Xi U30 904 69 = Xi T29 904 69 from by rw [eU30]; exact Xi_ne (by omega)).trans ((show Xi T29 904 69 = Xi T28 904 69 from w388.x _ _ rfl))
        exact Rl_weak (C209 U30 hHU30 hFU30 ((Xi U30 956 ((i).toNat))) (0) (by omega) (by omega) (by omega) (by omega) (by omega) (by omega) (thk_c (th107 (by omega)) rfl (by omega)) (g151) (by first | exact A204 | exact fun x => absurd x (by omega)) ((KQ.w (KQ_FR w388 rfl (by assumption : KQ T28 S _)) eU30 (by omega)))) (And.intro rfl (And.intro rfl (And.intro rfl (And.intro rfl (True.intro)))))
set_option maxRecDepth 100000 in
set_option maxHeartbeats 8000000 in
theorem t_mo_testMeant {S : sS} (hH : HI S) (n : Nat) (i : Int) (q : Int) (isNow : Int) (hi : 0 ≤ i ∧ i ≤ 1699) (hq : 0 ≤ q ∧ q ≤ 2399) (hisNow : 0 ≤ isNow ∧ isNow ≤ 1) (hT : TK S n) (hv : RNV S n) (hM : LXM S) (hB : ABV S) (hC : DCM S) (hK : TXK S n) (htv : TV S n i.toNat) (hnf : NFX S isNow i) (d : Nat) : Mt lay0 (d + 7) m_mo_testMeant [.ref 904, iv i, iv q, iv isNow] S (Q_mo_testMeant S n i q isNow) := by
  refine Mt_R rfl rfl ?_
  have C209 := c209_mo_testMeant hH n i q isNow hi hq hisNow hT hv hM hB hC hK htv hnf d 
  have C328 := c328_mo_testMeant hH n i q isNow hi hq hisNow hT hv hM hB hC hK htv hnf d 
  have C277 := c277_mo_testMeant hH n i q isNow hi hq hisNow hT hv hM hB hC hK htv hnf d 
  have C94 := c94_mo_testMeant hH n i q isNow hi hq hisNow hT hv hM hB hC hK htv hnf d 
  have hF : FR md_mo_testMeant S S := FR.rf
  have w1 : 0 ≤ Xi S 904 106 ∧ Xi S 904 106 ≤ 9 := hH.c _ _
  have w2 : -1 ≤ Xi S 904 113 ∧ Xi S 904 113 ≤ 6411 := hH.c _ _
  have w3 : -1 ≤ Xi S 904 115 ∧ Xi S 904 115 ≤ 15 := hH.c _ _
  have w4 : -1 ≤ Xi S 904 116 ∧ Xi S 904 116 ≤ 15 := hH.c _ _
  have w5 : 0 ≤ Xi S 904 69 ∧ Xi S 904 69 ≤ 2600 := hH.c _ _
  have hn5 := hT.1
  have hc69 : 0 ≤ Xi S 904 69 ∧ Xi S 904 69 ≤ 2600 := hH.c _ _
  have hc32 : 0 ≤ Xi S 904 32 ∧ Xi S 904 32 ≤ 12 := hH.c _ _
  have hc952 : 0 ≤ Xi S 952 i.toNat ∧ Xi S 952 i.toNat ≤ 5 := hH.c 952 _
  have hte := htv.1
  have hrf : ∀ r : Int, 0 ≤ r → r < Xi S 904 69 → Xi S 950 r.toNat + Xi S 951 r.toNat ≤ n ∧ 1 ≤ Xi S 951 r.toNat := fun r a b => hv r.toNat (by omega)
  refine l_aload_n rfl rfl ?_
  refine l_gfr rfl rfl rfl rfl rfl (hH.r 904 118 969 rfl) ?_
  refine l_iload_n rfl rfl ?_
  refine l_aload_n rfl rfl ?_
  refine l_gfr rfl rfl rfl rfl rfl (hH.r 904 82 952 rfl) ?_
  refine l_iload_n rfl rfl ?_
  refine l_iaload (n := 1700) rfl rfl (by omega) (by omega) (by unfold rg; omega) ?_
  have w532 : 0 ≤ (Xi S 952 ((i).toNat)) ∧ (Xi S 952 ((i).toNat)) ≤ 5 := hH.c _ _
  refine l_iastore (n := 2400) rfl rfl (by omega) (by omega) (by unfold rg; omega) ?_
  obtain ⟨U35, eU35⟩ : ∃ T : sS, T = uI S 969 ((q).toNat) (Int32.ofInt (Xi S 952 ((i).toNat))) := ⟨_, rfl⟩
  rw [← eU35]
  have hHU35 : HI U35 := by rw [eU35]; exact HI_w hH (show 0 ≤ (Xi S 952 ((i).toNat)) by omega) (show (Xi S 952 ((i).toNat)) ≤ 5 by omega)
  have hFU35 : FR md_mo_testMeant S U35 := by rw [eU35]; exact FR.wI hF (mdf_i (r := (969, 970, 0, 100000)) (List.mem_of_getElem? (i := 5) rfl) (inR_i (by omega) (by omega) (by omega) (by omega)))
  have w533 : Xi U35 969 ((q).toNat) = (Xi S 952 ((i).toNat)) := by rw [eU35]; exact Xi_same (by unfold rg; omega)
  refine l_aload_n rfl rfl ?_
  refine l_gfr rfl rfl rfl rfl rfl (hHU35.r 904 119 970 rfl) ?_
  refine l_iload_n rfl rfl ?_
  refine l_aload_n rfl rfl ?_
  refine l_gfr rfl rfl rfl rfl rfl (hHU35.r 904 83 953 rfl) ?_
  refine l_iload_n rfl rfl ?_
  refine l_baload (n := 1700) rfl rfl rfl (by decide) (by omega) (by omega) (by unfold rg; omega) ?_
  have w534 : 0 ≤ (Xi U35 953 ((i).toNat)) ∧ (Xi U35 953 ((i).toNat)) ≤ 1 := hHU35.c _ _
  refine l_bastoreZ1 (n := 2400) rfl rfl (by omega) (by omega) (by unfold rg; omega) ⟨by omega, by omega⟩ ?_
  obtain ⟨U36, eU36⟩ : ∃ T : sS, T = uI U35 970 ((q).toNat) (Int32.ofInt (Xi U35 953 ((i).toNat))) := ⟨_, rfl⟩
  rw [← eU36]
  have hHU36 : HI U36 := by rw [eU36]; exact HI_w hHU35 (show 0 ≤ (Xi U35 953 ((i).toNat)) by omega) (show (Xi U35 953 ((i).toNat)) ≤ 1 by omega)
  have hFU36 : FR md_mo_testMeant S U36 := by rw [eU36]; exact FR.wI hFU35 (mdf_i (r := (970, 971, 0, 100000)) (List.mem_of_getElem? (i := 6) rfl) (inR_i (by omega) (by omega) (by omega) (by omega)))
  have w535 : Xi U36 970 ((q).toNat) = (Xi U35 953 ((i).toNat)) := by rw [eU36]; exact Xi_same (by unfold rg; omega)
  refine l_aload_n rfl rfl ?_
  refine l_gfr rfl rfl rfl rfl rfl (hHU36.r 904 82 952 rfl) ?_
  refine l_iload_n rfl rfl ?_
  refine l_iaload (n := 1700) rfl rfl (by omega) (by omega) (by unfold rg; omega) ?_
  have w536 : (Xi U36 952 ((i).toNat)) = (Xi S 952 ((i).toNat)) := (show Xi U36 952 ((i).toNat) = Xi U35 952 ((i).toNat) from by rw [eU36]; exact Xi_ne (by omega)).trans ((show Xi U35 952 ((i).toNat) = Xi S 952 ((i).toNat) from by rw [eU35]; exact Xi_ne (by omega)))
  rw [w536]
  have e29 : (Xi S 952 ((i).toNat)) = Xi S 952 (i).toNat := by first | rfl | exact (hFU36.cx 952 rfl _).1 | exact (hFU35.cx 952 rfl _).1 | exact (hFS.cx 952 rfl _).1
  refine l_iconst rfl ?_
  refine l_icmp_ne rfl rfl (by unfold rg; omega) (by unfold rg; omega) (fun w537 => ?_) (fun w538 => ?_)
  · have w539 : Xi U36 969 (q).toNat = Xi U35 969 (q).toNat := (show Xi U36 969 (q).toNat = Xi U35 969 (q).toNat from by rw [eU36]; exact Xi_ne (by omega))
    have w540 : Xi U36 971 (q).toNat = Xi S 971 (q).toNat := (show Xi U36 971 (q).toNat = Xi U35 971 (q).toNat from by rw [eU36]; exact Xi_ne (by omega)).trans ((show Xi U35 971 (q).toNat = Xi S 971 (q).toNat from by rw [eU35]; exact Xi_ne (by omega)))
    have w541 : Xi U36 972 (q).toNat = Xi S 972 (q).toNat := (show Xi U36 972 (q).toNat = Xi U35 972 (q).toNat from by rw [eU36]; exact Xi_ne (by omega)).trans ((show Xi U35 972 (q).toNat = Xi S 972 (q).toNat from by rw [eU35]; exact Xi_ne (by omega)))
    have w542 : Xi U36 973 (q).toNat = Xi S 973 (q).toNat := (show Xi U36 973 (q).toNat = Xi U35 973 (q).toNat from by rw [eU36]; exact Xi_ne (by omega)).trans ((show Xi U35 973 (q).toNat = Xi S 973 (q).toNat from by rw [eU35]; exact Xi_ne (by omega)))
    have w543 : Xi U36 974 (q).toNat = Xi S 974 (q).toNat := (show Xi U36 974 (q).toNat = Xi U35 974 (q).toNat from by rw [eU36]; exact Xi_ne (by omega)).trans ((show Xi U35 974 (q).toNat = Xi S 974 (q).toNat from by rw [eU35]; exact Xi_ne (by omega)))
    have w544 : Xi U36 975 (q).toNat = Xi S 975 (q).toNat := (show Xi U36 975 (q).toNat = Xi U35 975 (q).toNat from by rw [eU36]; exact Xi_ne (by omega)).trans ((show Xi U35 975 (q).toNat = Xi S 975 (q).toNat from by rw [eU35]; exact Xi_ne (by omega)))
    have w545 : Xi U36 904 106 = Xi S 904 106 := (show Xi U36 904 106 = Xi U35 904 106 from by rw [eU36]; exact Xi_ne (by omega)).trans ((show Xi U35 904 106 = Xi S 904 106 from by rw [eU35]; exact Xi_ne (by omega)))
    have w547 : Xi U36 904 113 = Xi S 904 113 := (show Xi U36 904 113 = Xi U35 904 113 from by rw [eU36]; exact Xi_ne (by omega)).trans ((show Xi U35 904 113 = Xi S 904 113 from by rw [eU35]; exact Xi_ne (by omega)))
    have w549 : Xi U36 904 69 = Xi S 904 69 := (show Xi U36 904 69 = Xi U35 904 69 from by rw [eU36]; exact Xi_ne (by omega)).trans ((show Xi U35 904 69 = Xi S 904 69 from by rw [eU35]; exact Xi_ne (by omega)))
    exact Rl_weak (C94 U36 hHU36 hFU36  (by omega) (by omega) (by omega) ((KQ.w (KQ.w KQ.rf eU35 (by omega)) eU36 (by omega))) (by omega)) (And.intro rfl (And.intro rfl (And.intro rfl (And.intro rfl (True.intro)))))
  · refine l_aload_n rfl rfl ?_
    refine l_gfr rfl rfl rfl rfl rfl (hHU36.r 904 91 961 rfl) ?_
    refine l_iload_n rfl rfl ?_
    refine l_iaload (n := 1700) rfl rfl (by omega) (by omega) (by unfold rg; omega) ?_
    have w551 : 0 ≤ (Xi U36 961 ((i).toNat)) ∧ (Xi U36 961 ((i).toNat)) ≤ 5010 := hHU36.c _ _
    have e39 : (Xi U36 961 ((i).toNat)) = Xi S 961 (i).toNat := by first | rfl | exact (hFU36.cx 961 rfl _).1 | exact (hFU35.cx 961 rfl _).1 | exact (hFS.cx 961 rfl _).1
    refine l_istore rfl rfl rfl ?_
    refine l_aload_n rfl rfl ?_
    refine l_iload rfl rfl ?_
    refine l_aload_n rfl rfl ?_
    refine l_gfr rfl rfl rfl rfl rfl (hHU36.r 904 92 962 rfl) ?_
    refine l_iload_n rfl rfl ?_
    refine l_iaload (n := 1700) rfl rfl (by omega) (by omega) (by unfold rg; omega) ?_
    have w552 : 0 ≤ (Xi U36 962 ((i).toNat)) ∧ (Xi U36 962 ((i).toNat)) ≤ 5010 := hHU36.c _ _
    have e50 : (Xi U36 962 ((i).toNat)) = Xi S 962 (i).toNat := by first | rfl | exact (hFU36.cx 962 rfl _).1 | exact (hFU35.cx 962 rfl _).1 | exact (hFS.cx 962 rfl _).1
    refine l_iload_n rfl rfl ?_
    refine l_callV rfl rfl rfl (t_mo_sayings hHU36 (Xi U36 961 ((i).toNat)) (Xi U36 962 ((i).toNat)) q ⟨by omega, by omega⟩ ⟨by omega, by omega⟩ ⟨by omega, by omega⟩ (by first | assumption | exact (LXM_FR hFU36 rfl (by assumption : LXM S))) (by first | assumption | exact (ABV_FR hFU36 rfl (by assumption : ABV S))) (by first | assumption | omega) _) ?_
    rintro _ T37 ⟨hHT37, w561, z560, rfl, w560, f52, w559⟩
    have hFT37 : FR md_mo_testMeant S T37 := FR.tr hFU36 w561 rfl
    show Rl _ _ _ _ _ [iv z560] _ _
    have h52 : Xi T37 904 19 = Xi S 904 19 ∧ Xi T37 904 115 = Xi S 904 115 ∧ Xi T37 904 116 = Xi S 904 116 := ⟨hFT37.x 904 19 rfl, hFT37.x 904 115 rfl, hFT37.x 904 116 rfl⟩
    refine l_istore rfl rfl rfl ?_
    refine l_aload_n rfl rfl ?_
    refine l_iload rfl rfl ?_
    refine l_if_le rfl rfl (by unfold rg; omega) (fun w562 => ?_) (fun w563 => ?_)
    · refine l_iconst rfl ?_
      refine l_iconst rfl ?_
      refine l_iload rfl rfl ?_
      have w564 : Xi T37 904 106 = Xi S 904 106 := (show Xi T37 904 106 = Xi U36 904 106 from w561.x _ _ rfl).trans ( (show Xi U36 904 106 = Xi U35 904 106 from by rw [eU36]; exact Xi_ne (by omega)).trans ((show Xi U35 904 106 = Xi S 904 106 from by rw [eU35]; exact Xi_ne (by omega))))
      refine l_callV rfl rfl rfl (t_mo_need hHT37 0 4 (Xi U36 961 ((i).toNat)) ⟨by omega, by omega⟩ ⟨by omega, by omega⟩ ⟨by omega, by omega⟩ _) ?_
      rintro _ T38 ⟨hHT38, w573, rfl, w570, w571⟩
      have hFT38 : FR md_mo_testMeant S T38 := FR.tr hFT37 w573 rfl
      show Rl _ _ _ _ _ [] _ _
      refine l_aload_n rfl rfl ?_
      refine l_iload rfl rfl ?_
      refine l_iconst rfl ?_
      refine l_icmp_ge rfl rfl (by unfold rg; omega) (by unfold rg; omega) (fun w574 => ?_) (fun w575 => ?_)
      · refine l_iconst rfl ?_
        refine l_bipush rfl rfl ?_
        refine l_iload rfl rfl ?_
        have w576 : 0 ≤ Xi T38 904 106 ∧ Xi T38 904 106 ≤ 9 := hHT38.c _ _
        refine l_callV rfl rfl rfl (t_mo_need hHT38 0 7 (Xi U36 961 ((i).toNat)) ⟨by omega, by omega⟩ ⟨by omega, by omega⟩ ⟨by omega, by omega⟩ _) ?_
        rintro _ T39 ⟨hHT39, w584, rfl, w581, w582⟩
        have hFT39 : FR md_mo_testMeant S T39 := FR.tr hFT38 w584 rfl
        show Rl _ _ _ _ _ [] _ _
        refine l_return rfl rfl ?_
        have w585 : Xi T39 969 (q).toNat = Xi U35 969 (q).toNat := (show Xi T39 969 (q).toNat = Xi T38 969 (q).toNat from (w584.cx 969 rfl _).1).trans ( (show Xi T38 969 (q).toNat = Xi T37 969 (q).toNat from (w573.cx 969 rfl _).1).trans ( (show Xi T37 969 (q).toNat = Xi U36 969 (q).toNat from (w561.cx 969 rfl _).1).trans ((show Xi U36 969 (q).toNat = Xi U35 969 (q).toNat from by rw [eU36]; exact Xi_ne (by omega)))))
        have w586 : Xi T39 971 (q).toNat = Xi T37 971 (q).toNat := (show Xi T39 971 (q).toNat = Xi T38 971 (q).toNat from (w584.cx 971 rfl _).1).trans ((show Xi T38 971 (q).toNat = Xi T37 971 (q).toNat from (w573.cx 971 rfl _).1))
        have w587 : Xi T39 972 (q).toNat = Xi T37 972 (q).toNat := (show Xi T39 972 (q).toNat = Xi T38 972 (q).toNat from (w584.cx 972 rfl _).1).trans ((show Xi T38 972 (q).toNat = Xi T37 972 (q).toNat from (w573.cx 972 rfl _).1))
        have w588 : Xi T39 973 (q).toNat = Xi S 973 (q).toNat := (show Xi T39 973 (q).toNat = Xi T38 973 (q).toNat from (w584.cx 973 rfl _).1).trans ( (show Xi T38 973 (q).toNat = Xi T37 973 (q).toNat from (w573.cx 973 rfl _).1).trans ( (show Xi T37 973 (q).toNat = Xi U36 973 (q).toNat from (w561.cx 973 rfl _).1).trans ( (show Xi U36 973 (q).toNat = Xi U35 973 (q).toNat from by rw [eU36]; exact Xi_ne (by omega)).trans ((show Xi U35 973 (q).toNat = Xi S 973 (q).toNat from by rw [eU35]; exact Xi_ne (by omega))))))
        have w589 : Xi T39 974 (q).toNat = Xi S 974 (q).toNat := (show Xi T39 974 (q).toNat = Xi T38 974 (q).toNat from (w584.cx 974 rfl _).1).trans ( (show Xi T38 974 (q).toNat = Xi T37 974 (q).toNat from (w573.cx 974 rfl _).1).trans ( (show Xi T37 974 (q).toNat = Xi U36 974 (q).toNat from (w561.cx 974 rfl _).1).trans ( (show Xi U36 974 (q).toNat = Xi U35 974 (q).toNat from by rw [eU36]; exact Xi_ne (by omega)).trans ((show Xi U35 974 (q).toNat = Xi S 974 (q).toNat from by rw [eU35]; exact Xi_ne (by omega))))))
        have w590 : Xi T39 975 (q).toNat = Xi T37 975 (q).toNat := (show Xi T39 975 (q).toNat = Xi T38 975 (q).toNat from (w584.cx 975 rfl _).1).trans ((show Xi T38 975 (q).toNat = Xi T37 975 (q).toNat from (w573.cx 975 rfl _).1))
        have w591 : 0 ≤ Xi T39 904 106 ∧ Xi T39 904 106 ≤ 9 := hHT39.c _ _
        have w592 : Xi T39 904 113 = Xi S 904 113 := (show Xi T39 904 113 = Xi T38 904 113 from w584.x _ _ rfl).trans ( (show Xi T38 904 113 = Xi T37 904 113 from w573.x _ _ rfl).trans ( (show Xi T37 904 113 = Xi U36 904 113 from w561.x _ _ rfl).trans ( (show Xi U36 904 113 = Xi U35 904 113 from by rw [eU36]; exact Xi_ne (by omega)).trans ((show Xi U35 904 113 = Xi S 904 113 from by rw [eU35]; exact Xi_ne (by omega))))))
        have w594 : Xi T39 904 69 = Xi S 904 69 := (show Xi T39 904 69 = Xi T38 904 69 from w584.x _ _ rfl).trans ( (show Xi T38 904 69 = Xi T37 904 69 from w573.x _ _ rfl).trans ( (show Xi T37 904 69 = Xi U36 904 69 from w561.x _ _ rfl).trans ( (show Xi U36 904 69 = Xi U35 904 69 from by rw [eU36]; exact Xi_ne (by omega)).trans ((show Xi U35 904 69 = Xi S 904 69 from by rw [eU35]; exact Xi_ne (by omega))))))
        exact ⟨hHT39, hFT39, rfl, (by omega), (by first | exact (fun _ q => syq_5 (f52 (by omega)) h52.1 h52.2.1 h52.2.2 (hFT39.x 904 19 rfl) (by omega) (by omega) (by omega) (by omega)) f52 | exact (fun _ q => tq_3 (by omega) (thk_c (H209) (hFT39.x 904 19 rfl) (by omega)) (adx_c (W209 (by omega)) (hFT39.x 904 23 rfl) (hFT39.x 904 32 rfl) (by omega))) W209 | exact (fun _ q => tq_4 (by omega) (thk_c (H277 (by omega)) (hFT39.x 904 19 rfl) (by omega))) q299 | exact (fun _ q => tq_2 (by omega) (thk_c (H328 (by omega)) (hFT39.x 904 19 rfl) (by omega)) (by have a := hFT39.x 904 32 rfl; omega) (fun _ => o386)) o386 | exact (fun _ q => tq_2 (by omega) (thk_c (H328 (by omega)) (hFT39.x 904 19 rfl) (by omega)) (by have a := hFT39.x 904 32 rfl; omega) (fun y => absurd y (by omega))) p337 | exact fun x => absurd x (by omega)), (by first | exact fun x y => ⟨Or.inr (Or.inr (by omega)), fun z => absurd z (by omega)⟩ | exact fun x y => ⟨by have t := hnf y; omega, fun z => absurd z (by omega)⟩ | exact (fun _ x0 => fun y => ⟨by omega, fun _ z => by rw [(hFT39.cx 922 rfl _).1, show Xi T39 973 (q).toNat = Xi S 904 113 by omega]; exact (W209 (by omega)).2 (by omega) (by omega)⟩) W209 | exact fun x => absurd x (by omega)), ((KQ_FR w584 rfl (KQ_FR w573 rfl (KQ.tr (KQ.w (KQ.w KQ.rf eU35 (by omega)) eU36 (by omega)) (by assumption : KQ T37 U36 _)))))⟩
      · refine l_iconst rfl ?_
        refine l_goto rfl rfl ?_
        refine l_bipush rfl rfl ?_
        refine l_iload rfl rfl ?_
        have w596 : 0 ≤ Xi T38 904 106 ∧ Xi T38 904 106 ≤ 9 := hHT38.c _ _
        refine l_callV rfl rfl rfl (t_mo_need hHT38 1 7 (Xi U36 961 ((i).toNat)) ⟨by omega, by omega⟩ ⟨by omega, by omega⟩ ⟨by omega, by omega⟩ _) ?_
        rintro _ T40 ⟨hHT40, w604, rfl, w601, w602⟩
        have hFT40 : FR md_mo_testMeant S T40 := FR.tr hFT38 w604 rfl
        show Rl _ _ _ _ _ [] _ _
        refine l_return rfl rfl ?_
        have w605 : Xi T40 969 (q).toNat = Xi U35 969 (q).toNat := (show Xi T40 969 (q).toNat = Xi T38 969 (q).toNat from (w604.cx 969 rfl _).1).trans ( (show Xi T38 969 (q).toNat = Xi T37 969 (q).toNat from (w573.cx 969 rfl _).1).trans ( (show Xi T37 969 (q).toNat = Xi U36 969 (q).toNat from (w561.cx 969 rfl _).1).trans ((show Xi U36 969 (q).toNat = Xi U35 969 (q).toNat from by rw [eU36]; exact Xi_ne (by omega)))))
        have w606 : Xi T40 971 (q).toNat = Xi T37 971 (q).toNat := (show Xi T40 971 (q).toNat = Xi T38 971 (q).toNat from (w604.cx 971 rfl _).1).trans ((show Xi T38 971 (q).toNat = Xi T37 971 (q).toNat from (w573.cx 971 rfl _).1))
        have w607 : Xi T40 972 (q).toNat = Xi T37 972 (q).toNat := (show Xi T40 972 (q).toNat = Xi T38 972 (q).toNat from (w604.cx 972 rfl _).1).trans ((show Xi T38 972 (q).toNat = Xi T37 972 (q).toNat from (w573.cx 972 rfl _).1))
        have w608 : Xi T40 973 (q).toNat = Xi S 973 (q).toNat := (show Xi T40 973 (q).toNat = Xi T38 973 (q).toNat from (w604.cx 973 rfl _).1).trans ( (show Xi T38 973 (q).toNat = Xi T37 973 (q).toNat from (w573.cx 973 rfl _).1).trans ( (show Xi T37 973 (q).toNat = Xi U36 973 (q).toNat from (w561.cx 973 rfl _).1).trans ( (show Xi U36 973 (q).toNat = Xi U35 973 (q).toNat from by rw [eU36]; exact Xi_ne (by omega)).trans ((show Xi U35 973 (q).toNat = Xi S 973 (q).toNat from by rw [eU35]; exact Xi_ne (by omega))))))
        have w609 : Xi T40 974 (q).toNat = Xi S 974 (q).toNat := (show Xi T40 974 (q).toNat = Xi T38 974 (q).toNat from (w604.cx 974 rfl _).1).trans ( (show Xi T38 974 (q).toNat = Xi T37 974 (q).toNat from (w573.cx 974 rfl _).1).trans ( (show Xi T37 974 (q).toNat = Xi U36 974 (q).toNat from (w561.cx 974 rfl _).1).trans ( (show Xi U36 974 (q).toNat = Xi U35 974 (q).toNat from by rw [eU36]; exact Xi_ne (by omega)).trans ((show Xi U35 974 (q).toNat = Xi S 974 (q).toNat from by rw [eU35]; exact Xi_ne (by omega))))))
        have w610 : Xi T40 975 (q).toNat = Xi T37 975 (q).toNat := (show Xi T40 975 (q).toNat = Xi T38 975 (q).toNat from (w604.cx 975 rfl _).1).trans ((show Xi T38 975 (q).toNat = Xi T37 975 (q).toNat from (w573.cx 975 rfl _).1))
        have w611 : 0 ≤ Xi T40 904 106 ∧ Xi T40 904 106 ≤ 9 := hHT40.c _ _
        have w612 : Xi T40 904 113 = Xi S 904 113 := (show Xi T40 904 113 = Xi T38 904 113 from w604.x _ _ rfl).trans ( (show Xi T38 904 113 = Xi T37 904 113 from w573.x _ _ rfl).trans ( (show Xi T37 904 113 = Xi U36 904 113 from w561.x _ _ rfl).trans ( (show Xi U36 904 113 = Xi U35 904 113 from by rw [eU36]; exact Xi_ne (by omega)).trans ((show Xi U35 904 113 = Xi S 904 113 from by rw [eU35]; exact Xi_ne (by omega))))))
        have w614 : Xi T40 904 69 = Xi S 904 69 := (show Xi T40 904 69 = Xi T38 904 69 from w604.x _ _ rfl).trans ( (show Xi T38 904 69 = Xi T37 904 69 from w573.x _ _ rfl).trans ( (show Xi T37 904 69 = Xi U36 904 69 from w561.x _ _ rfl).trans ( (show Xi U36 904 69 = Xi U35 904 69 from by rw [eU36]; exact Xi_ne (by omega)).trans ((show Xi U35 904 69 = Xi S 904 69 from by rw [eU35]; exact Xi_ne (by omega))))))
        exact ⟨hHT40, hFT40, rfl, (by omega), (by first | exact (fun _ q => syq_5 (f52 (by omega)) h52.1 h52.2.1 h52.2.2 (hFT40.x 904 19 rfl) (by omega) (by omega) (by omega) (by omega)) f52 | exact (fun _ q => tq_3 (by omega) (thk_c (H209) (hFT40.x 904 19 rfl) (by omega)) (adx_c (W209 (by omega)) (hFT40.x 904 23 rfl) (hFT40.x 904 32 rfl) (by omega))) W209 | exact (fun _ q => tq_4 (by omega) (thk_c (H277 (by omega)) (hFT40.x 904 19 rfl) (by omega))) q299 | exact (fun _ q => tq_2 (by omega) (thk_c (H328 (by omega)) (hFT40.x 904 19 rfl) (by omega)) (by have a := hFT40.x 904 32 rfl; omega) (fun _ => o386)) o386 | exact (fun _ q => tq_2 (by omega) (thk_c (H328 (by omega)) (hFT40.x 904 19 rfl) (by omega)) (by have a := hFT40.x 904 32 rfl; omega) (fun y => absurd y (by omega))) p337 | exact fun x => absurd x (by omega)), (by first | exact fun x y => ⟨Or.inr (Or.inr (by omega)), fun z => absurd z (by omega)⟩ | exact fun x y => ⟨by have t := hnf y; omega, fun z => absurd z (by omega)⟩ | exact (fun _ x0 => fun y => ⟨by omega, fun _ z => by rw [(hFT40.cx 922 rfl _).1, show Xi T40 973 (q).toNat = Xi S 904 113 by omega]; exact (W209 (by omega)).2 (by omega) (by omega)⟩) W209 | exact fun x => absurd x (by omega)), ((KQ_FR w604 rfl (KQ_FR w573 rfl (KQ.tr (KQ.w (KQ.w KQ.rf eU35 (by omega)) eU36 (by omega)) (by assumption : KQ T37 U36 _)))))⟩
    · refine l_iconst rfl ?_
      refine l_goto rfl rfl ?_
      refine l_iconst rfl ?_
      refine l_iload rfl rfl ?_
      have w616 : Xi T37 904 106 = Xi S 904 106 := (show Xi T37 904 106 = Xi U36 904 106 from w561.x _ _ rfl).trans ( (show Xi U36 904 106 = Xi U35 904 106 from by rw [eU36]; exact Xi_ne (by omega)).trans ((show Xi U35 904 106 = Xi S 904 106 from by rw [eU35]; exact Xi_ne (by omega))))
      refine l_callV rfl rfl rfl (t_mo_need hHT37 1 4 (Xi U36 961 ((i).toNat)) ⟨by omega, by omega⟩ ⟨by omega, by omega⟩ ⟨by omega, by omega⟩ _) ?_
      rintro _ T41 ⟨hHT41, w625, rfl, w622, w623⟩
      have hFT41 : FR md_mo_testMeant S T41 := FR.tr hFT37 w625 rfl
      show Rl _ _ _ _ _ [] _ _
      refine l_aload_n rfl rfl ?_
      refine l_iload rfl rfl ?_
      refine l_iconst rfl ?_
      refine l_icmp_ge rfl rfl (by unfold rg; omega) (by unfold rg; omega) (fun w626 => ?_) (fun w627 => ?_)
      · refine l_iconst rfl ?_
        refine l_bipush rfl rfl ?_
        refine l_iload rfl rfl ?_
        have w628 : 0 ≤ Xi T41 904 106 ∧ Xi T41 904 106 ≤ 9 := hHT41.c _ _
        refine l_callV rfl rfl rfl (t_mo_need hHT41 0 7 (Xi U36 961 ((i).toNat)) ⟨by omega, by omega⟩ ⟨by omega, by omega⟩ ⟨by omega, by omega⟩ _) ?_
        rintro _ T42 ⟨hHT42, w636, rfl, w633, w634⟩
        have hFT42 : FR md_mo_testMeant S T42 := FR.tr hFT41 w636 rfl
        show Rl _ _ _ _ _ [] _ _
        refine l_return rfl rfl ?_
        have w637 : Xi T42 969 (q).toNat = Xi U35 969 (q).toNat := (show Xi T42 969 (q).toNat = Xi T41 969 (q).toNat from (w636.cx 969 rfl _).1).trans ( (show Xi T41 969 (q).toNat = Xi T37 969 (q).toNat from (w625.cx 969 rfl _).1).trans ( (show Xi T37 969 (q).toNat = Xi U36 969 (q).toNat from (w561.cx 969 rfl _).1).trans ((show Xi U36 969 (q).toNat = Xi U35 969 (q).toNat from by rw [eU36]; exact Xi_ne (by omega)))))
        have w638 : Xi T42 971 (q).toNat = Xi T37 971 (q).toNat := (show Xi T42 971 (q).toNat = Xi T41 971 (q).toNat from (w636.cx 971 rfl _).1).trans ((show Xi T41 971 (q).toNat = Xi T37 971 (q).toNat from (w625.cx 971 rfl _).1))
        have w639 : Xi T42 972 (q).toNat = Xi T37 972 (q).toNat := (show Xi T42 972 (q).toNat = Xi T41 972 (q).toNat from (w636.cx 972 rfl _).1).trans ((show Xi T41 972 (q).toNat = Xi T37 972 (q).toNat from (w625.cx 972 rfl _).1))
        have w640 : Xi T42 973 (q).toNat = Xi S 973 (q).toNat := (show Xi T42 973 (q).toNat = Xi T41 973 (q).toNat from (w636.cx 973 rfl _).1).trans ( (show Xi T41 973 (q).toNat = Xi T37 973 (q).toNat from (w625.cx 973 rfl _).1).trans ( (show Xi T37 973 (q).toNat = Xi U36 973 (q).toNat from (w561.cx 973 rfl _).1).trans ( (show Xi U36 973 (q).toNat = Xi U35 973 (q).toNat from by rw [eU36]; exact Xi_ne (by omega)).trans ((show Xi U35 973 (q).toNat = Xi S 973 (q).toNat from by rw [eU35]; exact Xi_ne (by omega))))))
        have w641 : Xi T42 974 (q).toNat = Xi S 974 (q).toNat := (show Xi T42 974 (q).toNat = Xi T41 974 (q).toNat from (w636.cx 974 rfl _).1).trans ( (show Xi T41 974 (q).toNat = Xi T37 974 (q).toNat from (w625.cx 974 rfl _).1).trans ( (show Xi T37 974 (q).toNat = Xi U36 974 (q).toNat from (w561.cx 974 rfl _).1).trans ( (show Xi U36 974 (q).toNat = Xi U35 974 (q).toNat from by rw [eU36]; exact Xi_ne (by omega)).trans ((show Xi U35 974 (q).toNat = Xi S 974 (q).toNat from by rw [eU35]; exact Xi_ne (by omega))))))
        have w642 : Xi T42 975 (q).toNat = Xi T37 975 (q).toNat := (show Xi T42 975 (q).toNat = Xi T41 975 (q).toNat from (w636.cx 975 rfl _).1).trans ((show Xi T41 975 (q).toNat = Xi T37 975 (q).toNat from (w625.cx 975 rfl _).1))
        have w643 : 0 ≤ Xi T42 904 106 ∧ Xi T42 904 106 ≤ 9 := hHT42.c _ _
        have w644 : Xi T42 904 113 = Xi S 904 113 := (show Xi T42 904 113 = Xi T41 904 113 from w636.x _ _ rfl).trans ( (show Xi T41 904 113 = Xi T37 904 113 from w625.x _ _ rfl).trans ( (show Xi T37 904 113 = Xi U36 904 113 from w561.x _ _ rfl).trans ( (show Xi U36 904 113 = Xi U35 904 113 from by rw [eU36]; exact Xi_ne (by omega)).trans ((show Xi U35 904 113 = Xi S 904 113 from by rw [eU35]; exact Xi_ne (by omega))))))
        have w646 : Xi T42 904 69 = Xi S 904 69 := (show Xi T42 904 69 = Xi T41 904 69 from w636.x _ _ rfl).trans ( (show Xi T41 904 69 = Xi T37 904 69 from w625.x _ _ rfl).trans ( (show Xi T37 904 69 = Xi U36 904 69 from w561.x _ _ rfl).trans ( (show Xi U36 904 69 = Xi U35 904 69 from by rw [eU36]; exact Xi_ne (by omega)).trans ((show Xi U35 904 69 = Xi S 904 69 from by rw [eU35]; exact Xi_ne (by omega))))))
        exact ⟨hHT42, hFT42, rfl, (by omega), (by first | exact (fun _ q => syq_5 (f52 (by omega)) h52.1 h52.2.1 h52.2.2 (hFT42.x 904 19 rfl) (by omega) (by omega) (by omega) (by omega)) f52 | exact (fun _ q => tq_3 (by omega) (thk_c (H209) (hFT42.x 904 19 rfl) (by omega)) (adx_c (W209 (by omega)) (hFT42.x 904 23 rfl) (hFT42.x 904 32 rfl) (by omega))) W209 | exact (fun _ q => tq_4 (by omega) (thk_c (H277 (by omega)) (hFT42.x 904 19 rfl) (by omega))) q299 | exact (fun _ q => tq_2 (by omega) (thk_c (H328 (by omega)) (hFT42.x 904 19 rfl) (by omega)) (by have a := hFT42.x 904 32 rfl; omega) (fun _ => o386)) o386 | exact (fun _ q => tq_2 (by omega) (thk_c (H328 (by omega)) (hFT42.x 904 19 rfl) (by omega)) (by have a := hFT42.x 904 32 rfl; omega) (fun y => absurd y (by omega))) p337 | exact fun x => absurd x (by omega)), (by first | exact fun x y => ⟨Or.inr (Or.inr (by omega)), fun z => absurd z (by omega)⟩ | exact fun x y => ⟨by have t := hnf y; omega, fun z => absurd z (by omega)⟩ | exact (fun _ x0 => fun y => ⟨by omega, fun _ z => by rw [(hFT42.cx 922 rfl _).1, show Xi T42 973 (q).toNat = Xi S 904 113 by omega]; exact (W209 (by omega)).2 (by omega) (by omega)⟩) W209 | exact fun x => absurd x (by omega)), ((KQ_FR w636 rfl (KQ_FR w625 rfl (KQ.tr (KQ.w (KQ.w KQ.rf eU35 (by omega)) eU36 (by omega)) (by assumption : KQ T37 U36 _)))))⟩
      · refine l_iconst rfl ?_
        refine l_goto rfl rfl ?_
        refine l_bipush rfl rfl ?_
        refine l_iload rfl rfl ?_
        have w648 : 0 ≤ Xi T41 904 106 ∧ Xi T41 904 106 ≤ 9 := hHT41.c _ _
        refine l_callV rfl rfl rfl (t_mo_need hHT41 1 7 (Xi U36 961 ((i).toNat)) ⟨by omega, by omega⟩ ⟨by omega, by omega⟩ ⟨by omega, by omega⟩ _) ?_
        rintro _ T43 ⟨hHT43, w656, rfl, w653, w654⟩
        have hFT43 : FR md_mo_testMeant S T43 := FR.tr hFT41 w656 rfl
        show Rl _ _ _ _ _ [] _ _
        refine l_return rfl rfl ?_
        have w657 : Xi T43 969 (q).toNat = Xi U35 969 (q).toNat := (show Xi T43 969 (q).toNat = Xi T41 969 (q).toNat from (w656.cx 969 rfl _).1).trans ( (show Xi T41 969 (q).toNat = Xi T37 969 (q).toNat from (w625.cx 969 rfl _).1).trans ( (show Xi T37 969 (q).toNat = Xi U36 969 (q).toNat from (w561.cx 969 rfl _).1).trans ((show Xi U36 969 (q).toNat = Xi U35 969 (q).toNat from by rw [eU36]; exact Xi_ne (by omega)))))
        have w658 : Xi T43 971 (q).toNat = Xi T37 971 (q).toNat := (show Xi T43 971 (q).toNat = Xi T41 971 (q).toNat from (w656.cx 971 rfl _).1).trans ((show Xi T41 971 (q).toNat = Xi T37 971 (q).toNat from (w625.cx 971 rfl _).1))
        have w659 : Xi T43 972 (q).toNat = Xi T37 972 (q).toNat := (show Xi T43 972 (q).toNat = Xi T41 972 (q).toNat from (w656.cx 972 rfl _).1).trans ((show Xi T41 972 (q).toNat = Xi T37 972 (q).toNat from (w625.cx 972 rfl _).1))
        have w660 : Xi T43 973 (q).toNat = Xi S 973 (q).toNat := (show Xi T43 973 (q).toNat = Xi T41 973 (q).toNat from (w656.cx 973 rfl _).1).trans ( (show Xi T41 973 (q).toNat = Xi T37 973 (q).toNat from (w625.cx 973 rfl _).1).trans ( (show Xi T37 973 (q).toNat = Xi U36 973 (q).toNat from (w561.cx 973 rfl _).1).trans ( (show Xi U36 973 (q).toNat = Xi U35 973 (q).toNat from by rw [eU36]; exact Xi_ne (by omega)).trans ((show Xi U35 973 (q).toNat = Xi S 973 (q).toNat from by rw [eU35]; exact Xi_ne (by omega))))))
        have w661 : Xi T43 974 (q).toNat = Xi S 974 (q).toNat := (show Xi T43 974 (q).toNat = Xi T41 974 (q).toNat from (w656.cx 974 rfl _).1).trans ( (show Xi T41 974 (q).toNat = Xi T37 974 (q).toNat from (w625.cx 974 rfl _).1).trans ( (show Xi T37 974 (q).toNat = Xi U36 974 (q).toNat from (w561.cx 974 rfl _).1).trans ( (show Xi U36 974 (q).toNat = Xi U35 974 (q).toNat from by rw [eU36]; exact Xi_ne (by omega)).trans ((show Xi U35 974 (q).toNat = Xi S 974 (q).toNat from by rw [eU35]; exact Xi_ne (by omega))))))
        have w662 : Xi T43 975 (q).toNat = Xi T37 975 (q).toNat := (show Xi T43 975 (q).toNat = Xi T41 975 (q).toNat from (w656.cx 975 rfl _).1).trans ((show Xi T41 975 (q).toNat = Xi T37 975 (q).toNat from (w625.cx 975 rfl _).1))
        have w663 : 0 ≤ Xi T43 904 106 ∧ Xi T43 904 106 ≤ 9 := hHT43.c _ _
        have w664 : Xi T43 904 113 = Xi S 904 113 := (show Xi T43 904 113 = Xi T41 904 113 from w656.x _ _ rfl).trans ( (show Xi T41 904 113 = Xi T37 904 113 from w625.x _ _ rfl).trans ( (show Xi T37 904 113 = Xi U36 904 113 from w561.x _ _ rfl).trans ( (show Xi U36 904 113 = Xi U35 904 113 from by rw [eU36]; exact Xi_ne (by omega)).trans ((show Xi U35 904 113 = Xi S 904 113 from by rw [eU35]; exact Xi_ne (by omega))))))
        have w666 : Xi T43 904 69 = Xi S 904 69 := (show Xi T43 904 69 = Xi T41 904 69 from w656.x _ _ rfl).trans ( (show Xi T41 904 69 = Xi T37 904 69 from w625.x _ _ rfl).trans ( (show Xi T37 904 69 = Xi U36 904 69 from w561.x _ _ rfl).trans ( (show Xi U36 904 69 = Xi U35 904 69 from by rw [eU36]; exact Xi_ne (by omega)).trans ((show Xi U35 904 69 = Xi S 904 69 from by rw [eU35]; exact Xi_ne (by omega))))))
        exact ⟨hHT43, hFT43, rfl, (by omega), (by first | exact (fun _ q => syq_5 (f52 (by omega)) h52.1 h52.2.1 h52.2.2 (hFT43.x 904 19 rfl) (by omega) (by omega) (by omega) (by omega)) f52 | exact (fun _ q => tq_3 (by omega) (thk_c (H209) (hFT43.x 904 19 rfl) (by omega)) (adx_c (W209 (by omega)) (hFT43.x 904 23 rfl) (hFT43.x 904 32 rfl) (by omega))) W209 | exact (fun _ q => tq_4 (by omega) (thk_c (H277 (by omega)) (hFT43.x 904 19 rfl) (by omega))) q299 | exact (fun _ q => tq_2 (by omega) (thk_c (H328 (by omega)) (hFT43.x 904 19 rfl) (by omega)) (by have a := hFT43.x 904 32 rfl; omega) (fun _ => o386)) o386 | exact (fun _ q => tq_2 (by omega) (thk_c (H328 (by omega)) (hFT43.x 904 19 rfl) (by omega)) (by have a := hFT43.x 904 32 rfl; omega) (fun y => absurd y (by omega))) p337 | exact fun x => absurd x (by omega)), (by first | exact fun x y => ⟨Or.inr (Or.inr (by omega)), fun z => absurd z (by omega)⟩ | exact fun x y => ⟨by have t := hnf y; omega, fun z => absurd z (by omega)⟩ | exact (fun _ x0 => fun y => ⟨by omega, fun _ z => by rw [(hFT43.cx 922 rfl _).1, show Xi T43 973 (q).toNat = Xi S 904 113 by omega]; exact (W209 (by omega)).2 (by omega) (by omega)⟩) W209 | exact fun x => absurd x (by omega)), ((KQ_FR w656 rfl (KQ_FR w625 rfl (KQ.tr (KQ.w (KQ.w KQ.rf eU35 (by omega)) eU36 (by omega)) (by assumption : KQ T37 U36 _)))))⟩
/-! SAFETY of the reference: tests and phrases of a sentence, meant -/
/-- entries of meant tests below m stay -/
def KQL (T S : sS) (m : Int) : Prop := ∀ i : Nat, (i : Int) < m → ∀ k : Nat, 969 ≤ k → k ≤ 975 → Xi T k i = Xi S k i
theorem KQL.rf {S : sS} {m : Int} : KQL S S m := fun _ _ _ _ _ => rfl
theorem KQL.tr {S T U : sS} {m m2 : Int} (h : KQL T S m) (g : KQL U T m2) (e : m ≤ m2) : KQL U S m := fun i hi k a b => (g i (by omega) k a b).trans (h i hi k a b)
theorem KQL.q {S T U : sS} {m q : Int} (h : KQL T S m) (g : KQ U T q) (e : m ≤ q) : KQL U S m := fun i hi k a b => (g i (by omega) k a b).trans (h i hi k a b)
theorem KQL_FR {l : List rec} {T U S : sS} {m : Int} (f : FR l T U) (e : kdis l [(969, 976)] = true) (h : KQL T S m) : KQL U S m := fun i hi k a b => (kdis_q f e k a b i).trans (h i hi k a b)
theorem tq_k {S T : sS} {b c : Prop} {q : Nat} (h : TQ S b c q) (hk : ∀ k : Nat, 969 ≤ k → k ≤ 975 → Xi T k q = Xi S k q) (e1 : Xi T 904 19 = Xi S 904 19) (e2 : Xi T 904 23 = Xi S 904 23) (e3 : Xi T 904 32 = Xi S 904 32) : TQ T b c q := by
  unfold TQ ADM thK at *
  rw [e1, e2, e3, hk 969 (by omega) (by omega), hk 971 (by omega) (by omega), hk 972 (by omega) (by omega), hk 973 (by omega) (by omega), hk 974 (by omega) (by omega), hk 975 (by omega) (by omega)]
  exact h
/-- the tests from f on, so many of them, are meant -/
def TQA (S : sS) (b c : Prop) (f v : Int) : Prop := ∀ j : Int, 0 ≤ j → j < v → TQ S b c (f + j).toNat
theorem TQA.mv {S T : sS} {b c : Prop} {f v : Int} (h : TQA S b c f v) (hk : ∀ j : Int, 0 ≤ j → j < v → ∀ k : Nat, 969 ≤ k → k ≤ 975 → Xi T k (f + j).toNat = Xi S k (f + j).toNat) (e1 : Xi T 904 19 = Xi S 904 19) (e2 : Xi T 904 23 = Xi S 904 23) (e3 : Xi T 904 32 = Xi S 904 32) : TQA T b c f v := fun j a d => tq_k (h j a d) (hk j a d) e1 e2 e3
theorem TQA.add {S : sS} {b c : Prop} {f v : Int} (h : TQA S b c f v) (g : TQ S b c (f + v).toNat) : TQA S b c f (v + 1) := fun j a d => by
  rcases (by omega : j < v ∨ j = v) with q | q
  · exact h j a q
  · rw [q]; exact g
theorem TQA.b {S : sS} {b c b2 c2 : Prop} {f v : Int} (h : TQA S b c f v) (hb : b → b2) (hc : c → c2) : TQA S b2 c2 f v := fun j a d => (h j a d).mono hb hc
def PQt (S : sS) (c : Prop) (w : Int) (q : Nat) : Prop := (w = 0 → 0 ≤ Xi S 973 q ∧ 0 ≤ Xi S 974 q ∧ Xi S 973 q + Xi S 974 q ≤ 5000) ∧ (w = 1 → NQ S c q) ∧ (w = 2 → thK S False c (Xi S 971 q) ∧ thK S False c (Xi S 975 q)) ∧ (w = 3 ∨ w = 4 → thK S False c (Xi S 971 q) ∧ 0 ≤ Xi S 972 q ∧ Xi S 972 q < Xi S 904 32 ∧ Xi S 928 (Xi S 972 q).toNat ≠ 1) ∧
  (w = 5 → (0 ≤ Xi S 972 q ∧ Xi S 972 q < Xi S 904 49) ∧ (Xi S 970 q = 0 → thK S False c (Xi S 971 q)) ∧ (Xi S 970 q ≠ 0 → Xi S 942 (Xi S 972 q).toNat < 0))
theorem pq_i {S : sS} {c : Prop} {i q : Nat} {w : Int} (h : PQt S c w q) (e1 : Xi S 976 i = w) (e2 : Xi S 977 i = q) (h4 : q < 2400) : PQ S c i := by
  unfold PQ
  rw [e1, e2]
  exact ⟨by omega, h⟩
theorem pqt_0 {S : sS} {c : Prop} {q : Nat} (h : 0 ≤ Xi S 973 q ∧ 0 ≤ Xi S 974 q ∧ Xi S 973 q + Xi S 974 q ≤ 5000) : PQt S c 0 q := ⟨fun _ => h, fun e => absurd e (by decide), fun e => absurd e (by decide), fun e => absurd e (by decide), fun e => absurd e (by decide)⟩
theorem pqt_1 {S : sS} {c : Prop} {q : Nat} (h : NQ S c q) : PQt S c 1 q := ⟨fun e => absurd e (by decide), fun _ => h, fun e => absurd e (by decide), fun e => absurd e (by decide), fun e => absurd e (by decide)⟩
theorem pqt_2 {S : sS} {c : Prop} {q : Nat} (h : thK S False c (Xi S 971 q)) (h2 : thK S False c (Xi S 975 q)) : PQt S c 2 q := ⟨fun e => absurd e (by decide), fun e => absurd e (by decide), fun _ => ⟨h, h2⟩, fun e => absurd e (by decide), fun e => absurd e (by decide)⟩
theorem pqt_3 {S : sS} {c : Prop} {q : Nat} {w : Int} (hw : w = 3 ∨ w = 4) (h : thK S False c (Xi S 971 q)) (h2 : 0 ≤ Xi S 972 q ∧ Xi S 972 q < Xi S 904 32) (h3 : Xi S 928 (Xi S 972 q).toNat ≠ 1) : PQt S c w q := ⟨fun e => by omega, fun e => by omega, fun e => by omega, fun _ => ⟨h, h2.1, h2.2, h3⟩, fun e => by omega⟩
theorem pqt_5 {S : sS} {c : Prop} {q : Nat} (h : 0 ≤ Xi S 972 q ∧ Xi S 972 q < Xi S 904 49) (h2 : Xi S 970 q = 0 → thK S False c (Xi S 971 q)) (h3 : Xi S 970 q ≠ 0 → Xi S 942 (Xi S 972 q).toNat < 0) : PQt S c 5 q := ⟨fun e => absurd e (by decide), fun e => absurd e (by decide), fun e => absurd e (by decide), fun e => absurd e (by decide), fun _ => ⟨h, h2, h3⟩⟩
theorem pqt_6 {S : sS} {c : Prop} {q : Nat} : PQt S c 6 q := ⟨fun e => absurd e (by decide), fun e => absurd e (by decide), fun e => absurd e (by decide), fun e => absurd e (by decide), fun e => absurd e (by decide)⟩
/-- other phrases than p stay -/
def KH (T S : sS) (p : Int) : Prop := ∀ i : Nat, (i : Int) ≠ p → Xi T 976 i = Xi S 976 i ∧ Xi T 977 i = Xi S 977 i
theorem KH.w2 {S U1 U2 : sS} {p : Int} {j : Nat} {v w : Int32} (e1 : U1 = uI S 976 j v) (e2 : U2 = uI U1 977 j w) (hj : (j : Int) = p) : KH U2 S p := fun i hi => by
  rw [e2, Xi_ne (by omega), Xi_ne (by omega), e1, Xi_ne (by omega), Xi_ne (by omega)]
  exact ⟨rfl, rfl⟩
theorem KH_FR {l : List rec} {T U S : sS} {p : Int} (f : FR l T U) (e : kdis l [(976, 978)] = true) (h : KH T S p) : KH U S p := fun i hi => by
  have q := f.smk e
  rw [q.x 976 rfl, q.x 977 rfl]
  exact h i hi
theorem TV_FR {l : List rec} {S T : sS} {n i : Nat} (h : FR l S T) (e : (kdis l [(907, 908), (952, 963)] && mD l [69]) = true) (hq : TV S n i) : TV T n i := (TVA_FR (m := (i : Int) + 1) h e (S := S) (T := T) (n := n) |> fun f => by
  rw [Bool.and_eq_true] at e
  have k := h.smk e.1
  refine hq.mv (fun k2 a b => ?_) (by rw [mD_x h e.2 69 (by decide)]; exact Int.le_refl _) (fun j => k.x 907 rfl j)
  rcases (by omega : k2 = 952 ∨ k2 = 953 ∨ k2 = 954 ∨ k2 = 955 ∨ k2 = 956 ∨ k2 = 957 ∨ k2 = 958 ∨ k2 = 959 ∨ k2 = 960 ∨ k2 = 961 ∨ k2 = 962) with h | h | h | h | h | h | h | h | h | h | h <;> subst h <;> exact k.x _ rfl i)
def md_mo_testsMeant : List rec := [(904, 905, 64, 65), (904, 905, 104, 105), (904, 905, 105, 106), (904, 905, 106, 107), (904, 905, 113, 114), (969, 970, 0, 100000), (970, 971, 0, 100000), (971, 972, 0, 100000), (972, 973, 0, 100000), (973, 974, 0, 100000), (974, 975, 0, 100000), (975, 976, 0, 100000)]
abbrev Q_mo_testsMeant (S : sS) (n : Nat) : pst := fun r S1 => HI S1 ∧ FR md_mo_testsMeant S S1 ∧ (r = none ∧ (Xi S 904 106 ≠ 0 → Xi S1 904 106 ≠ 0) ∧ (Xi S1 904 106 = 0 → Xi S 904 94 ≤ 6 ∧ TQA S1 (0 ≤ Xi S 904 115) (0 ≤ Xi S 904 116) (Xi S 904 117) (Xi S 904 94)) ∧ (KQL S1 S (Xi S 904 117)))
set_option maxRecDepth 100000 in
theorem t_mo_testsMeant {S : sS} (hH : HI S) (n : Nat) (hT : TK S n) (hv : RNV S n) (hM : LXM S) (hB : ABV S) (hC : DCM S) (hK : TXK S n) (htv : TVA S n (Xi S 904 94)) (h94 : Xi S 904 94 ≤ 1668) (d : Nat) : Mt lay0 (d + 8) m_mo_testsMeant [.ref 904] S (Q_mo_testsMeant S n) := by
  refine Mt_R rfl rfl ?_
  have hF : FR md_mo_testsMeant S S := FR.rf
  have w1 : 0 ≤ Xi S 904 106 ∧ Xi S 904 106 ≤ 9 := hH.c _ _
  have w2 : -1 ≤ Xi S 904 115 ∧ Xi S 904 115 ≤ 15 := hH.c _ _
  have w3 : -1 ≤ Xi S 904 116 ∧ Xi S 904 116 ≤ 15 := hH.c _ _
  have w4 : 0 ≤ Xi S 904 117 ∧ Xi S 904 117 ≤ 480 := hH.c _ _
  have w5 : 0 ≤ Xi S 904 94 ∧ Xi S 904 94 ≤ 1700 := hH.c _ _
  have hn5 := hT.1
  have hc94 : 0 ≤ Xi S 904 94 := (hH.c 904 94).1
  have hc117 : 0 ≤ Xi S 904 117 ∧ Xi S 904 117 ≤ 480 := hH.c _ _
  have hfi : ∀ j : Int, 0 ≤ j → j < Xi S 904 94 → Xi S 961 j.toNat ≤ n := fun j a b => by have t := (htv j.toNat (by omega)).1; omega
  have C2 : ∀ (n2 : Nat) (T1 : sS) (_ : HI T1) (_ : FR md_mo_testsMeant S T1) (v1 : Int), (0 ≤ v1 ∧ v1 ≤ 1700) → (Xi T1 904 94 = Xi S 904 94) → (Xi T1 904 117 = Xi S 904 117) → (v1 ≤ Xi S 904 94) → (Xi S 904 106 ≠ 0 → Xi T1 904 106 ≠ 0) → (Xi T1 904 106 = 0 → v1 ≤ 6 ∧ TQA T1 (0 ≤ Xi S 904 115) (0 ≤ Xi S 904 116) (Xi S 904 117) v1) → (KQL T1 S (Xi S 904 117)) → n2 = (1701 - v1).toNat → Rl lay0 (d + 7) m_mo_testsMeant 2 [(0, .ref 904), (1, iv v1)] [] T1 (Q_mo_testsMeant S n) := by
    intro n2
    induction n2 using Nat.strongRecOn with
    | ind n2 ih2 =>
      intro T1 hHT1 hFT1 v1 w6 w7 w8 w9 w10 E2 K2 hm2
      have w11 : Xi T1 904 115 = Xi S 904 115 := hFT1.x _ _ rfl
      have w12 : Xi T1 904 116 = Xi S 904 116 := hFT1.x _ _ rfl
      have w13 : Xi T1 904 117 = Xi S 904 117 := hFT1.x _ _ rfl
      have w14 : Xi T1 904 94 = Xi S 904 94 := hFT1.x _ _ rfl
      have w15 : 0 ≤ Xi T1 904 106 ∧ Xi T1 904 106 ≤ 9 := hHT1.c _ _
      have w16 : 0 ≤ Xi T1 904 117 ∧ Xi T1 904 117 ≤ 480 := hHT1.c _ _
      have w17 : 0 ≤ Xi T1 904 94 ∧ Xi T1 904 94 ≤ 1700 := hHT1.c _ _
      refine l_iload_n rfl rfl ?_
      refine l_aload_n rfl rfl ?_
      refine l_gfi rfl rfl rfl rfl rfl ?_
      refine l_icmp_ge rfl rfl (by unfold rg; omega) (by unfold rg; omega) (fun w18 => ?_) (fun w19 => ?_)
      · refine l_return rfl rfl ?_
        exact ⟨hHT1, hFT1, rfl, (by omega), (fun x => by rw [show Xi S 904 94 = v1 by omega]; exact E2 x), (K2)⟩
      · refine l_aload_n rfl rfl ?_
        refine l_iload_n rfl rfl ?_
        refine l_bipush rfl rfl ?_
        refine l_icmp_ge rfl rfl (by unfold rg; omega) (by unfold rg; omega) (fun w23 => ?_) (fun w24 => ?_)
        · refine l_iconst rfl ?_
          refine l_bipush rfl rfl ?_
          refine l_aload_n rfl rfl ?_
          refine l_gfr rfl rfl rfl rfl rfl (hHT1.r 904 91 961 rfl) ?_
          refine l_iload_n rfl rfl ?_
          refine l_iaload (n := 1700) rfl rfl (by omega) (by omega) (by unfold rg; omega) ?_
          have w25 : 0 ≤ (Xi T1 961 ((v1).toNat)) ∧ (Xi T1 961 ((v1).toNat)) ≤ 5010 := hHT1.c _ _
          have e29 : (Xi T1 961 ((v1).toNat)) = Xi S 961 (v1).toNat := by first | rfl | exact (hFT1.cx 961 rfl _).1
          have f29 := hfi v1 (by omega) (by omega)
          refine l_callV rfl rfl rfl (t_mo_need hHT1 0 9 (Xi T1 961 ((v1).toNat)) ⟨by omega, by omega⟩ ⟨by omega, by omega⟩ ⟨by omega, by omega⟩ _) ?_
          rintro _ T2 ⟨hHT2, w32, rfl, w29, w30⟩
          have hFT2 : FR md_mo_testsMeant S T2 := FR.tr hFT1 w32 rfl
          show Rl _ _ _ _ _ [] _ _
          have k30 : KQL T2 S (Xi S 904 117) := KQL_FR (by assumption : FR md_mo_need T1 T2) rfl K2
          have T30 : Xi T2 904 106 = 0 → TQA T2 (0 ≤ Xi S 904 115) (0 ≤ Xi S 904 116) (Xi S 904 117) v1 := fun x => (E2 (by omega)).2.mv (fun j _ _ k a b => kdis_q (by assumption : FR md_mo_need T1 T2) rfl k a b _) ((by assumption : FR md_mo_need T1 T2).x 904 19 rfl) ((by assumption : FR md_mo_need T1 T2).x 904 23 rfl) ((by assumption : FR md_mo_need T1 T2).x 904 32 rfl)
          refine l_aload_n rfl rfl ?_
          refine l_iload_n rfl rfl ?_
          refine l_aload_n rfl rfl ?_
          refine l_gfi rfl rfl rfl rfl rfl ?_
          have w33 : (Xi T2 904 117) = (Xi T1 904 117) := (show Xi T2 904 117 = Xi T1 904 117 from w32.x _ _ rfl)
          rw [w33]
          refine l_iload_n rfl rfl ?_
          refine l_iadd rfl ?_
          refine l_iconst rfl ?_
          have w34 : 0 ≤ Xi T2 904 106 ∧ Xi T2 904 106 ≤ 9 := hHT2.c _ _
          have w35 : Xi T2 904 115 = Xi T1 904 115 := (show Xi T2 904 115 = Xi T1 904 115 from w32.x _ _ rfl)
          have w36 : -1 ≤ Xi T1 904 115 ∧ Xi T1 904 115 ≤ 15 := hHT1.c _ _
          have w37 : Xi T2 904 116 = Xi T1 904 116 := (show Xi T2 904 116 = Xi T1 904 116 from w32.x _ _ rfl)
          have w38 : -1 ≤ Xi T1 904 116 ∧ Xi T1 904 116 ≤ 15 := hHT1.c _ _
          have w39 : Xi T2 904 117 = Xi T1 904 117 := (show Xi T2 904 117 = Xi T1 904 117 from w32.x _ _ rfl)
          refine l_callV rfl rfl rfl (t_mo_testMeant hHT2 n v1 ((Xi T1 904 117) + v1) 0 ⟨by omega, by omega⟩ ⟨by omega, by omega⟩ ⟨by omega, by omega⟩ (by first | assumption | exact (TK_FR hFT2 rfl (by assumption : TK S _))) (by first | assumption | exact (RNV_FR hFT2 rfl (by assumption : RNV S _))) (by first | assumption | exact (LXM_FR hFT2 rfl (by assumption : LXM S))) (by first | assumption | exact (ABV_FR hFT2 rfl (by assumption : ABV S))) (by first | assumption | exact (DCM_FR hFT2 rfl (by assumption : DCM S))) (by first | assumption | exact (TXK_FR hFT2 rfl (by assumption : TXK S _))) ((TVA_FR hFT2 rfl htv) (v1).toNat (by omega)) (fun x => absurd x (by decide)) _) ?_
          rintro _ T3 ⟨hHT3, w46, rfl, w43, tq42, w44, kq42⟩
          have hFT3 : FR md_mo_testsMeant S T3 := FR.tr hFT2 w46 rfl
          show Rl _ _ _ _ _ [] _ _
          have k42 : KQL T3 S (Xi S 904 117) := KQL.q k30 kq42 (by omega)
          have T42 : Xi T3 904 106 = 0 → TQA T3 (0 ≤ Xi S 904 115) (0 ≤ Xi S 904 116) (Xi S 904 117) (v1 + 1) := fun x => (TQA.mv (T30 (by omega)) (fun j a1 b1 k a b => kq42 _ (by omega) k a b) ((by assumption : FR md_mo_testMeant T2 T3).x 904 19 rfl) ((by assumption : FR md_mo_testMeant T2 T3).x 904 23 rfl) ((by assumption : FR md_mo_testMeant T2 T3).x 904 32 rfl)).add (by have t := tq42 x; rw [hFT2.x 904 115 rfl, hFT2.x 904 116 rfl] at t; first | (rw [show (Xi S 904 117 + v1 : Int) = Xi T1 904 117 + v1 by omega]; exact t) | (rw [show (Xi S 904 117 + v1 : Int) = Xi T2 904 117 + v1 by omega]; exact t))
          refine l_iinc rfl rfl rfl rfl ?_
          refine l_goto rfl rfl ?_
          have w47 : 0 ≤ Xi T3 904 106 ∧ Xi T3 904 106 ≤ 9 := hHT3.c _ _
          have w48 : Xi T3 904 117 = Xi T1 904 117 := (show Xi T3 904 117 = Xi T2 904 117 from w46.x _ _ rfl).trans ((show Xi T2 904 117 = Xi T1 904 117 from w32.x _ _ rfl))
          have w50 : Xi T3 904 94 = Xi T1 904 94 := (show Xi T3 904 94 = Xi T2 904 94 from w46.x _ _ rfl).trans ((show Xi T2 904 94 = Xi T1 904 94 from w32.x _ _ rfl))
          exact Rl_weak (ih2 _ (by omega) T3 hHT3 hFT3 ((v1 + 1)) (by omega) (by omega) (by omega) (by omega) (by omega) (by first | exact fun x => ⟨by omega, T42 x⟩ | exact fun x => ⟨by omega, fun j a b => absurd b (by omega)⟩) (by first | exact k42 | exact KQL.rf) rfl) (And.intro rfl (And.intro rfl (True.intro)))
        · refine l_iconst rfl ?_
          refine l_goto rfl rfl ?_
          refine l_bipush rfl rfl ?_
          refine l_aload_n rfl rfl ?_
          refine l_gfr rfl rfl rfl rfl rfl (hHT1.r 904 91 961 rfl) ?_
          refine l_iload_n rfl rfl ?_
          refine l_iaload (n := 1700) rfl rfl (by omega) (by omega) (by unfold rg; omega) ?_
          have w52 : 0 ≤ (Xi T1 961 ((v1).toNat)) ∧ (Xi T1 961 ((v1).toNat)) ≤ 5010 := hHT1.c _ _
          have e29 : (Xi T1 961 ((v1).toNat)) = Xi S 961 (v1).toNat := by first | rfl | exact (hFT1.cx 961 rfl _).1
          have f29 := hfi v1 (by omega) (by omega)
          refine l_callV rfl rfl rfl (t_mo_need hHT1 1 9 (Xi T1 961 ((v1).toNat)) ⟨by omega, by omega⟩ ⟨by omega, by omega⟩ ⟨by omega, by omega⟩ _) ?_
          rintro _ T4 ⟨hHT4, w59, rfl, w56, w57⟩
          have hFT4 : FR md_mo_testsMeant S T4 := FR.tr hFT1 w59 rfl
          show Rl _ _ _ _ _ [] _ _
          have k30 : KQL T4 S (Xi S 904 117) := KQL_FR (by assumption : FR md_mo_need T1 T4) rfl K2
          have T30 : Xi T4 904 106 = 0 → TQA T4 (0 ≤ Xi S 904 115) (0 ≤ Xi S 904 116) (Xi S 904 117) v1 := fun x => (E2 (by omega)).2.mv (fun j _ _ k a b => kdis_q (by assumption : FR md_mo_need T1 T4) rfl k a b _) ((by assumption : FR md_mo_need T1 T4).x 904 19 rfl) ((by assumption : FR md_mo_need T1 T4).x 904 23 rfl) ((by assumption : FR md_mo_need T1 T4).x 904 32 rfl)
          refine l_aload_n rfl rfl ?_
          refine l_iload_n rfl rfl ?_
          refine l_aload_n rfl rfl ?_
          refine l_gfi rfl rfl rfl rfl rfl ?_
          have w60 : (Xi T4 904 117) = (Xi T1 904 117) := (show Xi T4 904 117 = Xi T1 904 117 from w59.x _ _ rfl)
          rw [w60]
          refine l_iload_n rfl rfl ?_
          refine l_iadd rfl ?_
          refine l_iconst rfl ?_
          have w61 : 0 ≤ Xi T4 904 106 ∧ Xi T4 904 106 ≤ 9 := hHT4.c _ _
          have w62 : Xi T4 904 115 = Xi T1 904 115 := (show Xi T4 904 115 = Xi T1 904 115 from w59.x _ _ rfl)
          have w63 : -1 ≤ Xi T1 904 115 ∧ Xi T1 904 115 ≤ 15 := hHT1.c _ _
          have w64 : Xi T4 904 116 = Xi T1 904 116 := (show Xi T4 904 116 = Xi T1 904 116 from w59.x _ _ rfl)
          have w65 : -1 ≤ Xi T1 904 116 ∧ Xi T1 904 116 ≤ 15 := hHT1.c _ _
          have w66 : Xi T4 904 117 = Xi T1 904 117 := (show Xi T4 904 117 = Xi T1 904 117 from w59.x _ _ rfl)
          refine l_callV rfl rfl rfl (t_mo_testMeant hHT4 n v1 ((Xi T1 904 117) + v1) 0 ⟨by omega, by omega⟩ ⟨by omega, by omega⟩ ⟨by omega, by omega⟩ (by first | assumption | exact (TK_FR hFT4 rfl (by assumption : TK S _))) (by first | assumption | exact (RNV_FR hFT4 rfl (by assumption : RNV S _))) (by first | assumption | exact (LXM_FR hFT4 rfl (by assumption : LXM S))) (by first | assumption | exact (ABV_FR hFT4 rfl (by assumption : ABV S))) (by first | assumption | exact (DCM_FR hFT4 rfl (by assumption : DCM S))) (by first | assumption | exact (TXK_FR hFT4 rfl (by assumption : TXK S _))) ((TVA_FR hFT4 rfl htv) (v1).toNat (by omega)) (fun x => absurd x (by decide)) _) ?_
          rintro _ T5 ⟨hHT5, w73, rfl, w70, tq42, w71, kq42⟩
          have hFT5 : FR md_mo_testsMeant S T5 := FR.tr hFT4 w73 rfl
          show Rl _ _ _ _ _ [] _ _
          have k42 : KQL T5 S (Xi S 904 117) := KQL.q k30 kq42 (by omega)
          have T42 : Xi T5 904 106 = 0 → TQA T5 (0 ≤ Xi S 904 115) (0 ≤ Xi S 904 116) (Xi S 904 117) (v1 + 1) := fun x => (TQA.mv (T30 (by omega)) (fun j a1 b1 k a b => kq42 _ (by omega) k a b) ((by assumption : FR md_mo_testMeant T4 T5).x 904 19 rfl) ((by assumption : FR md_mo_testMeant T4 T5).x 904 23 rfl) ((by assumption : FR md_mo_testMeant T4 T5).x 904 32 rfl)).add (by have t := tq42 x; rw [hFT4.x 904 115 rfl, hFT4.x 904 116 rfl] at t; first | (rw [show (Xi S 904 117 + v1 : Int) = Xi T1 904 117 + v1 by omega]; exact t) | (rw [show (Xi S 904 117 + v1 : Int) = Xi T4 904 117 + v1 by omega]; exact t))
          refine l_iinc rfl rfl rfl rfl ?_
          refine l_goto rfl rfl ?_
          have w74 : 0 ≤ Xi T5 904 106 ∧ Xi T5 904 106 ≤ 9 := hHT5.c _ _
          have w75 : Xi T5 904 117 = Xi T1 904 117 := (show Xi T5 904 117 = Xi T4 904 117 from w73.x _ _ rfl).trans ((show Xi T4 904 117 = Xi T1 904 117 from w59.x _ _ rfl))
          have w77 : Xi T5 904 94 = Xi T1 904 94 := (show Xi T5 904 94 = Xi T4 904 94 from w73.x _ _ rfl).trans ((show Xi T4 904 94 = Xi T1 904 94 from w59.x _ _ rfl))
          exact Rl_weak (ih2 _ (by omega) T5 hHT5 hFT5 ((v1 + 1)) (by omega) (by omega) (by omega) (by omega) (by omega) (by first | exact fun x => ⟨by omega, T42 x⟩ | exact fun x => ⟨by omega, fun j a b => absurd b (by omega)⟩) (by first | exact k42 | exact KQL.rf) rfl) (And.intro rfl (And.intro rfl (True.intro)))
  refine l_iconst rfl ?_
  refine l_istore_n rfl rfl rfl ?_
  exact Rl_weak (C2 _ S hH hF (0) (by omega) (by omega) (by omega) (by omega) (by omega) (by first | exact fun x => ⟨by omega, T42 x⟩ | exact fun x => ⟨by omega, fun j a b => absurd b (by omega)⟩) (by first | exact k42 | exact KQL.rf) rfl) (And.intro rfl (And.intro rfl (True.intro)))


