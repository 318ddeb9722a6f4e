section
/-! rules of the reference: a RULE -/
theorem PKB_F {l : List rec} {S P : sS} {i : Int} (h : FR l S P) (g : SMR S P) (e1 : kdis l [(907, 911)] = true) (e2 : kdis l [(950, 966)] = true) (e3 : kdis l [(950, 963)] = true) (t : PKB S i) : PKB P i := by
  have k := h.smk e2
  have m := h.smk e1
  have p : pTS P i = pTS S i := by unfold pTS; exact k.x 964 rfl _
  have x : xPS P i = xPS S i := by unfold xPS; rw [p]; exact k.x 957 rfl _
  obtain ⟨t0, t1, t2, t3, t4, t5, t6, t7⟩ := t
  unfold PKB
  rw [p, x, k.x 963 rfl, k.x 964 rfl, m.x 908 rfl, m.x 909 rfl, k.x 953 rfl, k.x 954 rfl, k.x 959 rfl, k.x 956 rfl, rnR_sm g, SMK_j m 910 rfl, k.x 950 rfl, k.x 951 rfl]
  exact ⟨t0, t1, t2, fun w => TRK_F h g e1 e3 (t3 w), t4, t5, t6, t7⟩
def RPH (lN lP : List rec) (S D : sS) (q0 p0 : Int) : Nat → sS → Prop
  | 0, T => T = D
  | n + 1, T => ∃ W A : sS, RPH lN lP S D q0 p0 n W ∧ FR lN W A ∧ NT3 A = (if (n : Int) < 8 then NT3 W else ntF (NT3 W) 9 (Xi S 908 (Xi S 965 n).toNat)) ∧ FR lP A T ∧ PMX A T n (q0 + n) (p0 + n)
/-- what a RULE leaves -/
def soQ (s : Int) : Int := if s = 3 then 0 else if s = 5 then 1 else if s = 4 then 2 else 3
def rlW (E : sS) (l q : Int) : sS := uI (uI (uI (uI (uI (uI (uI (uI E 978 l.toNat (Int32.ofInt (soQ (Xi E 904 70)))) 984 l.toNat (Int32.ofInt (Xi E 904 117))) 985 l.toNat (Int32.ofInt (Xi E 904 94))) 986 l.toNat (Int32.ofInt (Xi E 904 125))) 987 l.toNat (Int32.ofInt (Xi E 904 98))) 904 117 (Int32.ofInt (q + Xi E 904 98))) 904 125 (Int32.ofInt (Xi E 904 125 + Xi E 904 98))) 904 130 (Int32.ofInt (Xi E 904 130 + 1))
def RMM (S W : sS) (first : Int) (i : Nat) : Prop := ∃ A B C D : sS, FR md_mo_need__p S A ∧ NT3 A = (if Xi S 904 130 < 24 then NT3 S else ntF (NT3 S) 9 (Xi S 908 first.toNat)) ∧ AMX A B (if Xi S 904 130 < 23 then Xi S 904 130 else 23) ∧ FR md_mo_actingMeant__p A B ∧ C = uI B 904 115 (Int32.ofInt (-1)) ∧ TSR md_mo_need__p md_mo_testMeant__p C (Xi S 904 94).toNat D ∧ FR md_mo_testsMeant__p C D ∧ RPH md_mo_need__p md_mo_phraseMeant__p S D (Xi S 904 117 + Xi S 904 94) (Xi S 904 125) i W
def RML (S S1 : sS) (first : Int) : Prop := ∃ E : sS, RMM S E first (Xi S 904 98).toNat ∧ (Xi E 904 106 ≠ 0 → S1 = E) ∧ (Xi E 904 106 = 0 → S1 = rlW E (if Xi S 904 130 < 23 then Xi S 904 130 else 23) (Xi S 904 117 + Xi S 904 94))
theorem rmm_s {S W A T : sS} {first i q p : Int} (h : RMM S W first i.toNat) (h0 : 0 ≤ i) (f : FR md_mo_need__p W A) (n : NT3 A = (if i < 8 then NT3 W else ntF (NT3 W) 9 (Xi S 908 (Xi S 965 i.toNat).toNat))) (g : FR md_mo_phraseMeant__p A T) (x : PMX A T i q p) (hq : q = Xi S 904 117 + Xi S 904 94 + i) (hp : p = Xi S 904 125 + i) : RMM S T first (i + 1).toNat := by
  obtain ⟨A1, B, C, D, a1, a2, a3, a4, a5, a6, a7, a8⟩ := h
  have e : ((i.toNat : Nat) : Int) = i := by omega
  rw [show (i + 1).toNat = i.toNat + 1 by omega]
  exact ⟨A1, B, C, D, a1, a2, a3, a4, a5, a6, a7, W, A, a8, f, by rw [e]; exact n, g, by rw [e, ← hq, ← hp]; exact x⟩
theorem rlW_of {E A1 A2 A3 A4 A5 A6 A7 S1 : sS} {l q v1 v2 v3 v4 v5 v6 v7 v8 : Int} (e1 : A1 = uI E 978 l.toNat (Int32.ofInt v1)) (e2 : A2 = uI A1 984 l.toNat (Int32.ofInt v2)) (e3 : A3 = uI A2 985 l.toNat (Int32.ofInt v3)) (e4 : A4 = uI A3 986 l.toNat (Int32.ofInt v4)) (e5 : A5 = uI A4 987 l.toNat (Int32.ofInt v5)) (e6 : A6 = uI A5 904 117 (Int32.ofInt v6)) (e7 : A7 = uI A6 904 125 (Int32.ofInt v7)) (e8 : S1 = uI A7 904 130 (Int32.ofInt v8))
    (h1 : v1 = soQ (Xi E 904 70)) (h2 : v2 = Xi E 904 117) (h3 : v3 = Xi E 904 94) (h4 : v4 = Xi E 904 125) (h5 : v5 = Xi E 904 98) (h6 : v6 = q + Xi E 904 98) (h7 : v7 = Xi E 904 125 + Xi E 904 98) (h8 : v8 = Xi E 904 130 + 1) : S1 = rlW E l q := by
  subst h1 h2 h3 h4 h5 h6 h7 h8 e1 e2 e3 e4 e5 e6 e7
  exact e8
theorem soQ_v {s v : Int} (h : (s = 3 ∧ v = 0) ∨ (s = 5 ∧ v = 1) ∨ (s = 4 ∧ v = 2) ∨ (s ≠ 3 ∧ s ≠ 4 ∧ s ≠ 5 ∧ v = 3)) : v = soQ s := by
  unfold soQ
  rcases h with ⟨a, b⟩ | ⟨a, b⟩ | ⟨a, b⟩ | ⟨a, b, c, d⟩
  · rw [if_pos a, b]
  · rw [if_neg (by omega), if_pos a, b]
  · rw [if_neg (by omega), if_neg (by omega), if_pos a, b]
  · rw [if_neg a, if_neg c, if_neg b, d]

def md_mo_ruleMeant__p : List rec := [(904, 905, 64, 65), (904, 905, 104, 105), (904, 905, 105, 106), (904, 905, 106, 107), (904, 905, 109, 110), (904, 905, 110, 111), (904, 905, 112, 113), (904, 905, 113, 114), (904, 905, 115, 116), (904, 905, 116, 117), (904, 905, 117, 118), (904, 905, 125, 126), (904, 905, 128, 129), (904, 905, 129, 130), (904, 905, 130, 131), (904, 905, 154, 155), (904, 905, 156, 157), (904, 905, 157, 158), (904, 905, 158, 159), (904, 905, 160, 161), (967, 968, 0, 100000), (968, 969, 0, 100000), (969, 970, 0, 100000), (970, 971, 0, 100000), (971, 972, 0, 100000), (972, 973, 0, 100000), (973, 974, 0, 100000), (974, 975, 0, 100000), (975, 976, 0, 100000), (976, 977, 0, 100000), (977, 978, 0, 100000), (978, 979, 0, 100000), (979, 980, 0, 100000), (980, 981, 0, 100000), (981, 982, 0, 100000), (982, 983, 0, 100000), (983, 984, 0, 100000), (984, 985, 0, 100000), (985, 986, 0, 100000), (986, 987, 0, 100000), (987, 988, 0, 100000), (993, 994, 0, 100000), (994, 995, 0, 100000), (1000, 1001, 0, 1)]
abbrev Q_mo_ruleMeant__p (S : sS) (first : Int) : pst := fun r S1 => RI S1 ∧ FR md_mo_ruleMeant__p S S1 ∧ (r = none ∧ (RML S S1 first))
set_option maxRecDepth 100000 in
theorem t_mo_ruleMeant__p {S : sS} (hH : RI S) (first : Int) (hfirst : 0 ≤ first ∧ first ≤ 5001) (hLS : LSP S) (h15 : 0 ≤ Xi S 904 15) (hRB : RBD S) (hB : ABV S) (hkx : Hid (∀ j : Nat, -1 ≤ Xi S 918 j ∧ Xi S 918 j ≤ 15)) (hLX : LXR S) (hp32 : 0 ≤ Xi S 904 32 ∧ Xi S 904 32 ≤ 12) (hkk : Hid (∀ k : Nat, (k : Int) < Xi S 904 15 → Xi S 914 k ≤ 1 → Xi S 915 k ≤ 15)) (hak : Hid (∀ j : Nat, -2 ≤ Xi S 942 j ∧ Xi S 942 j ≤ 15)) (hb6 : BYT S 906) (hlx7 : Hid (∀ j : Nat, (j : Int) < Xi S 904 15 → Xi S 914 j = 7 → 0 ≤ Xi S 915 j ∧ Xi S 915 j ≤ 11)) (hgb : Hid (AGB S)) (h94 : 0 ≤ Xi S 904 94 ∧ Xi S 904 94 ≤ 1700) (h98 : 0 ≤ Xi S 904 98 ∧ Xi S 904 98 ≤ 1700) (h117 : 0 ≤ Xi S 904 117 ∧ Xi S 904 117 + Xi S 904 94 + Xi S 904 98 ≤ 2400) (h125 : 0 ≤ Xi S 904 125 ∧ Xi S 904 125 + Xi S 904 98 ≤ 2000) (h130 : 0 ≤ Xi S 904 130 ∧ Xi S 904 130 ≤ 24) (htk : Hid (∀ k : Nat, (k : Int) < Xi S 904 94 → TRK S k)) (hpk : Hid (∀ k : Nat, (k : Int) < Xi S 904 98 → PKB S k)) (d : Nat) : Mp lay0 (d + 12) m_mo_ruleMeant [.ref 904, iv first] S (Q_mo_ruleMeant__p S first) := by
  refine Mp_R rfl rfl (fun fu => ?_)
  have hF : FR md_mo_ruleMeant__p S S := FR.rf
  have w1 : -2147483648 ≤ Xi S 904 102 ∧ Xi S 904 102 ≤ 2147483647 := Xi_rgI
  have w2 : -2147483648 ≤ Xi S 904 103 ∧ Xi S 904 103 ≤ 2147483647 := Xi_rgI
  have w3 : -2147483648 ≤ Xi S 904 106 ∧ Xi S 904 106 ≤ 2147483647 := Xi_rgI
  have w4 : -2147483648 ≤ Xi S 904 115 ∧ Xi S 904 115 ≤ 2147483647 := Xi_rgI
  have w5 : -2147483648 ≤ Xi S 904 116 ∧ Xi S 904 116 ≤ 2147483647 := Xi_rgI
  have w6 : -2147483648 ≤ Xi S 904 117 ∧ Xi S 904 117 ≤ 2147483647 := Xi_rgI
  have w7 : -2147483648 ≤ Xi S 904 125 ∧ Xi S 904 125 ≤ 2147483647 := Xi_rgI
  have w8 : -2147483648 ≤ Xi S 904 130 ∧ Xi S 904 130 ≤ 2147483647 := Xi_rgI
  have w9 : -2147483648 ≤ Xi S 904 15 ∧ Xi S 904 15 ≤ 2147483647 := Xi_rgI
  have w10 : -2147483648 ≤ Xi S 904 32 ∧ Xi S 904 32 ≤ 2147483647 := Xi_rgI
  have w11 : -2147483648 ≤ Xi S 904 70 ∧ Xi S 904 70 ≤ 2147483647 := Xi_rgI
  have w12 : -2147483648 ≤ Xi S 904 94 ∧ Xi S 904 94 ≤ 2147483647 := Xi_rgI
  have w13 : -2147483648 ≤ Xi S 904 98 ∧ Xi S 904 98 ≤ 2147483647 := Xi_rgI
  have C58 : ∀ (n58 : Nat) (_ : n58 ≤ fu) (T1 : sS) (_ : RI T1) (_ : FR md_mo_ruleMeant__p S T1) (v2 : Int) (v3 : Int) (v4 : Int), (0 ≤ v2 ∧ v2 ≤ 23) → (0 ≤ v3 ∧ v3 ≤ 2400) → (0 ≤ v4 ∧ v4 ≤ 1700) → (v2 = (if Xi S 904 130 < 23 then Xi S 904 130 else 23)) → (v3 = Xi S 904 117 + Xi S 904 94) → (0 ≤ v2 ∧ v2 ≤ 23) → (0 ≤ v4 ∧ v4 ≤ Xi S 904 98) → (Xi T1 904 115 = -1) → (-1 ≤ Xi T1 904 116 ∧ Xi T1 904 116 ≤ 15) → (Xi T1 904 117 = Xi S 904 117) → (Xi T1 904 125 = Xi S 904 125) → (Xi T1 904 130 = Xi S 904 130) → (Xi T1 904 98 = Xi S 904 98) → (Xi T1 904 94 = Xi S 904 94) → (Hid (RMM S T1 first (v4).toNat)) → Pl n58 lay0 (d + 11) m_mo_ruleMeant 58 [(0, .ref 904), (2, iv v2), (3, iv v3), (4, iv v4)] [] T1 (Q_mo_ruleMeant__p S first) := by
    intro n58
    induction n58 with
    | zero => intros; exact Pl_0
    | succ n58 ih58 =>
      intro hm58 T1 hHT1 hFT1 v2 v3 v4 w14 w15 w16 l58 q58 w17 w18 w19 w20 w21 w22 w23 w24 w25 R58
      have w26 : Xi T1 904 102 = Xi S 904 102 := hFT1.x _ _ rfl
      have w27 : Xi T1 904 103 = Xi S 904 103 := hFT1.x _ _ rfl
      have w28 : Xi T1 904 15 = Xi S 904 15 := hFT1.x _ _ rfl
      have w29 : Xi T1 904 32 = Xi S 904 32 := hFT1.x _ _ rfl
      have w30 : Xi T1 904 49 = Xi S 904 49 := hFT1.x _ _ rfl
      have w31 : Xi T1 904 69 = Xi S 904 69 := hFT1.x _ _ rfl
      have w32 : Xi T1 904 70 = Xi S 904 70 := hFT1.x _ _ rfl
      have w33 : Xi T1 904 94 = Xi S 904 94 := hFT1.x _ _ rfl
      have w34 : Xi T1 904 98 = Xi S 904 98 := hFT1.x _ _ rfl
      have w35 : -2147483648 ≤ Xi T1 904 102 ∧ Xi T1 904 102 ≤ 2147483647 := Xi_rgI
      have w36 : -2147483648 ≤ Xi T1 904 103 ∧ Xi T1 904 103 ≤ 2147483647 := Xi_rgI
      have w37 : -2147483648 ≤ Xi T1 904 106 ∧ Xi T1 904 106 ≤ 2147483647 := Xi_rgI
      have w38 : -2147483648 ≤ Xi T1 904 115 ∧ Xi T1 904 115 ≤ 2147483647 := Xi_rgI
      have w39 : -2147483648 ≤ Xi T1 904 116 ∧ Xi T1 904 116 ≤ 2147483647 := Xi_rgI
      have w40 : -2147483648 ≤ Xi T1 904 117 ∧ Xi T1 904 117 ≤ 2147483647 := Xi_rgI
      have w41 : -2147483648 ≤ Xi T1 904 125 ∧ Xi T1 904 125 ≤ 2147483647 := Xi_rgI
      have w42 : -2147483648 ≤ Xi T1 904 130 ∧ Xi T1 904 130 ≤ 2147483647 := Xi_rgI
      have w43 : -2147483648 ≤ Xi T1 904 15 ∧ Xi T1 904 15 ≤ 2147483647 := Xi_rgI
      have w44 : -2147483648 ≤ Xi T1 904 32 ∧ Xi T1 904 32 ≤ 2147483647 := Xi_rgI
      have w45 : -2147483648 ≤ Xi T1 904 70 ∧ Xi T1 904 70 ≤ 2147483647 := Xi_rgI
      have w46 : -2147483648 ≤ Xi T1 904 94 ∧ Xi T1 904 94 ≤ 2147483647 := Xi_rgI
      have w47 : -2147483648 ≤ Xi T1 904 98 ∧ Xi T1 904 98 ≤ 2147483647 := Xi_rgI
      refine ys_iload rfl rfl ?_
      refine y_aload_n rfl rfl ?_
      refine y_gfi rfl rfl rfl rfl rfl ?_
      refine y_icmp_ge rfl rfl (by unfold rg; omega) (by unfold rg; omega) (fun w48 => ?_) (fun w49 => ?_)
      · refine y_aload_n rfl rfl ?_
        refine y_gfi rfl rfl rfl rfl rfl ?_
        refine y_if_ne rfl rfl (by unfold rg; omega) (fun w50 => ?_) (fun w51 => ?_)
        · refine y_return rfl rfl ?_
          exact ⟨hHT1, hFT1, rfl, (by first | (have u := e235; exact ⟨_, by have t := R58.o; rw [show v4 = Xi S 904 98 by omega] at t; exact t, fun w => absurd (by omega) w, fun _ => by rw [← l58, ← q58]; exact rlW_of e164 e174 e184 e194 e204 e212 e225 e235 s164 v171 v181 v191 v201 v212 v225 v235⟩) | exact ⟨_, by have t := R58.o; rw [show v4 = Xi S 904 98 by omega] at t; exact t, fun _ => rfl, fun w => absurd w (by omega)⟩)⟩
        · refine y_aload_n rfl rfl ?_
          refine y_gfr rfl rfl rfl rfl rfl (hHT1.r 904 131 978 rfl) ?_
          refine y_iload_n rfl rfl ?_
          refine y_aload_n rfl rfl ?_
          refine y_gfi rfl rfl rfl rfl rfl ?_
          refine y_iconst rfl ?_
          refine y_icmp_ne rfl rfl (by unfold rg; omega) (by unfold rg; omega) (fun w52 => ?_) (fun w53 => ?_)
          · refine y_aload_n rfl rfl ?_
            refine y_gfi rfl rfl rfl rfl rfl ?_
            refine y_iconst rfl ?_
            refine y_icmp_ne rfl rfl (by unfold rg; omega) (by unfold rg; omega) (fun w54 => ?_) (fun w55 => ?_)
            · refine y_aload_n rfl rfl ?_
              refine y_gfi rfl rfl rfl rfl rfl ?_
              refine y_iconst rfl ?_
              refine y_icmp_ne rfl rfl (by unfold rg; omega) (by unfold rg; omega) (fun w56 => ?_) (fun w57 => ?_)
              · refine y_iconst rfl ?_
                have s164 : (3 : Int) = soQ (Xi T1 904 70) := soQ_v (by omega)
                refine y_iastoreP (n := 24) rfl rfl (by unfold rg; omega) (fun w58 w59 => ?_)
                obtain ⟨U2, eU2⟩ : ∃ T : sS, T = uI T1 978 ((v2).toNat) (Int32.ofInt 3) := ⟨_, rfl⟩
                rw [← eU2]
                have hHU2 : RI U2 := by rw [eU2]; exact RI_w hHT1
                have hFU2 : FR md_mo_ruleMeant__p S U2 := by rw [eU2]; exact FR.wI hFT1 (mdf_i (r := (978, 979, 0, 100000)) (List.mem_of_getElem? (i := 31) rfl) (inR_i (by omega) (by omega) (by omega) (by omega)))
                have w60 : Xi U2 978 ((v2).toNat) = 3 := by rw [eU2]; exact Xi_same (by unfold rg; omega)
                have e164 := eU2
                refine y_aload_n rfl rfl ?_
                refine y_gfr rfl rfl rfl rfl rfl (hHU2.r 904 137 984 rfl) ?_
                refine y_iload_n rfl rfl ?_
                refine y_aload_n rfl rfl ?_
                refine y_gfi rfl rfl rfl rfl rfl ?_
                have w61 : (Xi U2 904 117) = (Xi T1 904 117) := (show Xi U2 904 117 = Xi T1 904 117 from by rw [eU2]; exact Xi_ne (by omega))
                rw [w61]
                have v171 : (Xi T1 904 117) = Xi T1 904 117 := by first | rfl | (rw [e164, Xi_ne (by omega)])
                refine y_iastoreP (n := 24) rfl rfl (by unfold rg; omega) (fun w62 w63 => ?_)
                obtain ⟨U3, eU3⟩ : ∃ T : sS, T = uI U2 984 ((v2).toNat) (Int32.ofInt (Xi T1 904 117)) := ⟨_, rfl⟩
                rw [← eU3]
                have hHU3 : RI U3 := by rw [eU3]; exact RI_w hHU2
                have hFU3 : FR md_mo_ruleMeant__p S U3 := by rw [eU3]; exact FR.wI hFU2 (mdf_i (r := (984, 985, 0, 100000)) (List.mem_of_getElem? (i := 37) rfl) (inR_i (by omega) (by omega) (by omega) (by omega)))
                have w64 : Xi U3 984 ((v2).toNat) = (Xi T1 904 117) := by rw [eU3]; exact Xi_same (by unfold rg; omega)
                have e174 := eU3
                refine y_aload_n rfl rfl ?_
                refine y_gfr rfl rfl rfl rfl rfl (hHU3.r 904 138 985 rfl) ?_
                refine y_iload_n rfl rfl ?_
                refine y_aload_n rfl rfl ?_
                refine y_gfi rfl rfl rfl rfl rfl ?_
                have w65 : (Xi U3 904 94) = (Xi T1 904 94) := (show Xi U3 904 94 = Xi U2 904 94 from by rw [eU3]; exact Xi_ne (by omega)).trans ((show Xi U2 904 94 = Xi T1 904 94 from by rw [eU2]; exact Xi_ne (by omega)))
                rw [w65]
                have v181 : (Xi T1 904 94) = Xi T1 904 94 := by first | rfl | (rw [e174, Xi_ne (by omega), e164, Xi_ne (by omega)])
                refine y_iastoreP (n := 24) rfl rfl (by unfold rg; omega) (fun w66 w67 => ?_)
                obtain ⟨U4, eU4⟩ : ∃ T : sS, T = uI U3 985 ((v2).toNat) (Int32.ofInt (Xi T1 904 94)) := ⟨_, rfl⟩
                rw [← eU4]
                have hHU4 : RI U4 := by rw [eU4]; exact RI_w hHU3
                have hFU4 : FR md_mo_ruleMeant__p S U4 := by rw [eU4]; exact FR.wI hFU3 (mdf_i (r := (985, 986, 0, 100000)) (List.mem_of_getElem? (i := 38) rfl) (inR_i (by omega) (by omega) (by omega) (by omega)))
                have w68 : Xi U4 985 ((v2).toNat) = (Xi T1 904 94) := by rw [eU4]; exact Xi_same (by unfold rg; omega)
                have e184 := eU4
                refine y_aload_n rfl rfl ?_
                refine y_gfr rfl rfl rfl rfl rfl (hHU4.r 904 139 986 rfl) ?_
                refine y_iload_n rfl rfl ?_
                refine y_aload_n rfl rfl ?_
                refine y_gfi rfl rfl rfl rfl rfl ?_
                have w69 : (Xi U4 904 125) = (Xi T1 904 125) := (show Xi U4 904 125 = Xi U3 904 125 from by rw [eU4]; exact Xi_ne (by omega)).trans ( (show Xi U3 904 125 = Xi U2 904 125 from by rw [eU3]; exact Xi_ne (by omega)).trans ((show Xi U2 904 125 = Xi T1 904 125 from by rw [eU2]; exact Xi_ne (by omega))))
                rw [w69]
                have v191 : (Xi T1 904 125) = Xi T1 904 125 := by first | rfl | (rw [e184, Xi_ne (by omega), e174, Xi_ne (by omega), e164, Xi_ne (by omega)])
                refine y_iastoreP (n := 24) rfl rfl (by unfold rg; omega) (fun w70 w71 => ?_)
                obtain ⟨U5, eU5⟩ : ∃ T : sS, T = uI U4 986 ((v2).toNat) (Int32.ofInt (Xi T1 904 125)) := ⟨_, rfl⟩
                rw [← eU5]
                have hHU5 : RI U5 := by rw [eU5]; exact RI_w hHU4
                have hFU5 : FR md_mo_ruleMeant__p S U5 := by rw [eU5]; exact FR.wI hFU4 (mdf_i (r := (986, 987, 0, 100000)) (List.mem_of_getElem? (i := 39) rfl) (inR_i (by omega) (by omega) (by omega) (by omega)))
                have w72 : Xi U5 986 ((v2).toNat) = (Xi T1 904 125) := by rw [eU5]; exact Xi_same (by unfold rg; omega)
                have e194 := eU5
                refine y_aload_n rfl rfl ?_
                refine y_gfr rfl rfl rfl rfl rfl (hHU5.r 904 140 987 rfl) ?_
                refine y_iload_n rfl rfl ?_
                refine y_aload_n rfl rfl ?_
                refine y_gfi rfl rfl rfl rfl rfl ?_
                have w73 : (Xi U5 904 98) = (Xi T1 904 98) := (show Xi U5 904 98 = Xi U4 904 98 from by rw [eU5]; exact Xi_ne (by omega)).trans ( (show Xi U4 904 98 = Xi U3 904 98 from by rw [eU4]; exact Xi_ne (by omega)).trans ( (show Xi U3 904 98 = Xi U2 904 98 from by rw [eU3]; exact Xi_ne (by omega)).trans ((show Xi U2 904 98 = Xi T1 904 98 from by rw [eU2]; exact Xi_ne (by omega)))))
                rw [w73]
                have v201 : (Xi T1 904 98) = Xi T1 904 98 := by first | rfl | (rw [e194, Xi_ne (by omega), e184, Xi_ne (by omega), e174, Xi_ne (by omega), e164, Xi_ne (by omega)])
                refine y_iastoreP (n := 24) rfl rfl (by unfold rg; omega) (fun w74 w75 => ?_)
                obtain ⟨U6, eU6⟩ : ∃ T : sS, T = uI U5 987 ((v2).toNat) (Int32.ofInt (Xi T1 904 98)) := ⟨_, rfl⟩
                rw [← eU6]
                have hHU6 : RI U6 := by rw [eU6]; exact RI_w hHU5
                have hFU6 : FR md_mo_ruleMeant__p S U6 := by rw [eU6]; exact FR.wI hFU5 (mdf_i (r := (987, 988, 0, 100000)) (List.mem_of_getElem? (i := 40) rfl) (inR_i (by omega) (by omega) (by omega) (by omega)))
                have w76 : Xi U6 987 ((v2).toNat) = (Xi T1 904 98) := by rw [eU6]; exact Xi_same (by unfold rg; omega)
                have e204 := eU6
                refine y_aload_n rfl rfl ?_
                refine y_iload_n rfl rfl ?_
                refine y_aload_n rfl rfl ?_
                refine y_gfi rfl rfl rfl rfl rfl ?_
                have w77 : (Xi U6 904 98) = (Xi T1 904 98) := (show Xi U6 904 98 = Xi U5 904 98 from by rw [eU6]; exact Xi_ne (by omega)).trans ( (show Xi U5 904 98 = Xi U4 904 98 from by rw [eU5]; exact Xi_ne (by omega)).trans ( (show Xi U4 904 98 = Xi U3 904 98 from by rw [eU4]; exact Xi_ne (by omega)).trans ( (show Xi U3 904 98 = Xi U2 904 98 from by rw [eU3]; exact Xi_ne (by omega)).trans ((show Xi U2 904 98 = Xi T1 904 98 from by rw [eU2]; exact Xi_ne (by omega))))))
                rw [w77]
                refine y_iadd rfl ?_
                have v212 : (v3 + (Xi T1 904 98)) = v3 + Xi T1 904 98 := by omega
                refine y_pfi rfl rfl rfl rfl ?_
                obtain ⟨U7, eU7⟩ : ∃ T : sS, T = uI U6 904 117 (Int32.ofInt (v3 + (Xi T1 904 98))) := ⟨_, rfl⟩
                rw [← eU7]
                have hHU7 : RI U7 := by rw [eU7]; exact RI_w hHU6
                have hFU7 : FR md_mo_ruleMeant__p S U7 := by rw [eU7]; exact FR.wI hFU6 (mdf_i (r := (904, 905, 117, 118)) (List.mem_of_getElem? (i := 10) rfl) (inR_i (by omega) (by omega) (by omega) (by omega)))
                have w78 : Xi U7 904 117 = (v3 + (Xi T1 904 98)) := by rw [eU7]; exact Xi_same (by unfold rg; omega)
                have e212 := eU7
                refine y_aload_n rfl rfl ?_
                refine y_dup rfl rfl ?_
                refine y_gfi rfl rfl rfl rfl rfl ?_
                have w79 : (Xi U7 904 125) = (Xi T1 904 125) := (show Xi U7 904 125 = Xi U6 904 125 from by rw [eU7]; exact Xi_ne (by omega)).trans ( (show Xi U6 904 125 = Xi U5 904 125 from by rw [eU6]; exact Xi_ne (by omega)).trans ( (show Xi U5 904 125 = Xi U4 904 125 from by rw [eU5]; exact Xi_ne (by omega)).trans ( (show Xi U4 904 125 = Xi U3 904 125 from by rw [eU4]; exact Xi_ne (by omega)).trans ( (show Xi U3 904 125 = Xi U2 904 125 from by rw [eU3]; exact Xi_ne (by omega)).trans ((show Xi U2 904 125 = Xi T1 904 125 from by rw [eU2]; exact Xi_ne (by omega)))))))
                rw [w79]
                refine y_aload_n rfl rfl ?_
                refine y_gfi rfl rfl rfl rfl rfl ?_
                have w80 : (Xi U7 904 98) = (Xi T1 904 98) := (show Xi U7 904 98 = Xi U6 904 98 from by rw [eU7]; exact Xi_ne (by omega)).trans ( (show Xi U6 904 98 = Xi U5 904 98 from by rw [eU6]; exact Xi_ne (by omega)).trans ( (show Xi U5 904 98 = Xi U4 904 98 from by rw [eU5]; exact Xi_ne (by omega)).trans ( (show Xi U4 904 98 = Xi U3 904 98 from by rw [eU4]; exact Xi_ne (by omega)).trans ( (show Xi U3 904 98 = Xi U2 904 98 from by rw [eU3]; exact Xi_ne (by omega)).trans ((show Xi U2 904 98 = Xi T1 904 98 from by rw [eU2]; exact Xi_ne (by omega)))))))
                rw [w80]
                refine y_iadd rfl ?_
                have v225 : ((Xi T1 904 125) + (Xi T1 904 98)) = Xi T1 904 125 + Xi T1 904 98 := by omega
                refine y_pfi rfl rfl rfl rfl ?_
                obtain ⟨U8, eU8⟩ : ∃ T : sS, T = uI U7 904 125 (Int32.ofInt ((Xi T1 904 125) + (Xi T1 904 98))) := ⟨_, rfl⟩
                rw [← eU8]
                have hHU8 : RI U8 := by rw [eU8]; exact RI_w hHU7
                have hFU8 : FR md_mo_ruleMeant__p S U8 := by rw [eU8]; exact FR.wI hFU7 (mdf_i (r := (904, 905, 125, 126)) (List.mem_of_getElem? (i := 11) rfl) (inR_i (by omega) (by omega) (by omega) (by omega)))
                have w81 : Xi U8 904 125 = ((Xi T1 904 125) + (Xi T1 904 98)) := by rw [eU8]; exact Xi_same (by unfold rg; omega)
                have e225 := eU8
                refine y_aload_n rfl rfl ?_
                refine y_dup rfl rfl ?_
                refine y_gfi rfl rfl rfl rfl rfl ?_
                have w82 : (Xi U8 904 130) = (Xi T1 904 130) := (show Xi U8 904 130 = Xi U7 904 130 from by rw [eU8]; exact Xi_ne (by omega)).trans ( (show Xi U7 904 130 = Xi U6 904 130 from by rw [eU7]; exact Xi_ne (by omega)).trans ( (show Xi U6 904 130 = Xi U5 904 130 from by rw [eU6]; exact Xi_ne (by omega)).trans ( (show Xi U5 904 130 = Xi U4 904 130 from by rw [eU5]; exact Xi_ne (by omega)).trans ( (show Xi U4 904 130 = Xi U3 904 130 from by rw [eU4]; exact Xi_ne (by omega)).trans ( (show Xi U3 904 130 = Xi U2 904 130 from by rw [eU3]; exact Xi_ne (by omega)).trans ((show Xi U2 904 130 = Xi T1 904 130 from by rw [eU2]; exact Xi_ne (by omega))))))))
                rw [w82]
                refine y_iconst rfl ?_
                refine y_iadd rfl ?_
                have v235 : ((Xi T1 904 130) + 1) = Xi T1 904 130 + 1 := by omega
                refine y_pfi rfl rfl rfl rfl ?_
                obtain ⟨U9, eU9⟩ : ∃ T : sS, T = uI U8 904 130 (Int32.ofInt ((Xi T1 904 130) + 1)) := ⟨_, rfl⟩
                rw [← eU9]
                have hHU9 : RI U9 := by rw [eU9]; exact RI_w hHU8
                have hFU9 : FR md_mo_ruleMeant__p S U9 := by rw [eU9]; exact FR.wI hFU8 (mdf_i (r := (904, 905, 130, 131)) (List.mem_of_getElem? (i := 14) rfl) (inR_i (by omega) (by omega) (by omega) (by omega)))
                have w83 : Xi U9 904 130 = ((Xi T1 904 130) + 1) := by rw [eU9]; exact Xi_same (by unfold rg; omega)
                have e235 := eU9
                refine y_return rfl rfl ?_
                have w95 : Xi U9 904 98 = Xi T1 904 98 := (show Xi U9 904 98 = Xi U8 904 98 from by rw [eU9]; exact Xi_ne (by omega)).trans ( (show Xi U8 904 98 = Xi U7 904 98 from by rw [eU8]; exact Xi_ne (by omega)).trans ( (show Xi U7 904 98 = Xi U6 904 98 from by rw [eU7]; exact Xi_ne (by omega)).trans ( (show Xi U6 904 98 = Xi U5 904 98 from by rw [eU6]; exact Xi_ne (by omega)).trans ( (show Xi U5 904 98 = Xi U4 904 98 from by rw [eU5]; exact Xi_ne (by omega)).trans ( (show Xi U4 904 98 = Xi U3 904 98 from by rw [eU4]; exact Xi_ne (by omega)).trans ( (show Xi U3 904 98 = Xi U2 904 98 from by rw [eU3]; exact Xi_ne (by omega)).trans ((show Xi U2 904 98 = Xi T1 904 98 from by rw [eU2]; exact Xi_ne (by omega)))))))))
                exact ⟨hHU9, hFU9, rfl, (by first | (have u := e235; exact ⟨_, by have t := R58.o; rw [show v4 = Xi S 904 98 by omega] at t; exact t, fun w => absurd (by omega) w, fun _ => by rw [← l58, ← q58]; exact rlW_of e164 e174 e184 e194 e204 e212 e225 e235 s164 v171 v181 v191 v201 v212 v225 v235⟩) | exact ⟨_, by have t := R58.o; rw [show v4 = Xi S 904 98 by omega] at t; exact t, fun _ => rfl, fun w => absurd w (by omega)⟩)⟩
              · refine y_iconst rfl ?_
                have s164 : (2 : Int) = soQ (Xi T1 904 70) := soQ_v (by omega)
                refine y_goto rfl rfl ?_
                refine y_iastoreP (n := 24) rfl rfl (by unfold rg; omega) (fun w96 w97 => ?_)
                obtain ⟨U10, eU10⟩ : ∃ T : sS, T = uI T1 978 ((v2).toNat) (Int32.ofInt 2) := ⟨_, rfl⟩
                rw [← eU10]
                have hHU10 : RI U10 := by rw [eU10]; exact RI_w hHT1
                have hFU10 : FR md_mo_ruleMeant__p S U10 := by rw [eU10]; exact FR.wI hFT1 (mdf_i (r := (978, 979, 0, 100000)) (List.mem_of_getElem? (i := 31) rfl) (inR_i (by omega) (by omega) (by omega) (by omega)))
                have w98 : Xi U10 978 ((v2).toNat) = 2 := by rw [eU10]; exact Xi_same (by unfold rg; omega)
                have e164 := eU10
                refine y_aload_n rfl rfl ?_
                refine y_gfr rfl rfl rfl rfl rfl (hHU10.r 904 137 984 rfl) ?_
                refine y_iload_n rfl rfl ?_
                refine y_aload_n rfl rfl ?_
                refine y_gfi rfl rfl rfl rfl rfl ?_
                have w99 : (Xi U10 904 117) = (Xi T1 904 117) := (show Xi U10 904 117 = Xi T1 904 117 from by rw [eU10]; exact Xi_ne (by omega))
                rw [w99]
                have v171 : (Xi T1 904 117) = Xi T1 904 117 := by first | rfl | (rw [e164, Xi_ne (by omega)])
                refine y_iastoreP (n := 24) rfl rfl (by unfold rg; omega) (fun w100 w101 => ?_)
                obtain ⟨U11, eU11⟩ : ∃ T : sS, T = uI U10 984 ((v2).toNat) (Int32.ofInt (Xi T1 904 117)) := ⟨_, rfl⟩
                rw [← eU11]
                have hHU11 : RI U11 := by rw [eU11]; exact RI_w hHU10
                have hFU11 : FR md_mo_ruleMeant__p S U11 := by rw [eU11]; exact FR.wI hFU10 (mdf_i (r := (984, 985, 0, 100000)) (List.mem_of_getElem? (i := 37) rfl) (inR_i (by omega) (by omega) (by omega) (by omega)))
                have w102 : Xi U11 984 ((v2).toNat) = (Xi T1 904 117) := by rw [eU11]; exact Xi_same (by unfold rg; omega)
                have e174 := eU11
                refine y_aload_n rfl rfl ?_
                refine y_gfr rfl rfl rfl rfl rfl (hHU11.r 904 138 985 rfl) ?_
                refine y_iload_n rfl rfl ?_
                refine y_aload_n rfl rfl ?_
                refine y_gfi rfl rfl rfl rfl rfl ?_
                have w103 : (Xi U11 904 94) = (Xi T1 904 94) := (show Xi U11 904 94 = Xi U10 904 94 from by rw [eU11]; exact Xi_ne (by omega)).trans ((show Xi U10 904 94 = Xi T1 904 94 from by rw [eU10]; exact Xi_ne (by omega)))
                rw [w103]
                have v181 : (Xi T1 904 94) = Xi T1 904 94 := by first | rfl | (rw [e174, Xi_ne (by omega), e164, Xi_ne (by omega)])
                refine y_iastoreP (n := 24) rfl rfl (by unfold rg; omega) (fun w104 w105 => ?_)
                obtain ⟨U12, eU12⟩ : ∃ T : sS, T = uI U11 985 ((v2).toNat) (Int32.ofInt (Xi T1 904 94)) := ⟨_, rfl⟩
                rw [← eU12]
                have hHU12 : RI U12 := by rw [eU12]; exact RI_w hHU11
                have hFU12 : FR md_mo_ruleMeant__p S U12 := by rw [eU12]; exact FR.wI hFU11 (mdf_i (r := (985, 986, 0, 100000)) (List.mem_of_getElem? (i := 38) rfl) (inR_i (by omega) (by omega) (by omega) (by omega)))
                have w106 : Xi U12 985 ((v2).toNat) = (Xi T1 904 94) := by rw [eU12]; exact Xi_same (by unfold rg; omega)
                have e184 := eU12
                refine y_aload_n rfl rfl ?_
                refine y_gfr rfl rfl rfl rfl rfl (hHU12.r 904 139 986 rfl) ?_
                refine y_iload_n rfl rfl ?_
                refine y_aload_n rfl rfl ?_
                refine y_gfi rfl rfl rfl rfl rfl ?_
                have w107 : (Xi U12 904 125) = (Xi T1 904 125) := (show Xi U12 904 125 = Xi U11 904 125 from by rw [eU12]; exact Xi_ne (by omega)).trans ( (show Xi U11 904 125 = Xi U10 904 125 from by rw [eU11]; exact Xi_ne (by omega)).trans ((show Xi U10 904 125 = Xi T1 904 125 from by rw [eU10]; exact Xi_ne (by omega))))
                rw [w107]
                have v191 : (Xi T1 904 125) = Xi T1 904 125 := by first | rfl | (rw [e184, Xi_ne (by omega), e174, Xi_ne (by omega), e164, Xi_ne (by omega)])
                refine y_iastoreP (n := 24) rfl rfl (by unfold rg; omega) (fun w108 w109 => ?_)
                obtain ⟨U13, eU13⟩ : ∃ T : sS, T = uI U12 986 ((v2).toNat) (Int32.ofInt (Xi T1 904 125)) := ⟨_, rfl⟩
                rw [← eU13]
                have hHU13 : RI U13 := by rw [eU13]; exact RI_w hHU12
                have hFU13 : FR md_mo_ruleMeant__p S U13 := by rw [eU13]; exact FR.wI hFU12 (mdf_i (r := (986, 987, 0, 100000)) (List.mem_of_getElem? (i := 39) rfl) (inR_i (by omega) (by omega) (by omega) (by omega)))
                have w110 : Xi U13 986 ((v2).toNat) = (Xi T1 904 125) := by rw [eU13]; exact Xi_same (by unfold rg; omega)
                have e194 := eU13
                refine y_aload_n rfl rfl ?_
                refine y_gfr rfl rfl rfl rfl rfl (hHU13.r 904 140 987 rfl) ?_
                refine y_iload_n rfl rfl ?_
                refine y_aload_n rfl rfl ?_
                refine y_gfi rfl rfl rfl rfl rfl ?_
                have w111 : (Xi U13 904 98) = (Xi T1 904 98) := (show Xi U13 904 98 = Xi U12 904 98 from by rw [eU13]; exact Xi_ne (by omega)).trans ( (show Xi U12 904 98 = Xi U11 904 98 from by rw [eU12]; exact Xi_ne (by omega)).trans ( (show Xi U11 904 98 = Xi U10 904 98 from by rw [eU11]; exact Xi_ne (by omega)).trans ((show Xi U10 904 98 = Xi T1 904 98 from by rw [eU10]; exact Xi_ne (by omega)))))
                rw [w111]
                have v201 : (Xi T1 904 98) = Xi T1 904 98 := by first | rfl | (rw [e194, Xi_ne (by omega), e184, Xi_ne (by omega), e174, Xi_ne (by omega), e164, Xi_ne (by omega)])
                refine y_iastoreP (n := 24) rfl rfl (by unfold rg; omega) (fun w112 w113 => ?_)
                obtain ⟨U14, eU14⟩ : ∃ T : sS, T = uI U13 987 ((v2).toNat) (Int32.ofInt (Xi T1 904 98)) := ⟨_, rfl⟩
                rw [← eU14]
                have hHU14 : RI U14 := by rw [eU14]; exact RI_w hHU13
                have hFU14 : FR md_mo_ruleMeant__p S U14 := by rw [eU14]; exact FR.wI hFU13 (mdf_i (r := (987, 988, 0, 100000)) (List.mem_of_getElem? (i := 40) rfl) (inR_i (by omega) (by omega) (by omega) (by omega)))
                have w114 : Xi U14 987 ((v2).toNat) = (Xi T1 904 98) := by rw [eU14]; exact Xi_same (by unfold rg; omega)
                have e204 := eU14
                refine y_aload_n rfl rfl ?_
                refine y_iload_n rfl rfl ?_
                refine y_aload_n rfl rfl ?_
                refine y_gfi rfl rfl rfl rfl rfl ?_
                have w115 : (Xi U14 904 98) = (Xi T1 904 98) := (show Xi U14 904 98 = Xi U13 904 98 from by rw [eU14]; exact Xi_ne (by omega)).trans ( (show Xi U13 904 98 = Xi U12 904 98 from by rw [eU13]; exact Xi_ne (by omega)).trans ( (show Xi U12 904 98 = Xi U11 904 98 from by rw [eU12]; exact Xi_ne (by omega)).trans ( (show Xi U11 904 98 = Xi U10 904 98 from by rw [eU11]; exact Xi_ne (by omega)).trans ((show Xi U10 904 98 = Xi T1 904 98 from by rw [eU10]; exact Xi_ne (by omega))))))
                rw [w115]
                refine y_iadd rfl ?_
                have v212 : (v3 + (Xi T1 904 98)) = v3 + Xi T1 904 98 := by omega
                refine y_pfi rfl rfl rfl rfl ?_
                obtain ⟨U15, eU15⟩ : ∃ T : sS, T = uI U14 904 117 (Int32.ofInt (v3 + (Xi T1 904 98))) := ⟨_, rfl⟩
                rw [← eU15]
                have hHU15 : RI U15 := by rw [eU15]; exact RI_w hHU14
                have hFU15 : FR md_mo_ruleMeant__p S U15 := by rw [eU15]; exact FR.wI hFU14 (mdf_i (r := (904, 905, 117, 118)) (List.mem_of_getElem? (i := 10) rfl) (inR_i (by omega) (by omega) (by omega) (by omega)))
                have w116 : Xi U15 904 117 = (v3 + (Xi T1 904 98)) := by rw [eU15]; exact Xi_same (by unfold rg; omega)
                have e212 := eU15
                refine y_aload_n rfl rfl ?_
                refine y_dup rfl rfl ?_
                refine y_gfi rfl rfl rfl rfl rfl ?_
                have w117 : (Xi U15 904 125) = (Xi T1 904 125) := (show Xi U15 904 125 = Xi U14 904 125 from by rw [eU15]; exact Xi_ne (by omega)).trans ( (show Xi U14 904 125 = Xi U13 904 125 from by rw [eU14]; exact Xi_ne (by omega)).trans ( (show Xi U13 904 125 = Xi U12 904 125 from by rw [eU13]; exact Xi_ne (by omega)).trans ( (show Xi U12 904 125 = Xi U11 904 125 from by rw [eU12]; exact Xi_ne (by omega)).trans ( (show Xi U11 904 125 = Xi U10 904 125 from by rw [eU11]; exact Xi_ne (by omega)).trans ((show Xi U10 904 125 = Xi T1 904 125 from by rw [eU10]; exact Xi_ne (by omega)))))))
                rw [w117]
                refine y_aload_n rfl rfl ?_
                refine y_gfi rfl rfl rfl rfl rfl ?_
                have w118 : (Xi U15 904 98) = (Xi T1 904 98) := (show Xi U15 904 98 = Xi U14 904 98 from by rw [eU15]; exact Xi_ne (by omega)).trans ( (show Xi U14 904 98 = Xi U13 904 98 from by rw [eU14]; exact Xi_ne (by omega)).trans ( (show Xi U13 904 98 = Xi U12 904 98 from by rw [eU13]; exact Xi_ne (by omega)).trans ( (show Xi U12 904 98 = Xi U11 904 98 from by rw [eU12]; exact Xi_ne (by omega)).trans ( (show Xi U11 904 98 = Xi U10 904 98 from by rw [eU11]; exact Xi_ne (by omega)).trans ((show Xi U10 904 98 = Xi T1 904 98 from by rw [eU10]; exact Xi_ne (by omega)))))))
                rw [w118]
                refine y_iadd rfl ?_
                have v225 : ((Xi T1 904 125) + (Xi T1 904 98)) = Xi T1 904 125 + Xi T1 904 98 := by omega
                refine y_pfi rfl rfl rfl rfl ?_
                obtain ⟨U16, eU16⟩ : ∃ T : sS, T = uI U15 904 125 (Int32.ofInt ((Xi T1 904 125) + (Xi T1 904 98))) := ⟨_, rfl⟩
                rw [← eU16]
                have hHU16 : RI U16 := by rw [eU16]; exact RI_w hHU15
                have hFU16 : FR md_mo_ruleMeant__p S U16 := by rw [eU16]; exact FR.wI hFU15 (mdf_i (r := (904, 905, 125, 126)) (List.mem_of_getElem? (i := 11) rfl) (inR_i (by omega) (by omega) (by omega) (by omega)))
                have w119 : Xi U16 904 125 = ((Xi T1 904 125) + (Xi T1 904 98)) := by rw [eU16]; exact Xi_same (by unfold rg; omega)
                have e225 := eU16
                refine y_aload_n rfl rfl ?_
                refine y_dup rfl rfl ?_
                refine y_gfi rfl rfl rfl rfl rfl ?_
                have w120 : (Xi U16 904 130) = (Xi T1 904 130) := (show Xi U16 904 130 = Xi U15 904 130 from by rw [eU16]; exact Xi_ne (by omega)).trans ( (show Xi U15 904 130 = Xi U14 904 130 from by rw [eU15]; exact Xi_ne (by omega)).trans ( (show Xi U14 904 130 = Xi U13 904 130 from by rw [eU14]; exact Xi_ne (by omega)).trans ( (show Xi U13 904 130 = Xi U12 904 130 from by rw [eU13]; exact Xi_ne (by omega)).trans ( (show Xi U12 904 130 = Xi U11 904 130 from by rw [eU12]; exact Xi_ne (by omega)).trans ( (show Xi U11 904 130 = Xi U10 904 130 from by rw [eU11]; exact Xi_ne (by omega)).trans ((show Xi U10 904 130 = Xi T1 904 130 from by rw [eU10]; exact Xi_ne (by omega))))))))
                rw [w120]
                refine y_iconst rfl ?_
                refine y_iadd rfl ?_
                have v235 : ((Xi T1 904 130) + 1) = Xi T1 904 130 + 1 := by omega
                refine y_pfi rfl rfl rfl rfl ?_
                obtain ⟨U17, eU17⟩ : ∃ T : sS, T = uI U16 904 130 (Int32.ofInt ((Xi T1 904 130) + 1)) := ⟨_, rfl⟩
                rw [← eU17]
                have hHU17 : RI U17 := by rw [eU17]; exact RI_w hHU16
                have hFU17 : FR md_mo_ruleMeant__p S U17 := by rw [eU17]; exact FR.wI hFU16 (mdf_i (r := (904, 905, 130, 131)) (List.mem_of_getElem? (i := 14) rfl) (inR_i (by omega) (by omega) (by omega) (by omega)))
                have w121 : Xi U17 904 130 = ((Xi T1 904 130) + 1) := by rw [eU17]; exact Xi_same (by unfold rg; omega)
                have e235 := eU17
                refine y_return rfl rfl ?_
                have w133 : Xi U17 904 98 = Xi T1 904 98 := (show Xi U17 904 98 = Xi U16 904 98 from by rw [eU17]; exact Xi_ne (by omega)).trans ( (show Xi U16 904 98 = Xi U15 904 98 from by rw [eU16]; exact Xi_ne (by omega)).trans ( (show Xi U15 904 98 = Xi U14 904 98 from by rw [eU15]; exact Xi_ne (by omega)).trans ( (show Xi U14 904 98 = Xi U13 904 98 from by rw [eU14]; exact Xi_ne (by omega)).trans ( (show Xi U13 904 98 = Xi U12 904 98 from by rw [eU13]; exact Xi_ne (by omega)).trans ( (show Xi U12 904 98 = Xi U11 904 98 from by rw [eU12]; exact Xi_ne (by omega)).trans ( (show Xi U11 904 98 = Xi U10 904 98 from by rw [eU11]; exact Xi_ne (by omega)).trans ((show Xi U10 904 98 = Xi T1 904 98 from by rw [eU10]; exact Xi_ne (by omega)))))))))
                exact ⟨hHU17, hFU17, rfl, (by first | (have u := e235; exact ⟨_, by have t := R58.o; rw [show v4 = Xi S 904 98 by omega] at t; exact t, fun w => absurd (by omega) w, fun _ => by rw [← l58, ← q58]; exact rlW_of e164 e174 e184 e194 e204 e212 e225 e235 s164 v171 v181 v191 v201 v212 v225 v235⟩) | exact ⟨_, by have t := R58.o; rw [show v4 = Xi S 904 98 by omega] at t; exact t, fun _ => rfl, fun w => absurd w (by omega)⟩)⟩
            · refine y_iconst rfl ?_
              have s164 : (1 : Int) = soQ (Xi T1 904 70) := soQ_v (by omega)
              refine y_goto rfl rfl ?_
              refine y_iastoreP (n := 24) rfl rfl (by unfold rg; omega) (fun w134 w135 => ?_)
              obtain ⟨U18, eU18⟩ : ∃ T : sS, T = uI T1 978 ((v2).toNat) (Int32.ofInt 1) := ⟨_, rfl⟩
              rw [← eU18]
              have hHU18 : RI U18 := by rw [eU18]; exact RI_w hHT1
              have hFU18 : FR md_mo_ruleMeant__p S U18 := by rw [eU18]; exact FR.wI hFT1 (mdf_i (r := (978, 979, 0, 100000)) (List.mem_of_getElem? (i := 31) rfl) (inR_i (by omega) (by omega) (by omega) (by omega)))
              have w136 : Xi U18 978 ((v2).toNat) = 1 := by rw [eU18]; exact Xi_same (by unfold rg; omega)
              have e164 := eU18
              refine y_aload_n rfl rfl ?_
              refine y_gfr rfl rfl rfl rfl rfl (hHU18.r 904 137 984 rfl) ?_
              refine y_iload_n rfl rfl ?_
              refine y_aload_n rfl rfl ?_
              refine y_gfi rfl rfl rfl rfl rfl ?_
              have w137 : (Xi U18 904 117) = (Xi T1 904 117) := (show Xi U18 904 117 = Xi T1 904 117 from by rw [eU18]; exact Xi_ne (by omega))
              rw [w137]
              have v171 : (Xi T1 904 117) = Xi T1 904 117 := by first | rfl | (rw [e164, Xi_ne (by omega)])
              refine y_iastoreP (n := 24) rfl rfl (by unfold rg; omega) (fun w138 w139 => ?_)
              obtain ⟨U19, eU19⟩ : ∃ T : sS, T = uI U18 984 ((v2).toNat) (Int32.ofInt (Xi T1 904 117)) := ⟨_, rfl⟩
              rw [← eU19]
              have hHU19 : RI U19 := by rw [eU19]; exact RI_w hHU18
              have hFU19 : FR md_mo_ruleMeant__p S U19 := by rw [eU19]; exact FR.wI hFU18 (mdf_i (r := (984, 985, 0, 100000)) (List.mem_of_getElem? (i := 37) rfl) (inR_i (by omega) (by omega) (by omega) (by omega)))
              have w140 : Xi U19 984 ((v2).toNat) = (Xi T1 904 117) := by rw [eU19]; exact Xi_same (by unfold rg; omega)
              have e174 := eU19
              refine y_aload_n rfl rfl ?_
              refine y_gfr rfl rfl rfl rfl rfl (hHU19.r 904 138 985 rfl) ?_
              refine y_iload_n rfl rfl ?_
              refine y_aload_n rfl rfl ?_
              refine y_gfi rfl rfl rfl rfl rfl ?_
              have w141 : (Xi U19 904 94) = (Xi T1 904 94) := (show Xi U19 904 94 = Xi U18 904 94 from by rw [eU19]; exact Xi_ne (by omega)).trans ((show Xi U18 904 94 = Xi T1 904 94 from by rw [eU18]; exact Xi_ne (by omega)))
              rw [w141]
              have v181 : (Xi T1 904 94) = Xi T1 904 94 := by first | rfl | (rw [e174, Xi_ne (by omega), e164, Xi_ne (by omega)])
              refine y_iastoreP (n := 24) rfl rfl (by unfold rg; omega) (fun w142 w143 => ?_)
              obtain ⟨U20, eU20⟩ : ∃ T : sS, T = uI U19 985 ((v2).toNat) (Int32.ofInt (Xi T1 904 94)) := ⟨_, rfl⟩
              rw [← eU20]
              have hHU20 : RI U20 := by rw [eU20]; exact RI_w hHU19
              have hFU20 : FR md_mo_ruleMeant__p S U20 := by rw [eU20]; exact FR.wI hFU19 (mdf_i (r := (985, 986, 0, 100000)) (List.mem_of_getElem? (i := 38) rfl) (inR_i (by omega) (by omega) (by omega) (by omega)))
              have w144 : Xi U20 985 ((v2).toNat) = (Xi T1 904 94) := by rw [eU20]; exact Xi_same (by unfold rg; omega)
              have e184 := eU20
              refine y_aload_n rfl rfl ?_
              refine y_gfr rfl rfl rfl rfl rfl (hHU20.r 904 139 986 rfl) ?_
              refine y_iload_n rfl rfl ?_
              refine y_aload_n rfl rfl ?_
              refine y_gfi rfl rfl rfl rfl rfl ?_
              have w145 : (Xi U20 904 125) = (Xi T1 904 125) := (show Xi U20 904 125 = Xi U19 904 125 from by rw [eU20]; exact Xi_ne (by omega)).trans ( (show Xi U19 904 125 = Xi U18 904 125 from by rw [eU19]; exact Xi_ne (by omega)).trans ((show Xi U18 904 125 = Xi T1 904 125 from by rw [eU18]; exact Xi_ne (by omega))))
              rw [w145]
              have v191 : (Xi T1 904 125) = Xi T1 904 125 := by first | rfl | (rw [e184, Xi_ne (by omega), e174, Xi_ne (by omega), e164, Xi_ne (by omega)])
              refine y_iastoreP (n := 24) rfl rfl (by unfold rg; omega) (fun w146 w147 => ?_)
              obtain ⟨U21, eU21⟩ : ∃ T : sS, T = uI U20 986 ((v2).toNat) (Int32.ofInt (Xi T1 904 125)) := ⟨_, rfl⟩
              rw [← eU21]
              have hHU21 : RI U21 := by rw [eU21]; exact RI_w hHU20
              have hFU21 : FR md_mo_ruleMeant__p S U21 := by rw [eU21]; exact FR.wI hFU20 (mdf_i (r := (986, 987, 0, 100000)) (List.mem_of_getElem? (i := 39) rfl) (inR_i (by omega) (by omega) (by omega) (by omega)))
              have w148 : Xi U21 986 ((v2).toNat) = (Xi T1 904 125) := by rw [eU21]; exact Xi_same (by unfold rg; omega)
              have e194 := eU21
              refine y_aload_n rfl rfl ?_
              refine y_gfr rfl rfl rfl rfl rfl (hHU21.r 904 140 987 rfl) ?_
              refine y_iload_n rfl rfl ?_
              refine y_aload_n rfl rfl ?_
              refine y_gfi rfl rfl rfl rfl rfl ?_
              have w149 : (Xi U21 904 98) = (Xi T1 904 98) := (show Xi U21 904 98 = Xi U20 904 98 from by rw [eU21]; exact Xi_ne (by omega)).trans ( (show Xi U20 904 98 = Xi U19 904 98 from by rw [eU20]; exact Xi_ne (by omega)).trans ( (show Xi U19 904 98 = Xi U18 904 98 from by rw [eU19]; exact Xi_ne (by omega)).trans ((show Xi U18 904 98 = Xi T1 904 98 from by rw [eU18]; exact Xi_ne (by omega)))))
              rw [w149]
              have v201 : (Xi T1 904 98) = Xi T1 904 98 := by first | rfl | (rw [e194, Xi_ne (by omega), e184, Xi_ne (by omega), e174, Xi_ne (by omega), e164, Xi_ne (by omega)])
              refine y_iastoreP (n := 24) rfl rfl (by unfold rg; omega) (fun w150 w151 => ?_)
              obtain ⟨U22, eU22⟩ : ∃ T : sS, T = uI U21 987 ((v2).toNat) (Int32.ofInt (Xi T1 904 98)) := ⟨_, rfl⟩
              rw [← eU22]
              have hHU22 : RI U22 := by rw [eU22]; exact RI_w hHU21
              have hFU22 : FR md_mo_ruleMeant__p S U22 := by rw [eU22]; exact FR.wI hFU21 (mdf_i (r := (987, 988, 0, 100000)) (List.mem_of_getElem? (i := 40) rfl) (inR_i (by omega) (by omega) (by omega) (by omega)))
              have w152 : Xi U22 987 ((v2).toNat) = (Xi T1 904 98) := by rw [eU22]; exact Xi_same (by unfold rg; omega)
              have e204 := eU22
              refine y_aload_n rfl rfl ?_
              refine y_iload_n rfl rfl ?_
              refine y_aload_n rfl rfl ?_
              refine y_gfi rfl rfl rfl rfl rfl ?_
              have w153 : (Xi U22 904 98) = (Xi T1 904 98) := (show Xi U22 904 98 = Xi U21 904 98 from by rw [eU22]; exact Xi_ne (by omega)).trans ( (show Xi U21 904 98 = Xi U20 904 98 from by rw [eU21]; exact Xi_ne (by omega)).trans ( (show Xi U20 904 98 = Xi U19 904 98 from by rw [eU20]; exact Xi_ne (by omega)).trans ( (show Xi U19 904 98 = Xi U18 904 98 from by rw [eU19]; exact Xi_ne (by omega)).trans ((show Xi U18 904 98 = Xi T1 904 98 from by rw [eU18]; exact Xi_ne (by omega))))))
              rw [w153]
              refine y_iadd rfl ?_
              have v212 : (v3 + (Xi T1 904 98)) = v3 + Xi T1 904 98 := by omega
              refine y_pfi rfl rfl rfl rfl ?_
              obtain ⟨U23, eU23⟩ : ∃ T : sS, T = uI U22 904 117 (Int32.ofInt (v3 + (Xi T1 904 98))) := ⟨_, rfl⟩
              rw [← eU23]
              have hHU23 : RI U23 := by rw [eU23]; exact RI_w hHU22
              have hFU23 : FR md_mo_ruleMeant__p S U23 := by rw [eU23]; exact FR.wI hFU22 (mdf_i (r := (904, 905, 117, 118)) (List.mem_of_getElem? (i := 10) rfl) (inR_i (by omega) (by omega) (by omega) (by omega)))
              have w154 : Xi U23 904 117 = (v3 + (Xi T1 904 98)) := by rw [eU23]; exact Xi_same (by unfold rg; omega)
              have e212 := eU23
              refine y_aload_n rfl rfl ?_
              refine y_dup rfl rfl ?_
              refine y_gfi rfl rfl rfl rfl rfl ?_
              have w155 : (Xi U23 904 125) = (Xi T1 904 125) := (show Xi U23 904 125 = Xi U22 904 125 from by rw [eU23]; exact Xi_ne (by omega)).trans ( (show Xi U22 904 125 = Xi U21 904 125 from by rw [eU22]; exact Xi_ne (by omega)).trans ( (show Xi U21 904 125 = Xi U20 904 125 from by rw [eU21]; exact Xi_ne (by omega)).trans ( (show Xi U20 904 125 = Xi U19 904 125 from by rw [eU20]; exact Xi_ne (by omega)).trans ( (show Xi U19 904 125 = Xi U18 904 125 from by rw [eU19]; exact Xi_ne (by omega)).trans ((show Xi U18 904 125 = Xi T1 904 125 from by rw [eU18]; exact Xi_ne (by omega)))))))
              rw [w155]
              refine y_aload_n rfl rfl ?_
              refine y_gfi rfl rfl rfl rfl rfl ?_
              have w156 : (Xi U23 904 98) = (Xi T1 904 98) := (show Xi U23 904 98 = Xi U22 904 98 from by rw [eU23]; exact Xi_ne (by omega)).trans ( (show Xi U22 904 98 = Xi U21 904 98 from by rw [eU22]; exact Xi_ne (by omega)).trans ( (show Xi U21 904 98 = Xi U20 904 98 from by rw [eU21]; exact Xi_ne (by omega)).trans ( (show Xi U20 904 98 = Xi U19 904 98 from by rw [eU20]; exact Xi_ne (by omega)).trans ( (show Xi U19 904 98 = Xi U18 904 98 from by rw [eU19]; exact Xi_ne (by omega)).trans ((show Xi U18 904 98 = Xi T1 904 98 from by rw [eU18]; exact Xi_ne (by omega)))))))
              rw [w156]
              refine y_iadd rfl ?_
              have v225 : ((Xi T1 904 125) + (Xi T1 904 98)) = Xi T1 904 125 + Xi T1 904 98 := by omega
              refine y_pfi rfl rfl rfl rfl ?_
              obtain ⟨U24, eU24⟩ : ∃ T : sS, T = uI U23 904 125 (Int32.ofInt ((Xi T1 904 125) + (Xi T1 904 98))) := ⟨_, rfl⟩
              rw [← eU24]
              have hHU24 : RI U24 := by rw [eU24]; exact RI_w hHU23
              have hFU24 : FR md_mo_ruleMeant__p S U24 := by rw [eU24]; exact FR.wI hFU23 (mdf_i (r := (904, 905, 125, 126)) (List.mem_of_getElem? (i := 11) rfl) (inR_i (by omega) (by omega) (by omega) (by omega)))
              have w157 : Xi U24 904 125 = ((Xi T1 904 125) + (Xi T1 904 98)) := by rw [eU24]; exact Xi_same (by unfold rg; omega)
              have e225 := eU24
              refine y_aload_n rfl rfl ?_
              refine y_dup rfl rfl ?_
              refine y_gfi rfl rfl rfl rfl rfl ?_
              have w158 : (Xi U24 904 130) = (Xi T1 904 130) := (show Xi U24 904 130 = Xi U23 904 130 from by rw [eU24]; exact Xi_ne (by omega)).trans ( (show Xi U23 904 130 = Xi U22 904 130 from by rw [eU23]; exact Xi_ne (by omega)).trans ( (show Xi U22 904 130 = Xi U21 904 130 from by rw [eU22]; exact Xi_ne (by omega)).trans ( (show Xi U21 904 130 = Xi U20 904 130 from by rw [eU21]; exact Xi_ne (by omega)).trans ( (show Xi U20 904 130 = Xi U19 904 130 from by rw [eU20]; exact Xi_ne (by omega)).trans ( (show Xi U19 904 130 = Xi U18 904 130 from by rw [eU19]; exact Xi_ne (by omega)).trans ((show Xi U18 904 130 = Xi T1 904 130 from by rw [eU18]; exact Xi_ne (by omega))))))))
              rw [w158]
              refine y_iconst rfl ?_
              refine y_iadd rfl ?_
              have v235 : ((Xi T1 904 130) + 1) = Xi T1 904 130 + 1 := by omega
              refine y_pfi rfl rfl rfl rfl ?_
              obtain ⟨U25, eU25⟩ : ∃ T : sS, T = uI U24 904 130 (Int32.ofInt ((Xi T1 904 130) + 1)) := ⟨_, rfl⟩
              rw [← eU25]
              have hHU25 : RI U25 := by rw [eU25]; exact RI_w hHU24
              have hFU25 : FR md_mo_ruleMeant__p S U25 := by rw [eU25]; exact FR.wI hFU24 (mdf_i (r := (904, 905, 130, 131)) (List.mem_of_getElem? (i := 14) rfl) (inR_i (by omega) (by omega) (by omega) (by omega)))
              have w159 : Xi U25 904 130 = ((Xi T1 904 130) + 1) := by rw [eU25]; exact Xi_same (by unfold rg; omega)
              have e235 := eU25
              refine y_return rfl rfl ?_
              have w171 : Xi U25 904 98 = Xi T1 904 98 := (show Xi U25 904 98 = Xi U24 904 98 from by rw [eU25]; exact Xi_ne (by omega)).trans ( (show Xi U24 904 98 = Xi U23 904 98 from by rw [eU24]; exact Xi_ne (by omega)).trans ( (show Xi U23 904 98 = Xi U22 904 98 from by rw [eU23]; exact Xi_ne (by omega)).trans ( (show Xi U22 904 98 = Xi U21 904 98 from by rw [eU22]; exact Xi_ne (by omega)).trans ( (show Xi U21 904 98 = Xi U20 904 98 from by rw [eU21]; exact Xi_ne (by omega)).trans ( (show Xi U20 904 98 = Xi U19 904 98 from by rw [eU20]; exact Xi_ne (by omega)).trans ( (show Xi U19 904 98 = Xi U18 904 98 from by rw [eU19]; exact Xi_ne (by omega)).trans ((show Xi U18 904 98 = Xi T1 904 98 from by rw [eU18]; exact Xi_ne (by omega)))))))))
              exact ⟨hHU25, hFU25, rfl, (by first | (have u := e235; exact ⟨_, by have t := R58.o; rw [show v4 = Xi S 904 98 by omega] at t; exact t, fun w => absurd (by omega) w, fun _ => by rw [← l58, ← q58]; exact rlW_of e164 e174 e184 e194 e204 e212 e225 e235 s164 v171 v181 v191 v201 v212 v225 v235⟩) | exact ⟨_, by have t := R58.o; rw [show v4 = Xi S 904 98 by omega] at t; exact t, fun _ => rfl, fun w => absurd w (by omega)⟩)⟩
          · refine y_iconst rfl ?_
            have s164 : (0 : Int) = soQ (Xi T1 904 70) := soQ_v (by omega)
            refine y_goto rfl rfl ?_
            refine y_iastoreP (n := 24) rfl rfl (by unfold rg; omega) (fun w172 w173 => ?_)
            obtain ⟨U26, eU26⟩ : ∃ T : sS, T = uI T1 978 ((v2).toNat) (Int32.ofInt 0) := ⟨_, rfl⟩
            rw [← eU26]
            have hHU26 : RI U26 := by rw [eU26]; exact RI_w hHT1
            have hFU26 : FR md_mo_ruleMeant__p S U26 := by rw [eU26]; exact FR.wI hFT1 (mdf_i (r := (978, 979, 0, 100000)) (List.mem_of_getElem? (i := 31) rfl) (inR_i (by omega) (by omega) (by omega) (by omega)))
            have w174 : Xi U26 978 ((v2).toNat) = 0 := by rw [eU26]; exact Xi_same (by unfold rg; omega)
            have e164 := eU26
            refine y_aload_n rfl rfl ?_
            refine y_gfr rfl rfl rfl rfl rfl (hHU26.r 904 137 984 rfl) ?_
            refine y_iload_n rfl rfl ?_
            refine y_aload_n rfl rfl ?_
            refine y_gfi rfl rfl rfl rfl rfl ?_
            have w175 : (Xi U26 904 117) = (Xi T1 904 117) := (show Xi U26 904 117 = Xi T1 904 117 from by rw [eU26]; exact Xi_ne (by omega))
            rw [w175]
            have v171 : (Xi T1 904 117) = Xi T1 904 117 := by first | rfl | (rw [e164, Xi_ne (by omega)])
            refine y_iastoreP (n := 24) rfl rfl (by unfold rg; omega) (fun w176 w177 => ?_)
            obtain ⟨U27, eU27⟩ : ∃ T : sS, T = uI U26 984 ((v2).toNat) (Int32.ofInt (Xi T1 904 117)) := ⟨_, rfl⟩
            rw [← eU27]
            have hHU27 : RI U27 := by rw [eU27]; exact RI_w hHU26
            have hFU27 : FR md_mo_ruleMeant__p S U27 := by rw [eU27]; exact FR.wI hFU26 (mdf_i (r := (984, 985, 0, 100000)) (List.mem_of_getElem? (i := 37) rfl) (inR_i (by omega) (by omega) (by omega) (by omega)))
            have w178 : Xi U27 984 ((v2).toNat) = (Xi T1 904 117) := by rw [eU27]; exact Xi_same (by unfold rg; omega)
            have e174 := eU27
            refine y_aload_n rfl rfl ?_
            refine y_gfr rfl rfl rfl rfl rfl (hHU27.r 904 138 985 rfl) ?_
            refine y_iload_n rfl rfl ?_
            refine y_aload_n rfl rfl ?_
            refine y_gfi rfl rfl rfl rfl rfl ?_
            have w179 : (Xi U27 904 94) = (Xi T1 904 94) := (show Xi U27 904 94 = Xi U26 904 94 from by rw [eU27]; exact Xi_ne (by omega)).trans ((show Xi U26 904 94 = Xi T1 904 94 from by rw [eU26]; exact Xi_ne (by omega)))
            rw [w179]
            have v181 : (Xi T1 904 94) = Xi T1 904 94 := by first | rfl | (rw [e174, Xi_ne (by omega), e164, Xi_ne (by omega)])
            refine y_iastoreP (n := 24) rfl rfl (by unfold rg; omega) (fun w180 w181 => ?_)
            obtain ⟨U28, eU28⟩ : ∃ T : sS, T = uI U27 985 ((v2).toNat) (Int32.ofInt (Xi T1 904 94)) := ⟨_, rfl⟩
            rw [← eU28]
            have hHU28 : RI U28 := by rw [eU28]; exact RI_w hHU27
            have hFU28 : FR md_mo_ruleMeant__p S U28 := by rw [eU28]; exact FR.wI hFU27 (mdf_i (r := (985, 986, 0, 100000)) (List.mem_of_getElem? (i := 38) rfl) (inR_i (by omega) (by omega) (by omega) (by omega)))
            have w182 : Xi U28 985 ((v2).toNat) = (Xi T1 904 94) := by rw [eU28]; exact Xi_same (by unfold rg; omega)
            have e184 := eU28
            refine y_aload_n rfl rfl ?_
            refine y_gfr rfl rfl rfl rfl rfl (hHU28.r 904 139 986 rfl) ?_
            refine y_iload_n rfl rfl ?_
            refine y_aload_n rfl rfl ?_
            refine y_gfi rfl rfl rfl rfl rfl ?_
            have w183 : (Xi U28 904 125) = (Xi T1 904 125) := (show Xi U28 904 125 = Xi U27 904 125 from by rw [eU28]; exact Xi_ne (by omega)).trans ( (show Xi U27 904 125 = Xi U26 904 125 from by rw [eU27]; exact Xi_ne (by omega)).trans ((show Xi U26 904 125 = Xi T1 904 125 from by rw [eU26]; exact Xi_ne (by omega))))
            rw [w183]
            have v191 : (Xi T1 904 125) = Xi T1 904 125 := by first | rfl | (rw [e184, Xi_ne (by omega), e174, Xi_ne (by omega), e164, Xi_ne (by omega)])
            refine y_iastoreP (n := 24) rfl rfl (by unfold rg; omega) (fun w184 w185 => ?_)
            obtain ⟨U29, eU29⟩ : ∃ T : sS, T = uI U28 986 ((v2).toNat) (Int32.ofInt (Xi T1 904 125)) := ⟨_, rfl⟩
            rw [← eU29]
            have hHU29 : RI U29 := by rw [eU29]; exact RI_w hHU28
            have hFU29 : FR md_mo_ruleMeant__p S U29 := by rw [eU29]; exact FR.wI hFU28 (mdf_i (r := (986, 987, 0, 100000)) (List.mem_of_getElem? (i := 39) rfl) (inR_i (by omega) (by omega) (by omega) (by omega)))
            have w186 : Xi U29 986 ((v2).toNat) = (Xi T1 904 125) := by rw [eU29]; exact Xi_same (by unfold rg; omega)
            have e194 := eU29
            refine y_aload_n rfl rfl ?_
            refine y_gfr rfl rfl rfl rfl rfl (hHU29.r 904 140 987 rfl) ?_
            refine y_iload_n rfl rfl ?_
            refine y_aload_n rfl rfl ?_
            refine y_gfi rfl rfl rfl rfl rfl ?_
            have w187 : (Xi U29 904 98) = (Xi T1 904 98) := (show Xi U29 904 98 = Xi U28 904 98 from by rw [eU29]; exact Xi_ne (by omega)).trans ( (show Xi U28 904 98 = Xi U27 904 98 from by rw [eU28]; exact Xi_ne (by omega)).trans ( (show Xi U27 904 98 = Xi U26 904 98 from by rw [eU27]; exact Xi_ne (by omega)).trans ((show Xi U26 904 98 = Xi T1 904 98 from by rw [eU26]; exact Xi_ne (by omega)))))
            rw [w187]
            have v201 : (Xi T1 904 98) = Xi T1 904 98 := by first | rfl | (rw [e194, Xi_ne (by omega), e184, Xi_ne (by omega), e174, Xi_ne (by omega), e164, Xi_ne (by omega)])
            refine y_iastoreP (n := 24) rfl rfl (by unfold rg; omega) (fun w188 w189 => ?_)
            obtain ⟨U30, eU30⟩ : ∃ T : sS, T = uI U29 987 ((v2).toNat) (Int32.ofInt (Xi T1 904 98)) := ⟨_, rfl⟩
            rw [← eU30]
            have hHU30 : RI U30 := by rw [eU30]; exact RI_w hHU29
            have hFU30 : FR md_mo_ruleMeant__p S U30 := by rw [eU30]; exact FR.wI hFU29 (mdf_i (r := (987, 988, 0, 100000)) (List.mem_of_getElem? (i := 40) rfl) (inR_i (by omega) (by omega) (by omega) (by omega)))
            have w190 : Xi U30 987 ((v2).toNat) = (Xi T1 904 98) := by rw [eU30]; exact Xi_same (by unfold rg; omega)
            have e204 := eU30
            refine y_aload_n rfl rfl ?_
            refine y_iload_n rfl rfl ?_
            refine y_aload_n rfl rfl ?_
            refine y_gfi rfl rfl rfl rfl rfl ?_
            have w191 : (Xi U30 904 98) = (Xi T1 904 98) := (show Xi U30 904 98 = Xi U29 904 98 from by rw [eU30]; exact Xi_ne (by omega)).trans ( (show Xi U29 904 98 = Xi U28 904 98 from by rw [eU29]; exact Xi_ne (by omega)).trans ( (show Xi U28 904 98 = Xi U27 904 98 from by rw [eU28]; exact Xi_ne (by omega)).trans ( (show Xi U27 904 98 = Xi U26 904 98 from by rw [eU27]; exact Xi_ne (by omega)).trans ((show Xi U26 904 98 = Xi T1 904 98 from by rw [eU26]; exact Xi_ne (by omega))))))
            rw [w191]
            refine y_iadd rfl ?_
            have v212 : (v3 + (Xi T1 904 98)) = v3 + Xi T1 904 98 := by omega
            refine y_pfi rfl rfl rfl rfl ?_
            obtain ⟨U31, eU31⟩ : ∃ T : sS, T = uI U30 904 117 (Int32.ofInt (v3 + (Xi T1 904 98))) := ⟨_, rfl⟩
            rw [← eU31]
            have hHU31 : RI U31 := by rw [eU31]; exact RI_w hHU30
            have hFU31 : FR md_mo_ruleMeant__p S U31 := by rw [eU31]; exact FR.wI hFU30 (mdf_i (r := (904, 905, 117, 118)) (List.mem_of_getElem? (i := 10) rfl) (inR_i (by omega) (by omega) (by omega) (by omega)))
            have w192 : Xi U31 904 117 = (v3 + (Xi T1 904 98)) := by rw [eU31]; exact Xi_same (by unfold rg; omega)
            have e212 := eU31
            refine y_aload_n rfl rfl ?_
            refine y_dup rfl rfl ?_
            refine y_gfi rfl rfl rfl rfl rfl ?_
            have w193 : (Xi U31 904 125) = (Xi T1 904 125) := (show Xi U31 904 125 = Xi U30 904 125 from by rw [eU31]; exact Xi_ne (by omega)).trans ( (show Xi U30 904 125 = Xi U29 904 125 from by rw [eU30]; exact Xi_ne (by omega)).trans ( (show Xi U29 904 125 = Xi U28 904 125 from by rw [eU29]; exact Xi_ne (by omega)).trans ( (show Xi U28 904 125 = Xi U27 904 125 from by rw [eU28]; exact Xi_ne (by omega)).trans ( (show Xi U27 904 125 = Xi U26 904 125 from by rw [eU27]; exact Xi_ne (by omega)).trans ((show Xi U26 904 125 = Xi T1 904 125 from by rw [eU26]; exact Xi_ne (by omega)))))))
            rw [w193]
            refine y_aload_n rfl rfl ?_
            refine y_gfi rfl rfl rfl rfl rfl ?_
            have w194 : (Xi U31 904 98) = (Xi T1 904 98) := (show Xi U31 904 98 = Xi U30 904 98 from by rw [eU31]; exact Xi_ne (by omega)).trans ( (show Xi U30 904 98 = Xi U29 904 98 from by rw [eU30]; exact Xi_ne (by omega)).trans ( (show Xi U29 904 98 = Xi U28 904 98 from by rw [eU29]; exact Xi_ne (by omega)).trans ( (show Xi U28 904 98 = Xi U27 904 98 from by rw [eU28]; exact Xi_ne (by omega)).trans ( (show Xi U27 904 98 = Xi U26 904 98 from by rw [eU27]; exact Xi_ne (by omega)).trans ((show Xi U26 904 98 = Xi T1 904 98 from by rw [eU26]; exact Xi_ne (by omega)))))))
            rw [w194]
            refine y_iadd rfl ?_
            have v225 : ((Xi T1 904 125) + (Xi T1 904 98)) = Xi T1 904 125 + Xi T1 904 98 := by omega
            refine y_pfi rfl rfl rfl rfl ?_
            obtain ⟨U32, eU32⟩ : ∃ T : sS, T = uI U31 904 125 (Int32.ofInt ((Xi T1 904 125) + (Xi T1 904 98))) := ⟨_, rfl⟩
            rw [← eU32]
            have hHU32 : RI U32 := by rw [eU32]; exact RI_w hHU31
            have hFU32 : FR md_mo_ruleMeant__p S U32 := by rw [eU32]; exact FR.wI hFU31 (mdf_i (r := (904, 905, 125, 126)) (List.mem_of_getElem? (i := 11) rfl) (inR_i (by omega) (by omega) (by omega) (by omega)))
            have w195 : Xi U32 904 125 = ((Xi T1 904 125) + (Xi T1 904 98)) := by rw [eU32]; exact Xi_same (by unfold rg; omega)
            have e225 := eU32
            refine y_aload_n rfl rfl ?_
            refine y_dup rfl rfl ?_
            refine y_gfi rfl rfl rfl rfl rfl ?_
            have w196 : (Xi U32 904 130) = (Xi T1 904 130) := (show Xi U32 904 130 = Xi U31 904 130 from by rw [eU32]; exact Xi_ne (by omega)).trans ( (show Xi U31 904 130 = Xi U30 904 130 from by rw [eU31]; exact Xi_ne (by omega)).trans ( (show Xi U30 904 130 = Xi U29 904 130 from by rw [eU30]; exact Xi_ne (by omega)).trans ( (show Xi U29 904 130 = Xi U28 904 130 from by rw [eU29]; exact Xi_ne (by omega)).trans ( (show Xi U28 904 130 = Xi U27 904 130 from by rw [eU28]; exact Xi_ne (by omega)).trans ( (show Xi U27 904 130 = Xi U26 904 130 from by rw [eU27]; exact Xi_ne (by omega)).trans ((show Xi U26 904 130 = Xi T1 904 130 from by rw [eU26]; exact Xi_ne (by omega))))))))
            rw [w196]
            refine y_iconst rfl ?_
            refine y_iadd rfl ?_
            have v235 : ((Xi T1 904 130) + 1) = Xi T1 904 130 + 1 := by omega
            refine y_pfi rfl rfl rfl rfl ?_
            obtain ⟨U33, eU33⟩ : ∃ T : sS, T = uI U32 904 130 (Int32.ofInt ((Xi T1 904 130) + 1)) := ⟨_, rfl⟩
            rw [← eU33]
            have hHU33 : RI U33 := by rw [eU33]; exact RI_w hHU32
            have hFU33 : FR md_mo_ruleMeant__p S U33 := by rw [eU33]; exact FR.wI hFU32 (mdf_i (r := (904, 905, 130, 131)) (List.mem_of_getElem? (i := 14) rfl) (inR_i (by omega) (by omega) (by omega) (by omega)))
            have w197 : Xi U33 904 130 = ((Xi T1 904 130) + 1) := by rw [eU33]; exact Xi_same (by unfold rg; omega)
            have e235 := eU33
            refine y_return rfl rfl ?_
            have w209 : Xi U33 904 98 = Xi T1 904 98 := (show Xi U33 904 98 = Xi U32 904 98 from by rw [eU33]; exact Xi_ne (by omega)).trans ( (show Xi U32 904 98 = Xi U31 904 98 from by rw [eU32]; exact Xi_ne (by omega)).trans ( (show Xi U31 904 98 = Xi U30 904 98 from by rw [eU31]; exact Xi_ne (by omega)).trans ( (show Xi U30 904 98 = Xi U29 904 98 from by rw [eU30]; exact Xi_ne (by omega)).trans ( (show Xi U29 904 98 = Xi U28 904 98 from by rw [eU29]; exact Xi_ne (by omega)).trans ( (show Xi U28 904 98 = Xi U27 904 98 from by rw [eU28]; exact Xi_ne (by omega)).trans ( (show Xi U27 904 98 = Xi U26 904 98 from by rw [eU27]; exact Xi_ne (by omega)).trans ((show Xi U26 904 98 = Xi T1 904 98 from by rw [eU26]; exact Xi_ne (by omega)))))))))
            exact ⟨hHU33, hFU33, rfl, (by first | (have u := e235; exact ⟨_, by have t := R58.o; rw [show v4 = Xi S 904 98 by omega] at t; exact t, fun w => absurd (by omega) w, fun _ => by rw [← l58, ← q58]; exact rlW_of e164 e174 e184 e194 e204 e212 e225 e235 s164 v171 v181 v191 v201 v212 v225 v235⟩) | exact ⟨_, by have t := R58.o; rw [show v4 = Xi S 904 98 by omega] at t; exact t, fun _ => rfl, fun w => absurd w (by omega)⟩)⟩
      · refine y_aload_n rfl rfl ?_
        refine y_iload rfl rfl ?_
        refine y_bipush rfl rfl ?_
        refine y_icmp_ge rfl rfl (by unfold rg; omega) (by unfold rg; omega) (fun w210 => ?_) (fun w211 => ?_)
        · refine y_iconst rfl ?_
          refine y_bipush rfl rfl ?_
          refine y_aload_n rfl rfl ?_
          refine y_gfr rfl rfl rfl rfl rfl (hHT1.r 904 97 965 rfl) ?_
          refine y_iload rfl rfl ?_
          refine y_ialoadP (n := 1700) rfl rfl (by unfold rg; omega) (fun w212 w213 => ?_)
          have w214 : -2147483648 ≤ (Xi T1 965 ((v4).toNat)) ∧ (Xi T1 965 ((v4).toNat)) ≤ 2147483647 := Xi_rgI
          have v88 : (Xi T1 965 ((v4).toNat)) = Xi S 965 (v4).toNat := (hFT1.cx 965 rfl _).1
          refine y_callV rfl rfl rfl (t_mo_need__p hHT1 0 9 (Xi T1 965 ((v4).toNat)) ⟨by omega, by omega⟩ ⟨by omega, by omega⟩ ⟨by omega, by omega⟩ _) ?_
          rintro _ T34 ⟨hHT34, w216, rfl, nt89⟩
          have hFT34 : FR md_mo_ruleMeant__p S T34 := FR.tr hFT1 w216 rfl
          show Pl _ _ _ _ _ _ [] _ _
          have F89 := (by assumption : FR md_mo_need__p T1 T34)
          have N89 : NT3 T34 = (if v4 < 8 then NT3 T1 else ntF (NT3 T1) 9 (Xi S 908 (Xi S 965 (v4).toNat).toNat)) := by have t := nt89; rw [v88, (hFT1.cx 908 rfl _).1] at t; first | (rw [if_pos (by omega)]; exact t.trans (if_neg (by decide))) | (rw [if_neg (by omega)]; exact t.trans (if_pos rfl))
          have c89 : (((v4).toNat : Nat) : Int) = v4 := by omega
          refine y_aload_n rfl rfl ?_
          refine y_iload rfl rfl ?_
          refine y_iload_n rfl rfl ?_
          refine y_iload rfl rfl ?_
          refine y_iadd rfl ?_
          refine y_aload_n rfl rfl ?_
          refine y_gfi rfl rfl rfl rfl rfl ?_
          have w217 : (Xi T34 904 125) = (Xi T1 904 125) := (show Xi T34 904 125 = Xi T1 904 125 from w216.x _ _ rfl)
          rw [w217]
          refine y_iload rfl rfl ?_
          refine y_iadd rfl ?_
          have w218 : Xi T34 904 102 = Xi T1 904 102 := (show Xi T34 904 102 = Xi T1 904 102 from w216.x _ _ rfl)
          have w219 : Xi T34 904 103 = Xi T1 904 103 := (show Xi T34 904 103 = Xi T1 904 103 from w216.x _ _ rfl)
          have w220 : Xi T34 904 115 = Xi T1 904 115 := (show Xi T34 904 115 = Xi T1 904 115 from w216.x _ _ rfl)
          have w221 : Xi T34 904 116 = Xi T1 904 116 := (show Xi T34 904 116 = Xi T1 904 116 from w216.x _ _ rfl)
          have w222 : Xi T34 904 117 = Xi T1 904 117 := (show Xi T34 904 117 = Xi T1 904 117 from w216.x _ _ rfl)
          have w223 : Xi T34 904 125 = Xi T1 904 125 := (show Xi T34 904 125 = Xi T1 904 125 from w216.x _ _ rfl)
          have w224 : Xi T34 904 130 = Xi T1 904 130 := (show Xi T34 904 130 = Xi T1 904 130 from w216.x _ _ rfl)
          have w225 : Xi T34 904 15 = Xi T1 904 15 := (show Xi T34 904 15 = Xi T1 904 15 from w216.x _ _ rfl)
          have w226 : Xi T34 904 32 = Xi T1 904 32 := (show Xi T34 904 32 = Xi T1 904 32 from w216.x _ _ rfl)
          have w227 : Xi T34 904 70 = Xi T1 904 70 := (show Xi T34 904 70 = Xi T1 904 70 from w216.x _ _ rfl)
          have w228 : Xi T34 904 94 = Xi T1 904 94 := (show Xi T34 904 94 = Xi T1 904 94 from w216.x _ _ rfl)
          have w229 : Xi T34 904 98 = Xi T1 904 98 := (show Xi T34 904 98 = Xi T1 904 98 from w216.x _ _ rfl)
          refine y_callV rfl rfl rfl (t_mo_phraseMeant__p hHT34 v4 (v3 + v4) ((Xi T1 904 125) + v4) ⟨by omega, by omega⟩ ⟨by omega, by omega⟩ ⟨by omega, by omega⟩ (by first | assumption | exact (LSP_FR hFT34 rfl rfl (by assumption : LSP S))) (by first | assumption | omega) (by first | assumption | exact (RBD_FR hFT34 rfl (by assumption : RBD S))) (by first | assumption | exact (ABV_FR hFT34 rfl (by assumption : ABV S))) (fun j => by rw [hFT34.x 918 j rfl]; exact hkx.o j) (by first | assumption | omega) (LXR_FR hFT34 rfl rfl hLX) (by first | assumption | omega) (BYT_R hFT34 rfl hb6) (fun j => by rw [hFT34.x 914 j rfl, hFT34.x 915 j rfl, hFT34.x 904 15 rfl]; exact hlx7.o j) (PKB_F hFT34 (SMR_FR hFT34 rfl rfl) rfl rfl rfl (by have u := hpk.o (v4).toNat (by omega); rw [c89] at u; exact u)) _) ?_
          rintro _ T35 ⟨hHT35, w231, rfl, o106⟩
          have hFT35 : FR md_mo_ruleMeant__p S T35 := FR.tr hFT34 w231 rfl
          show Pl _ _ _ _ _ _ [] _ _
          have F106 := (by assumption : FR md_mo_phraseMeant__p T34 T35)
          have R106 : Hid (RMM S T35 first (v4 + 1).toNat) := rmm_s R58.o (by omega) F89 N89 F106 o106 (by omega) (by omega)
          refine y_iinc rfl rfl rfl rfl ?_
          refine y_goto rfl rfl ?_
          have w232 : Xi T35 904 102 = Xi T1 904 102 := (show Xi T35 904 102 = Xi T34 904 102 from w231.x _ _ rfl).trans ((show Xi T34 904 102 = Xi T1 904 102 from w216.x _ _ rfl))
          have w233 : Xi T35 904 103 = Xi T1 904 103 := (show Xi T35 904 103 = Xi T34 904 103 from w231.x _ _ rfl).trans ((show Xi T34 904 103 = Xi T1 904 103 from w216.x _ _ rfl))
          have w234 : Xi T35 904 115 = Xi T1 904 115 := (show Xi T35 904 115 = Xi T34 904 115 from w231.x _ _ rfl).trans ((show Xi T34 904 115 = Xi T1 904 115 from w216.x _ _ rfl))
          have w235 : Xi T35 904 116 = Xi T1 904 116 := (show Xi T35 904 116 = Xi T34 904 116 from w231.x _ _ rfl).trans ((show Xi T34 904 116 = Xi T1 904 116 from w216.x _ _ rfl))
          have w236 : Xi T35 904 117 = Xi T1 904 117 := (show Xi T35 904 117 = Xi T34 904 117 from w231.x _ _ rfl).trans ((show Xi T34 904 117 = Xi T1 904 117 from w216.x _ _ rfl))
          have w237 : Xi T35 904 125 = Xi T1 904 125 := (show Xi T35 904 125 = Xi T34 904 125 from w231.x _ _ rfl).trans ((show Xi T34 904 125 = Xi T1 904 125 from w216.x _ _ rfl))
          have w238 : Xi T35 904 130 = Xi T1 904 130 := (show Xi T35 904 130 = Xi T34 904 130 from w231.x _ _ rfl).trans ((show Xi T34 904 130 = Xi T1 904 130 from w216.x _ _ rfl))
          have w239 : Xi T35 904 15 = Xi T1 904 15 := (show Xi T35 904 15 = Xi T34 904 15 from w231.x _ _ rfl).trans ((show Xi T34 904 15 = Xi T1 904 15 from w216.x _ _ rfl))
          have w240 : Xi T35 904 32 = Xi T1 904 32 := (show Xi T35 904 32 = Xi T34 904 32 from w231.x _ _ rfl).trans ((show Xi T34 904 32 = Xi T1 904 32 from w216.x _ _ rfl))
          have w241 : Xi T35 904 70 = Xi T1 904 70 := (show Xi T35 904 70 = Xi T34 904 70 from w231.x _ _ rfl).trans ((show Xi T34 904 70 = Xi T1 904 70 from w216.x _ _ rfl))
          have w242 : Xi T35 904 94 = Xi T1 904 94 := (show Xi T35 904 94 = Xi T34 904 94 from w231.x _ _ rfl).trans ((show Xi T34 904 94 = Xi T1 904 94 from w216.x _ _ rfl))
          have w243 : Xi T35 904 98 = Xi T1 904 98 := (show Xi T35 904 98 = Xi T34 904 98 from w231.x _ _ rfl).trans ((show Xi T34 904 98 = Xi T1 904 98 from w216.x _ _ rfl))
          exact Pl_weak (ih58 (by omega) T35 hHT35 hFT35 (v2) (v3) ((v4 + 1)) (by omega) (by omega) (by omega) (by first | exact l58 | exact l30) (by omega) (by omega) (by omega) (by omega) (by omega) (by omega) (by omega) (by omega) (by omega) (by omega) (by first | exact R106 | exact R56)) (by omega) (And.intro rfl (And.intro rfl (And.intro rfl (And.intro rfl (True.intro)))))
        · refine y_iconst rfl ?_
          refine y_goto rfl rfl ?_
          refine y_bipush rfl rfl ?_
          refine y_aload_n rfl rfl ?_
          refine y_gfr rfl rfl rfl rfl rfl (hHT1.r 904 97 965 rfl) ?_
          refine y_iload rfl rfl ?_
          refine y_ialoadP (n := 1700) rfl rfl (by unfold rg; omega) (fun w244 w245 => ?_)
          have w246 : -2147483648 ≤ (Xi T1 965 ((v4).toNat)) ∧ (Xi T1 965 ((v4).toNat)) ≤ 2147483647 := Xi_rgI
          have v88 : (Xi T1 965 ((v4).toNat)) = Xi S 965 (v4).toNat := (hFT1.cx 965 rfl _).1
          refine y_callV rfl rfl rfl (t_mo_need__p hHT1 1 9 (Xi T1 965 ((v4).toNat)) ⟨by omega, by omega⟩ ⟨by omega, by omega⟩ ⟨by omega, by omega⟩ _) ?_
          rintro _ T36 ⟨hHT36, w248, rfl, nt89⟩
          have hFT36 : FR md_mo_ruleMeant__p S T36 := FR.tr hFT1 w248 rfl
          show Pl _ _ _ _ _ _ [] _ _
          have F89 := (by assumption : FR md_mo_need__p T1 T36)
          have N89 : NT3 T36 = (if v4 < 8 then NT3 T1 else ntF (NT3 T1) 9 (Xi S 908 (Xi S 965 (v4).toNat).toNat)) := by have t := nt89; rw [v88, (hFT1.cx 908 rfl _).1] at t; first | (rw [if_pos (by omega)]; exact t.trans (if_neg (by decide))) | (rw [if_neg (by omega)]; exact t.trans (if_pos rfl))
          have c89 : (((v4).toNat : Nat) : Int) = v4 := by omega
          refine y_aload_n rfl rfl ?_
          refine y_iload rfl rfl ?_
          refine y_iload_n rfl rfl ?_
          refine y_iload rfl rfl ?_
          refine y_iadd rfl ?_
          refine y_aload_n rfl rfl ?_
          refine y_gfi rfl rfl rfl rfl rfl ?_
          have w249 : (Xi T36 904 125) = (Xi T1 904 125) := (show Xi T36 904 125 = Xi T1 904 125 from w248.x _ _ rfl)
          rw [w249]
          refine y_iload rfl rfl ?_
          refine y_iadd rfl ?_
          have w250 : Xi T36 904 102 = Xi T1 904 102 := (show Xi T36 904 102 = Xi T1 904 102 from w248.x _ _ rfl)
          have w251 : Xi T36 904 103 = Xi T1 904 103 := (show Xi T36 904 103 = Xi T1 904 103 from w248.x _ _ rfl)
          have w252 : Xi T36 904 115 = Xi T1 904 115 := (show Xi T36 904 115 = Xi T1 904 115 from w248.x _ _ rfl)
          have w253 : Xi T36 904 116 = Xi T1 904 116 := (show Xi T36 904 116 = Xi T1 904 116 from w248.x _ _ rfl)
          have w254 : Xi T36 904 117 = Xi T1 904 117 := (show Xi T36 904 117 = Xi T1 904 117 from w248.x _ _ rfl)
          have w255 : Xi T36 904 125 = Xi T1 904 125 := (show Xi T36 904 125 = Xi T1 904 125 from w248.x _ _ rfl)
          have w256 : Xi T36 904 130 = Xi T1 904 130 := (show Xi T36 904 130 = Xi T1 904 130 from w248.x _ _ rfl)
          have w257 : Xi T36 904 15 = Xi T1 904 15 := (show Xi T36 904 15 = Xi T1 904 15 from w248.x _ _ rfl)
          have w258 : Xi T36 904 32 = Xi T1 904 32 := (show Xi T36 904 32 = Xi T1 904 32 from w248.x _ _ rfl)
          have w259 : Xi T36 904 70 = Xi T1 904 70 := (show Xi T36 904 70 = Xi T1 904 70 from w248.x _ _ rfl)
          have w260 : Xi T36 904 94 = Xi T1 904 94 := (show Xi T36 904 94 = Xi T1 904 94 from w248.x _ _ rfl)
          have w261 : Xi T36 904 98 = Xi T1 904 98 := (show Xi T36 904 98 = Xi T1 904 98 from w248.x _ _ rfl)
          refine y_callV rfl rfl rfl (t_mo_phraseMeant__p hHT36 v4 (v3 + v4) ((Xi T1 904 125) + v4) ⟨by omega, by omega⟩ ⟨by omega, by omega⟩ ⟨by omega, by omega⟩ (by first | assumption | exact (LSP_FR hFT36 rfl rfl (by assumption : LSP S))) (by first | assumption | omega) (by first | assumption | exact (RBD_FR hFT36 rfl (by assumption : RBD S))) (by first | assumption | exact (ABV_FR hFT36 rfl (by assumption : ABV S))) (fun j => by rw [hFT36.x 918 j rfl]; exact hkx.o j) (by first | assumption | omega) (LXR_FR hFT36 rfl rfl hLX) (by first | assumption | omega) (BYT_R hFT36 rfl hb6) (fun j => by rw [hFT36.x 914 j rfl, hFT36.x 915 j rfl, hFT36.x 904 15 rfl]; exact hlx7.o j) (PKB_F hFT36 (SMR_FR hFT36 rfl rfl) rfl rfl rfl (by have u := hpk.o (v4).toNat (by omega); rw [c89] at u; exact u)) _) ?_
          rintro _ T37 ⟨hHT37, w263, rfl, o106⟩
          have hFT37 : FR md_mo_ruleMeant__p S T37 := FR.tr hFT36 w263 rfl
          show Pl _ _ _ _ _ _ [] _ _
          have F106 := (by assumption : FR md_mo_phraseMeant__p T36 T37)
          have R106 : Hid (RMM S T37 first (v4 + 1).toNat) := rmm_s R58.o (by omega) F89 N89 F106 o106 (by omega) (by omega)
          refine y_iinc rfl rfl rfl rfl ?_
          refine y_goto rfl rfl ?_
          have w264 : Xi T37 904 102 = Xi T1 904 102 := (show Xi T37 904 102 = Xi T36 904 102 from w263.x _ _ rfl).trans ((show Xi T36 904 102 = Xi T1 904 102 from w248.x _ _ rfl))
          have w265 : Xi T37 904 103 = Xi T1 904 103 := (show Xi T37 904 103 = Xi T36 904 103 from w263.x _ _ rfl).trans ((show Xi T36 904 103 = Xi T1 904 103 from w248.x _ _ rfl))
          have w266 : Xi T37 904 115 = Xi T1 904 115 := (show Xi T37 904 115 = Xi T36 904 115 from w263.x _ _ rfl).trans ((show Xi T36 904 115 = Xi T1 904 115 from w248.x _ _ rfl))
          have w267 : Xi T37 904 116 = Xi T1 904 116 := (show Xi T37 904 116 = Xi T36 904 116 from w263.x _ _ rfl).trans ((show Xi T36 904 116 = Xi T1 904 116 from w248.x _ _ rfl))
          have w268 : Xi T37 904 117 = Xi T1 904 117 := (show Xi T37 904 117 = Xi T36 904 117 from w263.x _ _ rfl).trans ((show Xi T36 904 117 = Xi T1 904 117 from w248.x _ _ rfl))
          have w269 : Xi T37 904 125 = Xi T1 904 125 := (show Xi T37 904 125 = Xi T36 904 125 from w263.x _ _ rfl).trans ((show Xi T36 904 125 = Xi T1 904 125 from w248.x _ _ rfl))
          have w270 : Xi T37 904 130 = Xi T1 904 130 := (show Xi T37 904 130 = Xi T36 904 130 from w263.x _ _ rfl).trans ((show Xi T36 904 130 = Xi T1 904 130 from w248.x _ _ rfl))
          have w271 : Xi T37 904 15 = Xi T1 904 15 := (show Xi T37 904 15 = Xi T36 904 15 from w263.x _ _ rfl).trans ((show Xi T36 904 15 = Xi T1 904 15 from w248.x _ _ rfl))
          have w272 : Xi T37 904 32 = Xi T1 904 32 := (show Xi T37 904 32 = Xi T36 904 32 from w263.x _ _ rfl).trans ((show Xi T36 904 32 = Xi T1 904 32 from w248.x _ _ rfl))
          have w273 : Xi T37 904 70 = Xi T1 904 70 := (show Xi T37 904 70 = Xi T36 904 70 from w263.x _ _ rfl).trans ((show Xi T36 904 70 = Xi T1 904 70 from w248.x _ _ rfl))
          have w274 : Xi T37 904 94 = Xi T1 904 94 := (show Xi T37 904 94 = Xi T36 904 94 from w263.x _ _ rfl).trans ((show Xi T36 904 94 = Xi T1 904 94 from w248.x _ _ rfl))
          have w275 : Xi T37 904 98 = Xi T1 904 98 := (show Xi T37 904 98 = Xi T36 904 98 from w263.x _ _ rfl).trans ((show Xi T36 904 98 = Xi T1 904 98 from w248.x _ _ rfl))
          exact Pl_weak (ih58 (by omega) T37 hHT37 hFT37 (v2) (v3) ((v4 + 1)) (by omega) (by omega) (by omega) (by first | exact l58 | exact l30) (by omega) (by omega) (by omega) (by omega) (by omega) (by omega) (by omega) (by omega) (by omega) (by omega) (by first | exact R106 | exact R56)) (by omega) (And.intro rfl (And.intro rfl (And.intro rfl (And.intro rfl (True.intro)))))
  refine y_aload_n rfl rfl ?_
  refine y_aload_n rfl rfl ?_
  refine y_gfi rfl rfl rfl rfl rfl ?_
  refine y_bipush rfl rfl ?_
  refine y_icmp_ge rfl rfl (by unfold rg; omega) (by unfold rg; omega) (fun w276 => ?_) (fun w277 => ?_)
  · refine y_iconst rfl ?_
    refine y_bipush rfl rfl ?_
    refine y_iload_n rfl rfl ?_
    refine y_callV rfl rfl rfl (t_mo_need__p hH 0 9 first ⟨by omega, by omega⟩ ⟨by omega, by omega⟩ ⟨by omega, by omega⟩ _) ?_
    rintro _ T38 ⟨hHT38, w279, rfl, nt18⟩
    have hFT38 : FR md_mo_ruleMeant__p S T38 := FR.tr hF w279 rfl
    show Pl _ _ _ _ _ _ [] _ _
    have F18 := (by assumption : FR md_mo_need__p S T38)
    have N18 : NT3 T38 = (if Xi S 904 130 < 24 then NT3 S else ntF (NT3 S) 9 (Xi S 908 first.toNat)) := by first | (rw [if_pos (by omega)]; exact nt18.trans (if_neg (by decide))) | (rw [if_neg (by omega)]; exact nt18.trans (if_pos rfl))
    refine y_aload_n rfl rfl ?_
    refine y_gfi rfl rfl rfl rfl rfl ?_
    have w280 : (Xi T38 904 130) = (Xi S 904 130) := (show Xi T38 904 130 = Xi S 904 130 from w279.x _ _ rfl)
    rw [w280]
    refine y_bipush rfl rfl ?_
    refine y_min rfl rfl rfl (by unfold rg; omega) (by unfold rg; omega) ?_
    refine y_istore_n rfl rfl rfl ?_
    have l30 : (if 23 < (Xi S 904 130) then 23 else (Xi S 904 130)) = (if Xi S 904 130 < 23 then Xi S 904 130 else 23) := by have u := F18.x 904 130 rfl; split <;> split <;> omega
    have b30 : 0 ≤ (if 23 < (Xi S 904 130) then 23 else (Xi S 904 130)) ∧ (if 23 < (Xi S 904 130) then 23 else (Xi S 904 130)) ≤ 23 := by rw [l30]; split <;> omega
    refine y_aload_n rfl rfl ?_
    refine y_iload_n rfl rfl ?_
    have w281 : Xi T38 904 102 = Xi S 904 102 := (show Xi T38 904 102 = Xi S 904 102 from w279.x _ _ rfl)
    have w282 : Xi T38 904 103 = Xi S 904 103 := (show Xi T38 904 103 = Xi S 904 103 from w279.x _ _ rfl)
    have w283 : Xi T38 904 115 = Xi S 904 115 := (show Xi T38 904 115 = Xi S 904 115 from w279.x _ _ rfl)
    have w284 : Xi T38 904 116 = Xi S 904 116 := (show Xi T38 904 116 = Xi S 904 116 from w279.x _ _ rfl)
    have w285 : Xi T38 904 117 = Xi S 904 117 := (show Xi T38 904 117 = Xi S 904 117 from w279.x _ _ rfl)
    have w286 : Xi T38 904 125 = Xi S 904 125 := (show Xi T38 904 125 = Xi S 904 125 from w279.x _ _ rfl)
    have w287 : Xi T38 904 130 = Xi S 904 130 := (show Xi T38 904 130 = Xi S 904 130 from w279.x _ _ rfl)
    have w288 : Xi T38 904 15 = Xi S 904 15 := (show Xi T38 904 15 = Xi S 904 15 from w279.x _ _ rfl)
    have w289 : Xi T38 904 32 = Xi S 904 32 := (show Xi T38 904 32 = Xi S 904 32 from w279.x _ _ rfl)
    have w290 : Xi T38 904 70 = Xi S 904 70 := (show Xi T38 904 70 = Xi S 904 70 from w279.x _ _ rfl)
    have w291 : Xi T38 904 94 = Xi S 904 94 := (show Xi T38 904 94 = Xi S 904 94 from w279.x _ _ rfl)
    have w292 : Xi T38 904 98 = Xi S 904 98 := (show Xi T38 904 98 = Xi S 904 98 from w279.x _ _ rfl)
    refine y_callV rfl rfl rfl (t_mo_actingMeant__p hHT38 (if 23 < (Xi S 904 130) then 23 else (Xi S 904 130)) ⟨by omega, by omega⟩ (by first | assumption | exact (LSP_FR hFT38 rfl rfl (by assumption : LSP S))) (by first | assumption | omega) (by first | assumption | exact (RBD_FR hFT38 rfl (by assumption : RBD S))) (by first | assumption | exact (ABV_FR hFT38 rfl (by assumption : ABV S))) (fun j => by rw [hFT38.x 918 j rfl]; exact hkx.o j) (LXR_FR hFT38 rfl rfl hLX) (by first | assumption | omega) (fun k a b => by rw [hFT38.x 914 k rfl] at b; rw [hFT38.x 915 k rfl]; exact hkk.o k (by omega) b) (fun j => by rw [hFT38.x 942 j rfl]; exact hak.o j) (by have t := hgb.o; unfold AGB at t ⊢; rw [hFT38.x 904 70 rfl, hFT38.x 904 102 rfl, hFT38.x 904 103 rfl, (hFT38.cx 950 rfl _).1, (hFT38.cx 951 rfl _).1, (hFT38.cx 950 rfl _).1, (hFT38.cx 951 rfl _).1]; exact t) _) ?_
    rintro _ T39 ⟨hHT39, w294, rfl, o33, nk33⟩
    have hFT39 : FR md_mo_ruleMeant__p S T39 := FR.tr hFT38 w294 rfl
    show Pl _ _ _ _ _ _ [] _ _
    have F33 := (by assumption : FR md_mo_actingMeant__p T38 T39)
    have O33 : AMX T38 T39 (if Xi S 904 130 < 23 then Xi S 904 130 else 23) := by have t := o33; rw [l30] at t; exact t
    refine y_aload_n rfl rfl ?_
    refine y_iconst rfl ?_
    refine y_pfi rfl rfl rfl rfl ?_
    obtain ⟨U40, eU40⟩ : ∃ T : sS, T = uI T39 904 115 (Int32.ofInt (-1)) := ⟨_, rfl⟩
    rw [← eU40]
    have hHU40 : RI U40 := by rw [eU40]; exact RI_w hHT39
    have hFU40 : FR md_mo_ruleMeant__p S U40 := by rw [eU40]; exact FR.wI hFT39 (mdf_i (r := (904, 905, 115, 116)) (List.mem_of_getElem? (i := 8) rfl) (inR_i (by omega) (by omega) (by omega) (by omega)))
    have w295 : Xi U40 904 115 = (-1) := by rw [eU40]; exact Xi_same (by unfold rg; omega)
    have e38 := eU40
    refine y_aload_n rfl rfl ?_
    have w299 : Xi U40 904 116 = Xi T39 904 116 := (show Xi U40 904 116 = Xi T39 904 116 from by rw [eU40]; exact Xi_ne (by omega))
    have w300 : Xi U40 904 117 = Xi S 904 117 := (show Xi U40 904 117 = Xi T39 904 117 from by rw [eU40]; exact Xi_ne (by omega)).trans ( (show Xi T39 904 117 = Xi T38 904 117 from w294.x _ _ rfl).trans ((show Xi T38 904 117 = Xi S 904 117 from w279.x _ _ rfl)))
    have w303 : Xi U40 904 15 = Xi S 904 15 := (show Xi U40 904 15 = Xi T39 904 15 from by rw [eU40]; exact Xi_ne (by omega)).trans ( (show Xi T39 904 15 = Xi T38 904 15 from w294.x _ _ rfl).trans ((show Xi T38 904 15 = Xi S 904 15 from w279.x _ _ rfl)))
    have w304 : Xi U40 904 32 = Xi S 904 32 := (show Xi U40 904 32 = Xi T39 904 32 from by rw [eU40]; exact Xi_ne (by omega)).trans ( (show Xi T39 904 32 = Xi T38 904 32 from w294.x _ _ rfl).trans ((show Xi T38 904 32 = Xi S 904 32 from w279.x _ _ rfl)))
    have w306 : Xi U40 904 94 = Xi S 904 94 := (show Xi U40 904 94 = Xi T39 904 94 from by rw [eU40]; exact Xi_ne (by omega)).trans ( (show Xi T39 904 94 = Xi T38 904 94 from w294.x _ _ rfl).trans ((show Xi T38 904 94 = Xi S 904 94 from w279.x _ _ rfl)))
    refine y_callV rfl rfl rfl (t_mo_testsMeant__p hHU40 (by first | assumption | exact (LSP_FR hFU40 rfl rfl (by assumption : LSP S))) (by first | assumption | omega) (by first | assumption | exact (RBD_FR hFU40 rfl (by assumption : RBD S))) (by first | assumption | exact (ABV_FR hFU40 rfl (by assumption : ABV S))) (fun j => by rw [hFU40.x 918 j rfl]; exact hkx.o j) (by first | assumption | omega) (LXR_FR hFU40 rfl rfl hLX) (by first | assumption | omega) (by first | assumption | omega) (by first | assumption | omega) (fun k hk => TRK_F hFU40 (SMR_FR hFU40 rfl rfl) rfl rfl (htk.o k (by omega))) _) ?_
    rintro _ T41 ⟨hHT41, w309, rfl, o42⟩
    have hFT41 : FR md_mo_ruleMeant__p S T41 := FR.tr hFU40 w309 rfl
    show Pl _ _ _ _ _ _ [] _ _
    have F42 := (by assumption : FR md_mo_testsMeant__p U40 T41)
    have O42 : TSR md_mo_need__p md_mo_testMeant__p U40 (Xi S 904 94).toNat T41 := by have t := o42; rw [show Xi U40 904 94 = Xi S 904 94 by omega] at t; exact t
    refine y_aload_n rfl rfl ?_
    refine y_gfi rfl rfl rfl rfl rfl ?_
    have w310 : (Xi T41 904 117) = (Xi S 904 117) := (show Xi T41 904 117 = Xi U40 904 117 from w309.x _ _ rfl).trans ( (show Xi U40 904 117 = Xi T39 904 117 from by rw [eU40]; exact Xi_ne (by omega)).trans ( (show Xi T39 904 117 = Xi T38 904 117 from w294.x _ _ rfl).trans ((show Xi T38 904 117 = Xi S 904 117 from w279.x _ _ rfl))))
    rw [w310]
    refine y_aload_n rfl rfl ?_
    refine y_gfi rfl rfl rfl rfl rfl ?_
    have w311 : (Xi T41 904 94) = (Xi S 904 94) := (show Xi T41 904 94 = Xi U40 904 94 from w309.x _ _ rfl).trans ( (show Xi U40 904 94 = Xi T39 904 94 from by rw [eU40]; exact Xi_ne (by omega)).trans ( (show Xi T39 904 94 = Xi T38 904 94 from w294.x _ _ rfl).trans ((show Xi T38 904 94 = Xi S 904 94 from w279.x _ _ rfl))))
    rw [w311]
    refine y_iadd rfl ?_
    refine y_istore_n rfl rfl rfl ?_
    refine y_iconst rfl ?_
    refine y_istore rfl rfl rfl ?_
    have R56 : Hid (RMM S T41 first 0) := ⟨_, _, _, _, F18, N18, O33, F33, e38, O42, F42, rfl⟩
    have w312 : Xi T41 904 102 = Xi S 904 102 := (show Xi T41 904 102 = Xi U40 904 102 from w309.x _ _ rfl).trans ( (show Xi U40 904 102 = Xi T39 904 102 from by rw [eU40]; exact Xi_ne (by omega)).trans ( (show Xi T39 904 102 = Xi T38 904 102 from w294.x _ _ rfl).trans ((show Xi T38 904 102 = Xi S 904 102 from w279.x _ _ rfl))))
    have w313 : Xi T41 904 103 = Xi S 904 103 := (show Xi T41 904 103 = Xi U40 904 103 from w309.x _ _ rfl).trans ( (show Xi U40 904 103 = Xi T39 904 103 from by rw [eU40]; exact Xi_ne (by omega)).trans ( (show Xi T39 904 103 = Xi T38 904 103 from w294.x _ _ rfl).trans ((show Xi T38 904 103 = Xi S 904 103 from w279.x _ _ rfl))))
    have w314 : Xi T41 904 115 = Xi U40 904 115 := (show Xi T41 904 115 = Xi U40 904 115 from w309.x _ _ rfl)
    have w315 : Xi T41 904 116 = Xi T39 904 116 := (show Xi T41 904 116 = Xi U40 904 116 from w309.x _ _ rfl).trans ((show Xi U40 904 116 = Xi T39 904 116 from by rw [eU40]; exact Xi_ne (by omega)))
    have w316 : Xi T41 904 117 = Xi S 904 117 := (show Xi T41 904 117 = Xi U40 904 117 from w309.x _ _ rfl).trans ( (show Xi U40 904 117 = Xi T39 904 117 from by rw [eU40]; exact Xi_ne (by omega)).trans ( (show Xi T39 904 117 = Xi T38 904 117 from w294.x _ _ rfl).trans ((show Xi T38 904 117 = Xi S 904 117 from w279.x _ _ rfl))))
    have w317 : Xi T41 904 125 = Xi S 904 125 := (show Xi T41 904 125 = Xi U40 904 125 from w309.x _ _ rfl).trans ( (show Xi U40 904 125 = Xi T39 904 125 from by rw [eU40]; exact Xi_ne (by omega)).trans ( (show Xi T39 904 125 = Xi T38 904 125 from w294.x _ _ rfl).trans ((show Xi T38 904 125 = Xi S 904 125 from w279.x _ _ rfl))))
    have w318 : Xi T41 904 130 = Xi S 904 130 := (show Xi T41 904 130 = Xi U40 904 130 from w309.x _ _ rfl).trans ( (show Xi U40 904 130 = Xi T39 904 130 from by rw [eU40]; exact Xi_ne (by omega)).trans ( (show Xi T39 904 130 = Xi T38 904 130 from w294.x _ _ rfl).trans ((show Xi T38 904 130 = Xi S 904 130 from w279.x _ _ rfl))))
    have w319 : Xi T41 904 15 = Xi S 904 15 := (show Xi T41 904 15 = Xi U40 904 15 from w309.x _ _ rfl).trans ( (show Xi U40 904 15 = Xi T39 904 15 from by rw [eU40]; exact Xi_ne (by omega)).trans ( (show Xi T39 904 15 = Xi T38 904 15 from w294.x _ _ rfl).trans ((show Xi T38 904 15 = Xi S 904 15 from w279.x _ _ rfl))))
    have w320 : Xi T41 904 32 = Xi S 904 32 := (show Xi T41 904 32 = Xi U40 904 32 from w309.x _ _ rfl).trans ( (show Xi U40 904 32 = Xi T39 904 32 from by rw [eU40]; exact Xi_ne (by omega)).trans ( (show Xi T39 904 32 = Xi T38 904 32 from w294.x _ _ rfl).trans ((show Xi T38 904 32 = Xi S 904 32 from w279.x _ _ rfl))))
    have w321 : Xi T41 904 70 = Xi S 904 70 := (show Xi T41 904 70 = Xi U40 904 70 from w309.x _ _ rfl).trans ( (show Xi U40 904 70 = Xi T39 904 70 from by rw [eU40]; exact Xi_ne (by omega)).trans ( (show Xi T39 904 70 = Xi T38 904 70 from w294.x _ _ rfl).trans ((show Xi T38 904 70 = Xi S 904 70 from w279.x _ _ rfl))))
    have w322 : Xi T41 904 94 = Xi S 904 94 := (show Xi T41 904 94 = Xi U40 904 94 from w309.x _ _ rfl).trans ( (show Xi U40 904 94 = Xi T39 904 94 from by rw [eU40]; exact Xi_ne (by omega)).trans ( (show Xi T39 904 94 = Xi T38 904 94 from w294.x _ _ rfl).trans ((show Xi T38 904 94 = Xi S 904 94 from w279.x _ _ rfl))))
    have w323 : Xi T41 904 98 = Xi S 904 98 := (show Xi T41 904 98 = Xi U40 904 98 from w309.x _ _ rfl).trans ( (show Xi U40 904 98 = Xi T39 904 98 from by rw [eU40]; exact Xi_ne (by omega)).trans ( (show Xi T39 904 98 = Xi T38 904 98 from w294.x _ _ rfl).trans ((show Xi T38 904 98 = Xi S 904 98 from w279.x _ _ rfl))))
    exact Pl_weak (C58 fu (by omega) T41 hHT41 hFT41 ((if 23 < (Xi S 904 130) then 23 else (Xi S 904 130))) (((Xi S 904 117) + (Xi S 904 94))) (0) (by omega) (by omega) (by omega) (by first | exact l58 | exact l30) (by omega) (by omega) (by omega) (by omega) (by omega) (by omega) (by omega) (by omega) (by omega) (by omega) (by first | exact R106 | exact R56)) (by omega) (And.intro rfl (And.intro rfl (And.intro rfl (And.intro rfl (True.intro)))))
  · refine y_iconst rfl ?_
    refine y_goto rfl rfl ?_
    refine y_bipush rfl rfl ?_
    refine y_iload_n rfl rfl ?_
    refine y_callV rfl rfl rfl (t_mo_need__p hH 1 9 first ⟨by omega, by omega⟩ ⟨by omega, by omega⟩ ⟨by omega, by omega⟩ _) ?_
    rintro _ T42 ⟨hHT42, w325, rfl, nt18⟩
    have hFT42 : FR md_mo_ruleMeant__p S T42 := FR.tr hF w325 rfl
    show Pl _ _ _ _ _ _ [] _ _
    have F18 := (by assumption : FR md_mo_need__p S T42)
    have N18 : NT3 T42 = (if Xi S 904 130 < 24 then NT3 S else ntF (NT3 S) 9 (Xi S 908 first.toNat)) := by first | (rw [if_pos (by omega)]; exact nt18.trans (if_neg (by decide))) | (rw [if_neg (by omega)]; exact nt18.trans (if_pos rfl))
    refine y_aload_n rfl rfl ?_
    refine y_gfi rfl rfl rfl rfl rfl ?_
    have w326 : (Xi T42 904 130) = (Xi S 904 130) := (show Xi T42 904 130 = Xi S 904 130 from w325.x _ _ rfl)
    rw [w326]
    refine y_bipush rfl rfl ?_
    refine y_min rfl rfl rfl (by unfold rg; omega) (by unfold rg; omega) ?_
    refine y_istore_n rfl rfl rfl ?_
    have l30 : (if 23 < (Xi S 904 130) then 23 else (Xi S 904 130)) = (if Xi S 904 130 < 23 then Xi S 904 130 else 23) := by have u := F18.x 904 130 rfl; split <;> split <;> omega
    have b30 : 0 ≤ (if 23 < (Xi S 904 130) then 23 else (Xi S 904 130)) ∧ (if 23 < (Xi S 904 130) then 23 else (Xi S 904 130)) ≤ 23 := by rw [l30]; split <;> omega
    refine y_aload_n rfl rfl ?_
    refine y_iload_n rfl rfl ?_
    have w327 : Xi T42 904 102 = Xi S 904 102 := (show Xi T42 904 102 = Xi S 904 102 from w325.x _ _ rfl)
    have w328 : Xi T42 904 103 = Xi S 904 103 := (show Xi T42 904 103 = Xi S 904 103 from w325.x _ _ rfl)
    have w329 : Xi T42 904 115 = Xi S 904 115 := (show Xi T42 904 115 = Xi S 904 115 from w325.x _ _ rfl)
    have w330 : Xi T42 904 116 = Xi S 904 116 := (show Xi T42 904 116 = Xi S 904 116 from w325.x _ _ rfl)
    have w331 : Xi T42 904 117 = Xi S 904 117 := (show Xi T42 904 117 = Xi S 904 117 from w325.x _ _ rfl)
    have w332 : Xi T42 904 125 = Xi S 904 125 := (show Xi T42 904 125 = Xi S 904 125 from w325.x _ _ rfl)
    have w333 : Xi T42 904 130 = Xi S 904 130 := (show Xi T42 904 130 = Xi S 904 130 from w325.x _ _ rfl)
    have w334 : Xi T42 904 15 = Xi S 904 15 := (show Xi T42 904 15 = Xi S 904 15 from w325.x _ _ rfl)
    have w335 : Xi T42 904 32 = Xi S 904 32 := (show Xi T42 904 32 = Xi S 904 32 from w325.x _ _ rfl)
    have w336 : Xi T42 904 70 = Xi S 904 70 := (show Xi T42 904 70 = Xi S 904 70 from w325.x _ _ rfl)
    have w337 : Xi T42 904 94 = Xi S 904 94 := (show Xi T42 904 94 = Xi S 904 94 from w325.x _ _ rfl)
    have w338 : Xi T42 904 98 = Xi S 904 98 := (show Xi T42 904 98 = Xi S 904 98 from w325.x _ _ rfl)
    refine y_callV rfl rfl rfl (t_mo_actingMeant__p hHT42 (if 23 < (Xi S 904 130) then 23 else (Xi S 904 130)) ⟨by omega, by omega⟩ (by first | assumption | exact (LSP_FR hFT42 rfl rfl (by assumption : LSP S))) (by first | assumption | omega) (by first | assumption | exact (RBD_FR hFT42 rfl (by assumption : RBD S))) (by first | assumption | exact (ABV_FR hFT42 rfl (by assumption : ABV S))) (fun j => by rw [hFT42.x 918 j rfl]; exact hkx.o j) (LXR_FR hFT42 rfl rfl hLX) (by first | assumption | omega) (fun k a b => by rw [hFT42.x 914 k rfl] at b; rw [hFT42.x 915 k rfl]; exact hkk.o k (by omega) b) (fun j => by rw [hFT42.x 942 j rfl]; exact hak.o j) (by have t := hgb.o; unfold AGB at t ⊢; rw [hFT42.x 904 70 rfl, hFT42.x 904 102 rfl, hFT42.x 904 103 rfl, (hFT42.cx 950 rfl _).1, (hFT42.cx 951 rfl _).1, (hFT42.cx 950 rfl _).1, (hFT42.cx 951 rfl _).1]; exact t) _) ?_
    rintro _ T43 ⟨hHT43, w340, rfl, o33, nk33⟩
    have hFT43 : FR md_mo_ruleMeant__p S T43 := FR.tr hFT42 w340 rfl
    show Pl _ _ _ _ _ _ [] _ _
    have F33 := (by assumption : FR md_mo_actingMeant__p T42 T43)
    have O33 : AMX T42 T43 (if Xi S 904 130 < 23 then Xi S 904 130 else 23) := by have t := o33; rw [l30] at t; exact t
    refine y_aload_n rfl rfl ?_
    refine y_iconst rfl ?_
    refine y_pfi rfl rfl rfl rfl ?_
    obtain ⟨U44, eU44⟩ : ∃ T : sS, T = uI T43 904 115 (Int32.ofInt (-1)) := ⟨_, rfl⟩
    rw [← eU44]
    have hHU44 : RI U44 := by rw [eU44]; exact RI_w hHT43
    have hFU44 : FR md_mo_ruleMeant__p S U44 := by rw [eU44]; exact FR.wI hFT43 (mdf_i (r := (904, 905, 115, 116)) (List.mem_of_getElem? (i := 8) rfl) (inR_i (by omega) (by omega) (by omega) (by omega)))
    have w341 : Xi U44 904 115 = (-1) := by rw [eU44]; exact Xi_same (by unfold rg; omega)
    have e38 := eU44
    refine y_aload_n rfl rfl ?_
    have w345 : Xi U44 904 116 = Xi T43 904 116 := (show Xi U44 904 116 = Xi T43 904 116 from by rw [eU44]; exact Xi_ne (by omega))
    have w346 : Xi U44 904 117 = Xi S 904 117 := (show Xi U44 904 117 = Xi T43 904 117 from by rw [eU44]; exact Xi_ne (by omega)).trans ( (show Xi T43 904 117 = Xi T42 904 117 from w340.x _ _ rfl).trans ((show Xi T42 904 117 = Xi S 904 117 from w325.x _ _ rfl)))
    have w349 : Xi U44 904 15 = Xi S 904 15 := (show Xi U44 904 15 = Xi T43 904 15 from by rw [eU44]; exact Xi_ne (by omega)).trans ( (show Xi T43 904 15 = Xi T42 904 15 from w340.x _ _ rfl).trans ((show Xi T42 904 15 = Xi S 904 15 from w325.x _ _ rfl)))
    have w350 : Xi U44 904 32 = Xi S 904 32 := (show Xi U44 904 32 = Xi T43 904 32 from by rw [eU44]; exact Xi_ne (by omega)).trans ( (show Xi T43 904 32 = Xi T42 904 32 from w340.x _ _ rfl).trans ((show Xi T42 904 32 = Xi S 904 32 from w325.x _ _ rfl)))
    have w352 : Xi U44 904 94 = Xi S 904 94 := (show Xi U44 904 94 = Xi T43 904 94 from by rw [eU44]; exact Xi_ne (by omega)).trans ( (show Xi T43 904 94 = Xi T42 904 94 from w340.x _ _ rfl).trans ((show Xi T42 904 94 = Xi S 904 94 from w325.x _ _ rfl)))
    refine y_callV rfl rfl rfl (t_mo_testsMeant__p hHU44 (by first | assumption | exact (LSP_FR hFU44 rfl rfl (by assumption : LSP S))) (by first | assumption | omega) (by first | assumption | exact (RBD_FR hFU44 rfl (by assumption : RBD S))) (by first | assumption | exact (ABV_FR hFU44 rfl (by assumption : ABV S))) (fun j => by rw [hFU44.x 918 j rfl]; exact hkx.o j) (by first | assumption | omega) (LXR_FR hFU44 rfl rfl hLX) (by first | assumption | omega) (by first | assumption | omega) (by first | assumption | omega) (fun k hk => TRK_F hFU44 (SMR_FR hFU44 rfl rfl) rfl rfl (htk.o k (by omega))) _) ?_
    rintro _ T45 ⟨hHT45, w355, rfl, o42⟩
    have hFT45 : FR md_mo_ruleMeant__p S T45 := FR.tr hFU44 w355 rfl
    show Pl _ _ _ _ _ _ [] _ _
    have F42 := (by assumption : FR md_mo_testsMeant__p U44 T45)
    have O42 : TSR md_mo_need__p md_mo_testMeant__p U44 (Xi S 904 94).toNat T45 := by have t := o42; rw [show Xi U44 904 94 = Xi S 904 94 by omega] at t; exact t
    refine y_aload_n rfl rfl ?_
    refine y_gfi rfl rfl rfl rfl rfl ?_
    have w356 : (Xi T45 904 117) = (Xi S 904 117) := (show Xi T45 904 117 = Xi U44 904 117 from w355.x _ _ rfl).trans ( (show Xi U44 904 117 = Xi T43 904 117 from by rw [eU44]; exact Xi_ne (by omega)).trans ( (show Xi T43 904 117 = Xi T42 904 117 from w340.x _ _ rfl).trans ((show Xi T42 904 117 = Xi S 904 117 from w325.x _ _ rfl))))
    rw [w356]
    refine y_aload_n rfl rfl ?_
    refine y_gfi rfl rfl rfl rfl rfl ?_
    have w357 : (Xi T45 904 94) = (Xi S 904 94) := (show Xi T45 904 94 = Xi U44 904 94 from w355.x _ _ rfl).trans ( (show Xi U44 904 94 = Xi T43 904 94 from by rw [eU44]; exact Xi_ne (by omega)).trans ( (show Xi T43 904 94 = Xi T42 904 94 from w340.x _ _ rfl).trans ((show Xi T42 904 94 = Xi S 904 94 from w325.x _ _ rfl))))
    rw [w357]
    refine y_iadd rfl ?_
    refine y_istore_n rfl rfl rfl ?_
    refine y_iconst rfl ?_
    refine y_istore rfl rfl rfl ?_
    have R56 : Hid (RMM S T45 first 0) := ⟨_, _, _, _, F18, N18, O33, F33, e38, O42, F42, rfl⟩
    have w358 : Xi T45 904 102 = Xi S 904 102 := (show Xi T45 904 102 = Xi U44 904 102 from w355.x _ _ rfl).trans ( (show Xi U44 904 102 = Xi T43 904 102 from by rw [eU44]; exact Xi_ne (by omega)).trans ( (show Xi T43 904 102 = Xi T42 904 102 from w340.x _ _ rfl).trans ((show Xi T42 904 102 = Xi S 904 102 from w325.x _ _ rfl))))
    have w359 : Xi T45 904 103 = Xi S 904 103 := (show Xi T45 904 103 = Xi U44 904 103 from w355.x _ _ rfl).trans ( (show Xi U44 904 103 = Xi T43 904 103 from by rw [eU44]; exact Xi_ne (by omega)).trans ( (show Xi T43 904 103 = Xi T42 904 103 from w340.x _ _ rfl).trans ((show Xi T42 904 103 = Xi S 904 103 from w325.x _ _ rfl))))
    have w360 : Xi T45 904 115 = Xi U44 904 115 := (show Xi T45 904 115 = Xi U44 904 115 from w355.x _ _ rfl)
    have w361 : Xi T45 904 116 = Xi T43 904 116 := (show Xi T45 904 116 = Xi U44 904 116 from w355.x _ _ rfl).trans ((show Xi U44 904 116 = Xi T43 904 116 from by rw [eU44]; exact Xi_ne (by omega)))
    have w362 : Xi T45 904 117 = Xi S 904 117 := (show Xi T45 904 117 = Xi U44 904 117 from w355.x _ _ rfl).trans ( (show Xi U44 904 117 = Xi T43 904 117 from by rw [eU44]; exact Xi_ne (by omega)).trans ( (show Xi T43 904 117 = Xi T42 904 117 from w340.x _ _ rfl).trans ((show Xi T42 904 117 = Xi S 904 117 from w325.x _ _ rfl))))
    have w363 : Xi T45 904 125 = Xi S 904 125 := (show Xi T45 904 125 = Xi U44 904 125 from w355.x _ _ rfl).trans ( (show Xi U44 904 125 = Xi T43 904 125 from by rw [eU44]; exact Xi_ne (by omega)).trans ( (show Xi T43 904 125 = Xi T42 904 125 from w340.x _ _ rfl).trans ((show Xi T42 904 125 = Xi S 904 125 from w325.x _ _ rfl))))
    have w364 : Xi T45 904 130 = Xi S 904 130 := (show Xi T45 904 130 = Xi U44 904 130 from w355.x _ _ rfl).trans ( (show Xi U44 904 130 = Xi T43 904 130 from by rw [eU44]; exact Xi_ne (by omega)).trans ( (show Xi T43 904 130 = Xi T42 904 130 from w340.x _ _ rfl).trans ((show Xi T42 904 130 = Xi S 904 130 from w325.x _ _ rfl))))
    have w365 : Xi T45 904 15 = Xi S 904 15 := (show Xi T45 904 15 = Xi U44 904 15 from w355.x _ _ rfl).trans ( (show Xi U44 904 15 = Xi T43 904 15 from by rw [eU44]; exact Xi_ne (by omega)).trans ( (show Xi T43 904 15 = Xi T42 904 15 from w340.x _ _ rfl).trans ((show Xi T42 904 15 = Xi S 904 15 from w325.x _ _ rfl))))
    have w366 : Xi T45 904 32 = Xi S 904 32 := (show Xi T45 904 32 = Xi U44 904 32 from w355.x _ _ rfl).trans ( (show Xi U44 904 32 = Xi T43 904 32 from by rw [eU44]; exact Xi_ne (by omega)).trans ( (show Xi T43 904 32 = Xi T42 904 32 from w340.x _ _ rfl).trans ((show Xi T42 904 32 = Xi S 904 32 from w325.x _ _ rfl))))
    have w367 : Xi T45 904 70 = Xi S 904 70 := (show Xi T45 904 70 = Xi U44 904 70 from w355.x _ _ rfl).trans ( (show Xi U44 904 70 = Xi T43 904 70 from by rw [eU44]; exact Xi_ne (by omega)).trans ( (show Xi T43 904 70 = Xi T42 904 70 from w340.x _ _ rfl).trans ((show Xi T42 904 70 = Xi S 904 70 from w325.x _ _ rfl))))
    have w368 : Xi T45 904 94 = Xi S 904 94 := (show Xi T45 904 94 = Xi U44 904 94 from w355.x _ _ rfl).trans ( (show Xi U44 904 94 = Xi T43 904 94 from by rw [eU44]; exact Xi_ne (by omega)).trans ( (show Xi T43 904 94 = Xi T42 904 94 from w340.x _ _ rfl).trans ((show Xi T42 904 94 = Xi S 904 94 from w325.x _ _ rfl))))
    have w369 : Xi T45 904 98 = Xi S 904 98 := (show Xi T45 904 98 = Xi U44 904 98 from w355.x _ _ rfl).trans ( (show Xi U44 904 98 = Xi T43 904 98 from by rw [eU44]; exact Xi_ne (by omega)).trans ( (show Xi T43 904 98 = Xi T42 904 98 from w340.x _ _ rfl).trans ((show Xi T42 904 98 = Xi S 904 98 from w325.x _ _ rfl))))
    exact Pl_weak (C58 fu (by omega) T45 hHT45 hFT45 ((if 23 < (Xi S 904 130) then 23 else (Xi S 904 130))) (((Xi S 904 117) + (Xi S 904 94))) (0) (by omega) (by omega) (by omega) (by first | exact l58 | exact l30) (by omega) (by omega) (by omega) (by omega) (by omega) (by omega) (by omega) (by omega) (by omega) (by omega) (by first | exact R106 | exact R56)) (by omega) (And.intro rfl (And.intro rfl (And.intro rfl (And.intro rfl (True.intro)))))
end
section
def md_mo_asked__3 : List rec := [(904, 905, 64, 65), (904, 905, 104, 105), (904, 905, 105, 106), (904, 905, 106, 107), (904, 905, 108, 109), (904, 905, 109, 110), (904, 905, 110, 111), (904, 905, 112, 113), (904, 905, 113, 114), (904, 905, 115, 116), (904, 905, 116, 117), (904, 905, 117, 118), (904, 905, 125, 126), (904, 905, 128, 129), (904, 905, 129, 130), (904, 905, 130, 131), (904, 905, 142, 143), (904, 905, 144, 145), (904, 905, 146, 147), (904, 905, 147, 148), (904, 905, 150, 151), (904, 905, 151, 152), (904, 905, 153, 154), (904, 905, 154, 155), (904, 905, 156, 157), (904, 905, 157, 158), (904, 905, 158, 159), (904, 905, 160, 161), (966, 967, 0, 100000), (967, 968, 0, 100000), (968, 969, 0, 100000), (969, 970, 0, 100000), (970, 971, 0, 100000), (971, 972, 0, 100000), (972, 973, 0, 100000), (973, 974, 0, 100000), (974, 975, 0, 100000), (975, 976, 0, 100000), (976, 977, 0, 100000), (977, 978, 0, 100000), (978, 979, 0, 100000), (979, 980, 0, 100000), (980, 981, 0, 100000), (981, 982, 0, 100000), (982, 983, 0, 100000), (983, 984, 0, 100000), (984, 985, 0, 100000), (985, 986, 0, 100000), (986, 987, 0, 100000), (987, 988, 0, 100000), (988, 989, 0, 100000), (989, 990, 0, 100000), (990, 991, 0, 100000), (991, 992, 0, 100000), (992, 993, 0, 100000), (993, 994, 0, 100000), (994, 995, 0, 100000), (1000, 1001, 0, 1)]
abbrev Q_mo_asked__3 (S : sS) (first : Int) : pst := fun r S1 => RI S1 ∧ FR md_mo_asked__3 S S1 ∧ (r = none ∧ (∃ P : sS, FR lA S P ∧ (Xi P 904 106 = 0 ∧ Xi P 904 108 = 0 ∧ Xi P 904 115 = -1 ∧ Xi P 904 116 = -1) ∧ RML P S1 first))
set_option maxRecDepth 100000 in
theorem t_mo_asked__3 {S : sS} (hH : RI S) (first : Int) (hfirst : 0 ≤ first ∧ first ≤ 5001) (hLS : LSP S) (h15 : 0 ≤ Xi S 904 15) (hRB : RBD S) (hB : ABV S) (hkx : Hid (∀ j : Nat, -1 ≤ Xi S 918 j ∧ Xi S 918 j ≤ 15)) (hLX : LXR S) (hp32 : 0 ≤ Xi S 904 32 ∧ Xi S 904 32 ≤ 12) (hkk : Hid (∀ k : Nat, (k : Int) < Xi S 904 15 → Xi S 914 k ≤ 1 → Xi S 915 k ≤ 15)) (hak : Hid (∀ j : Nat, -2 ≤ Xi S 942 j ∧ Xi S 942 j ≤ 15)) (hb6 : BYT S 906) (hlx7 : Hid (∀ j : Nat, (j : Int) < Xi S 904 15 → Xi S 914 j = 7 → 0 ≤ Xi S 915 j ∧ Xi S 915 j ≤ 11)) (hgb : Hid (AGB S)) (h94 : 0 ≤ Xi S 904 94 ∧ Xi S 904 94 ≤ 1700) (h98 : 0 ≤ Xi S 904 98 ∧ Xi S 904 98 ≤ 1700) (h117 : 0 ≤ Xi S 904 117 ∧ Xi S 904 117 + Xi S 904 94 + Xi S 904 98 ≤ 2400) (h125 : 0 ≤ Xi S 904 125 ∧ Xi S 904 125 + Xi S 904 98 ≤ 2000) (h130 : 0 ≤ Xi S 904 130 ∧ Xi S 904 130 ≤ 24) (htk : Hid (∀ k : Nat, (k : Int) < Xi S 904 94 → TRK S k)) (hpk : Hid (∀ k : Nat, (k : Int) < Xi S 904 98 → PKB S k)) (hs : 3 ≤ Xi S 904 70 ∧ Xi S 904 70 ≤ 6) (d : Nat) : Mp lay0 (d + 13) m_mo_asked [.ref 904, iv first] S (Q_mo_asked__3 S first) := by
  refine Mp_R rfl rfl (fun fu => ?_)
  have hF : FR md_mo_asked__3 S S := FR.rf
  have w1 : -2147483648 ≤ Xi S 904 102 ∧ Xi S 904 102 ≤ 2147483647 := Xi_rgI
  have w2 : -2147483648 ≤ Xi S 904 103 ∧ Xi S 904 103 ≤ 2147483647 := Xi_rgI
  have w3 : -2147483648 ≤ Xi S 904 106 ∧ Xi S 904 106 ≤ 2147483647 := Xi_rgI
  have w4 : -2147483648 ≤ Xi S 904 108 ∧ Xi S 904 108 ≤ 2147483647 := Xi_rgI
  have w5 : -2147483648 ≤ Xi S 904 115 ∧ Xi S 904 115 ≤ 2147483647 := Xi_rgI
  have w6 : -2147483648 ≤ Xi S 904 116 ∧ Xi S 904 116 ≤ 2147483647 := Xi_rgI
  have w7 : -2147483648 ≤ Xi S 904 117 ∧ Xi S 904 117 ≤ 2147483647 := Xi_rgI
  have w8 : -2147483648 ≤ Xi S 904 125 ∧ Xi S 904 125 ≤ 2147483647 := Xi_rgI
  have w9 : -2147483648 ≤ Xi S 904 130 ∧ Xi S 904 130 ≤ 2147483647 := Xi_rgI
  have w10 : -2147483648 ≤ Xi S 904 15 ∧ Xi S 904 15 ≤ 2147483647 := Xi_rgI
  have w11 : -2147483648 ≤ Xi S 904 32 ∧ Xi S 904 32 ≤ 2147483647 := Xi_rgI
  have w12 : -2147483648 ≤ Xi S 904 70 ∧ Xi S 904 70 ≤ 2147483647 := Xi_rgI
  have w13 : -2147483648 ≤ Xi S 904 94 ∧ Xi S 904 94 ≤ 2147483647 := Xi_rgI
  have w14 : -2147483648 ≤ Xi S 904 98 ∧ Xi S 904 98 ≤ 2147483647 := Xi_rgI
  refine y_aload_n rfl rfl ?_
  refine y_iconst rfl ?_
  refine y_pfi rfl rfl rfl rfl ?_
  obtain ⟨U1, eU1⟩ : ∃ T : sS, T = uI S 904 106 (Int32.ofInt 0) := ⟨_, rfl⟩
  rw [← eU1]
  have hHU1 : RI U1 := by rw [eU1]; exact RI_w hH
  have hFU1 : FR md_mo_asked__3 S U1 := by rw [eU1]; exact FR.wI hF (mdf_i (r := (904, 905, 106, 107)) (List.mem_of_getElem? (i := 3) rfl) (inR_i (by omega) (by omega) (by omega) (by omega)))
  have w15 : Xi U1 904 106 = 0 := by rw [eU1]; exact Xi_same (by unfold rg; omega)
  have FA2 : FR lA S U1 := by rw [eU1]; exact FR.wI FR.rf (mdf_i (r := (904, 905, 106, 107)) (List.mem_of_getElem? (i := 0) rfl) (inR_i (by omega) (by omega) (by omega) (by omega)))
  refine y_aload_n rfl rfl ?_
  refine y_iconst rfl ?_
  refine y_pfi rfl rfl rfl rfl ?_
  obtain ⟨U2, eU2⟩ : ∃ T : sS, T = uI U1 904 108 (Int32.ofInt 0) := ⟨_, rfl⟩
  rw [← eU2]
  have hHU2 : RI U2 := by rw [eU2]; exact RI_w hHU1
  have hFU2 : FR md_mo_asked__3 S U2 := by rw [eU2]; exact FR.wI hFU1 (mdf_i (r := (904, 905, 108, 109)) (List.mem_of_getElem? (i := 4) rfl) (inR_i (by omega) (by omega) (by omega) (by omega)))
  have w16 : Xi U2 904 108 = 0 := by rw [eU2]; exact Xi_same (by unfold rg; omega)
  have FA7 : FR lA S U2 := by rw [eU2]; exact FR.wI FA2 (mdf_i (r := (904, 905, 108, 109)) (List.mem_of_getElem? (i := 1) rfl) (inR_i (by omega) (by omega) (by omega) (by omega)))
  refine y_aload_n rfl rfl ?_
  refine y_iconst rfl ?_
  refine y_pfi rfl rfl rfl rfl ?_
  obtain ⟨U3, eU3⟩ : ∃ T : sS, T = uI U2 904 115 (Int32.ofInt (-1)) := ⟨_, rfl⟩
  rw [← eU3]
  have hHU3 : RI U3 := by rw [eU3]; exact RI_w hHU2
  have hFU3 : FR md_mo_asked__3 S U3 := by rw [eU3]; exact FR.wI hFU2 (mdf_i (r := (904, 905, 115, 116)) (List.mem_of_getElem? (i := 9) rfl) (inR_i (by omega) (by omega) (by omega) (by omega)))
  have w17 : Xi U3 904 115 = (-1) := by rw [eU3]; exact Xi_same (by unfold rg; omega)
  have FA12 : FR lA S U3 := by rw [eU3]; exact FR.wI FA7 (mdf_i (r := (904, 905, 115, 116)) (List.mem_of_getElem? (i := 2) rfl) (inR_i (by omega) (by omega) (by omega) (by omega)))
  refine y_aload_n rfl rfl ?_
  refine y_iconst rfl ?_
  refine y_pfi rfl rfl rfl rfl ?_
  obtain ⟨U4, eU4⟩ : ∃ T : sS, T = uI U3 904 116 (Int32.ofInt (-1)) := ⟨_, rfl⟩
  rw [← eU4]
  have hHU4 : RI U4 := by rw [eU4]; exact RI_w hHU3
  have hFU4 : FR md_mo_asked__3 S U4 := by rw [eU4]; exact FR.wI hFU3 (mdf_i (r := (904, 905, 116, 117)) (List.mem_of_getElem? (i := 10) rfl) (inR_i (by omega) (by omega) (by omega) (by omega)))
  have w18 : Xi U4 904 116 = (-1) := by rw [eU4]; exact Xi_same (by unfold rg; omega)
  have FA17 : FR lA S U4 := by rw [eU4]; exact FR.wI FA12 (mdf_i (r := (904, 905, 116, 117)) (List.mem_of_getElem? (i := 3) rfl) (inR_i (by omega) (by omega) (by omega) (by omega)))
  refine y_aload_n rfl rfl ?_
  refine y_gfi rfl rfl rfl rfl rfl ?_
  have w19 : (Xi U4 904 70) = (Xi S 904 70) := (show Xi U4 904 70 = Xi U3 904 70 from by rw [eU4]; exact Xi_ne (by omega)).trans ( (show Xi U3 904 70 = Xi U2 904 70 from by rw [eU3]; exact Xi_ne (by omega)).trans ( (show Xi U2 904 70 = Xi U1 904 70 from by rw [eU2]; exact Xi_ne (by omega)).trans ((show Xi U1 904 70 = Xi S 904 70 from by rw [eU1]; exact Xi_ne (by omega)))))
  rw [w19]
  refine y_tsw rfl rfl rfl rfl (by unfold rg; omega) (fun w20 => ?_) (fun ii tt hii w20 => ?_)
  · refine y_aload_n rfl rfl ?_
    refine y_iload_n rfl rfl ?_
    have w21 : Xi U4 904 102 = Xi S 904 102 := (show Xi U4 904 102 = Xi U3 904 102 from by rw [eU4]; exact Xi_ne (by omega)).trans ( (show Xi U3 904 102 = Xi U2 904 102 from by rw [eU3]; exact Xi_ne (by omega)).trans ( (show Xi U2 904 102 = Xi U1 904 102 from by rw [eU2]; exact Xi_ne (by omega)).trans ((show Xi U1 904 102 = Xi S 904 102 from by rw [eU1]; exact Xi_ne (by omega)))))
    have w22 : Xi U4 904 103 = Xi S 904 103 := (show Xi U4 904 103 = Xi U3 904 103 from by rw [eU4]; exact Xi_ne (by omega)).trans ( (show Xi U3 904 103 = Xi U2 904 103 from by rw [eU3]; exact Xi_ne (by omega)).trans ( (show Xi U2 904 103 = Xi U1 904 103 from by rw [eU2]; exact Xi_ne (by omega)).trans ((show Xi U1 904 103 = Xi S 904 103 from by rw [eU1]; exact Xi_ne (by omega)))))
    have w23 : Xi U4 904 106 = Xi U1 904 106 := (show Xi U4 904 106 = Xi U3 904 106 from by rw [eU4]; exact Xi_ne (by omega)).trans ( (show Xi U3 904 106 = Xi U2 904 106 from by rw [eU3]; exact Xi_ne (by omega)).trans ((show Xi U2 904 106 = Xi U1 904 106 from by rw [eU2]; exact Xi_ne (by omega))))
    have w24 : Xi U4 904 108 = Xi U2 904 108 := (show Xi U4 904 108 = Xi U3 904 108 from by rw [eU4]; exact Xi_ne (by omega)).trans ((show Xi U3 904 108 = Xi U2 904 108 from by rw [eU3]; exact Xi_ne (by omega)))
    have w25 : Xi U4 904 115 = Xi U3 904 115 := (show Xi U4 904 115 = Xi U3 904 115 from by rw [eU4]; exact Xi_ne (by omega))
    have w26 : Xi U4 904 117 = Xi S 904 117 := (show Xi U4 904 117 = Xi U3 904 117 from by rw [eU4]; exact Xi_ne (by omega)).trans ( (show Xi U3 904 117 = Xi U2 904 117 from by rw [eU3]; exact Xi_ne (by omega)).trans ( (show Xi U2 904 117 = Xi U1 904 117 from by rw [eU2]; exact Xi_ne (by omega)).trans ((show Xi U1 904 117 = Xi S 904 117 from by rw [eU1]; exact Xi_ne (by omega)))))
    have w27 : Xi U4 904 125 = Xi S 904 125 := (show Xi U4 904 125 = Xi U3 904 125 from by rw [eU4]; exact Xi_ne (by omega)).trans ( (show Xi U3 904 125 = Xi U2 904 125 from by rw [eU3]; exact Xi_ne (by omega)).trans ( (show Xi U2 904 125 = Xi U1 904 125 from by rw [eU2]; exact Xi_ne (by omega)).trans ((show Xi U1 904 125 = Xi S 904 125 from by rw [eU1]; exact Xi_ne (by omega)))))
    have w28 : Xi U4 904 130 = Xi S 904 130 := (show Xi U4 904 130 = Xi U3 904 130 from by rw [eU4]; exact Xi_ne (by omega)).trans ( (show Xi U3 904 130 = Xi U2 904 130 from by rw [eU3]; exact Xi_ne (by omega)).trans ( (show Xi U2 904 130 = Xi U1 904 130 from by rw [eU2]; exact Xi_ne (by omega)).trans ((show Xi U1 904 130 = Xi S 904 130 from by rw [eU1]; exact Xi_ne (by omega)))))
    have w29 : Xi U4 904 15 = Xi S 904 15 := (show Xi U4 904 15 = Xi U3 904 15 from by rw [eU4]; exact Xi_ne (by omega)).trans ( (show Xi U3 904 15 = Xi U2 904 15 from by rw [eU3]; exact Xi_ne (by omega)).trans ( (show Xi U2 904 15 = Xi U1 904 15 from by rw [eU2]; exact Xi_ne (by omega)).trans ((show Xi U1 904 15 = Xi S 904 15 from by rw [eU1]; exact Xi_ne (by omega)))))
    have w30 : Xi U4 904 32 = Xi S 904 32 := (show Xi U4 904 32 = Xi U3 904 32 from by rw [eU4]; exact Xi_ne (by omega)).trans ( (show Xi U3 904 32 = Xi U2 904 32 from by rw [eU3]; exact Xi_ne (by omega)).trans ( (show Xi U2 904 32 = Xi U1 904 32 from by rw [eU2]; exact Xi_ne (by omega)).trans ((show Xi U1 904 32 = Xi S 904 32 from by rw [eU1]; exact Xi_ne (by omega)))))
    have w31 : Xi U4 904 70 = Xi S 904 70 := (show Xi U4 904 70 = Xi U3 904 70 from by rw [eU4]; exact Xi_ne (by omega)).trans ( (show Xi U3 904 70 = Xi U2 904 70 from by rw [eU3]; exact Xi_ne (by omega)).trans ( (show Xi U2 904 70 = Xi U1 904 70 from by rw [eU2]; exact Xi_ne (by omega)).trans ((show Xi U1 904 70 = Xi S 904 70 from by rw [eU1]; exact Xi_ne (by omega)))))
    have w32 : Xi U4 904 94 = Xi S 904 94 := (show Xi U4 904 94 = Xi U3 904 94 from by rw [eU4]; exact Xi_ne (by omega)).trans ( (show Xi U3 904 94 = Xi U2 904 94 from by rw [eU3]; exact Xi_ne (by omega)).trans ( (show Xi U2 904 94 = Xi U1 904 94 from by rw [eU2]; exact Xi_ne (by omega)).trans ((show Xi U1 904 94 = Xi S 904 94 from by rw [eU1]; exact Xi_ne (by omega)))))
    have w33 : Xi U4 904 98 = Xi S 904 98 := (show Xi U4 904 98 = Xi U3 904 98 from by rw [eU4]; exact Xi_ne (by omega)).trans ( (show Xi U3 904 98 = Xi U2 904 98 from by rw [eU3]; exact Xi_ne (by omega)).trans ( (show Xi U2 904 98 = Xi U1 904 98 from by rw [eU2]; exact Xi_ne (by omega)).trans ((show Xi U1 904 98 = Xi S 904 98 from by rw [eU1]; exact Xi_ne (by omega)))))
    refine y_callV rfl rfl rfl (t_mo_ruleMeant__p hHU4 first ⟨by omega, by omega⟩ (by first | assumption | exact (LSP_FR hFU4 rfl rfl (by assumption : LSP S))) (by first | assumption | omega) (by first | assumption | exact (RBD_FR hFU4 rfl (by assumption : RBD S))) (by first | assumption | exact (ABV_FR hFU4 rfl (by assumption : ABV S))) (fun j => by rw [FA17.x 918 j rfl]; exact hkx.o j) (LXR_FR FA17 rfl rfl hLX) (by first | assumption | omega) (fun k a b => by rw [FA17.x 914 k rfl] at b; rw [FA17.x 915 k rfl]; exact hkk.o k (by omega) b) (fun j => by rw [FA17.x 942 j rfl]; exact hak.o j) (BYT_R FA17 rfl hb6) (fun j => by rw [FA17.x 914 j rfl, FA17.x 915 j rfl, FA17.x 904 15 rfl]; exact hlx7.o j) (by have t := hgb.o; unfold AGB at t ⊢; rw [FA17.x 904 70 rfl, FA17.x 904 102 rfl, FA17.x 904 103 rfl, (FA17.cx 950 rfl _).1, (FA17.cx 951 rfl _).1, (FA17.cx 950 rfl _).1, (FA17.cx 951 rfl _).1]; exact t) (by first | assumption | omega) (by first | assumption | omega) (by first | assumption | omega) (by first | assumption | omega) (by first | assumption | omega) (fun k hk => TRK_F FA17 (SMR_FR FA17 rfl rfl) rfl rfl (htk.o k (by omega))) (fun k hk => PKB_F FA17 (SMR_FR FA17 rfl rfl) rfl rfl rfl (hpk.o k (by omega))) _) ?_
    rintro _ T5 ⟨hHT5, w35, rfl, o528⟩
    have hFT5 : FR md_mo_asked__3 S T5 := FR.tr hFU4 w35 rfl
    show Pl _ _ _ _ _ _ [] _ _
    have K528 : True := trivial
    have z528 : Xi U4 904 106 = 0 ∧ Xi U4 904 108 = 0 ∧ Xi U4 904 115 = -1 ∧ Xi U4 904 116 = -1 := ⟨by omega, by omega, by omega, by omega⟩
    refine y_return rfl rfl ?_
    have w38 : Xi T5 904 108 = Xi U2 904 108 := (show Xi T5 904 108 = Xi U4 904 108 from w35.x _ _ rfl).trans ( (show Xi U4 904 108 = Xi U3 904 108 from by rw [eU4]; exact Xi_ne (by omega)).trans ((show Xi U3 904 108 = Xi U2 904 108 from by rw [eU3]; exact Xi_ne (by omega))))
    exact ⟨hHT5, hFT5, rfl, (by first | (have t := K528; exact ⟨_, FA17, z528, o528⟩) | (exfalso; omega))⟩
  · match ii, hii with
    | 0, hii =>
      cases hii
      have w44 : (Xi S 904 70) = 0 := by simpa using w20
      exfalso; omega
    | 1, hii =>
      cases hii
      have w45 : (Xi S 904 70) = 1 := by simpa using w20
      exfalso; omega
    | 2, hii =>
      cases hii
      have w46 : (Xi S 904 70) = 2 := by simpa using w20
      exfalso; omega
    | 3, hii =>
      cases hii
      have w47 : (Xi S 904 70) = 3 := by simpa using w20
      refine y_aload_n rfl rfl ?_
      refine y_iload_n rfl rfl ?_
      have w48 : Xi U4 904 102 = Xi S 904 102 := (show Xi U4 904 102 = Xi U3 904 102 from by rw [eU4]; exact Xi_ne (by omega)).trans ( (show Xi U3 904 102 = Xi U2 904 102 from by rw [eU3]; exact Xi_ne (by omega)).trans ( (show Xi U2 904 102 = Xi U1 904 102 from by rw [eU2]; exact Xi_ne (by omega)).trans ((show Xi U1 904 102 = Xi S 904 102 from by rw [eU1]; exact Xi_ne (by omega)))))
      have w49 : Xi U4 904 103 = Xi S 904 103 := (show Xi U4 904 103 = Xi U3 904 103 from by rw [eU4]; exact Xi_ne (by omega)).trans ( (show Xi U3 904 103 = Xi U2 904 103 from by rw [eU3]; exact Xi_ne (by omega)).trans ( (show Xi U2 904 103 = Xi U1 904 103 from by rw [eU2]; exact Xi_ne (by omega)).trans ((show Xi U1 904 103 = Xi S 904 103 from by rw [eU1]; exact Xi_ne (by omega)))))
      have w50 : Xi U4 904 106 = Xi U1 904 106 := (show Xi U4 904 106 = Xi U3 904 106 from by rw [eU4]; exact Xi_ne (by omega)).trans ( (show Xi U3 904 106 = Xi U2 904 106 from by rw [eU3]; exact Xi_ne (by omega)).trans ((show Xi U2 904 106 = Xi U1 904 106 from by rw [eU2]; exact Xi_ne (by omega))))
      have w51 : Xi U4 904 108 = Xi U2 904 108 := (show Xi U4 904 108 = Xi U3 904 108 from by rw [eU4]; exact Xi_ne (by omega)).trans ((show Xi U3 904 108 = Xi U2 904 108 from by rw [eU3]; exact Xi_ne (by omega)))
      have w52 : Xi U4 904 115 = Xi U3 904 115 := (show Xi U4 904 115 = Xi U3 904 115 from by rw [eU4]; exact Xi_ne (by omega))
      have w53 : Xi U4 904 117 = Xi S 904 117 := (show Xi U4 904 117 = Xi U3 904 117 from by rw [eU4]; exact Xi_ne (by omega)).trans ( (show Xi U3 904 117 = Xi U2 904 117 from by rw [eU3]; exact Xi_ne (by omega)).trans ( (show Xi U2 904 117 = Xi U1 904 117 from by rw [eU2]; exact Xi_ne (by omega)).trans ((show Xi U1 904 117 = Xi S 904 117 from by rw [eU1]; exact Xi_ne (by omega)))))
      have w54 : Xi U4 904 125 = Xi S 904 125 := (show Xi U4 904 125 = Xi U3 904 125 from by rw [eU4]; exact Xi_ne (by omega)).trans ( (show Xi U3 904 125 = Xi U2 904 125 from by rw [eU3]; exact Xi_ne (by omega)).trans ( (show Xi U2 904 125 = Xi U1 904 125 from by rw [eU2]; exact Xi_ne (by omega)).trans ((show Xi U1 904 125 = Xi S 904 125 from by rw [eU1]; exact Xi_ne (by omega)))))
      have w55 : Xi U4 904 130 = Xi S 904 130 := (show Xi U4 904 130 = Xi U3 904 130 from by rw [eU4]; exact Xi_ne (by omega)).trans ( (show Xi U3 904 130 = Xi U2 904 130 from by rw [eU3]; exact Xi_ne (by omega)).trans ( (show Xi U2 904 130 = Xi U1 904 130 from by rw [eU2]; exact Xi_ne (by omega)).trans ((show Xi U1 904 130 = Xi S 904 130 from by rw [eU1]; exact Xi_ne (by omega)))))
      have w56 : Xi U4 904 15 = Xi S 904 15 := (show Xi U4 904 15 = Xi U3 904 15 from by rw [eU4]; exact Xi_ne (by omega)).trans ( (show Xi U3 904 15 = Xi U2 904 15 from by rw [eU3]; exact Xi_ne (by omega)).trans ( (show Xi U2 904 15 = Xi U1 904 15 from by rw [eU2]; exact Xi_ne (by omega)).trans ((show Xi U1 904 15 = Xi S 904 15 from by rw [eU1]; exact Xi_ne (by omega)))))
      have w57 : Xi U4 904 32 = Xi S 904 32 := (show Xi U4 904 32 = Xi U3 904 32 from by rw [eU4]; exact Xi_ne (by omega)).trans ( (show Xi U3 904 32 = Xi U2 904 32 from by rw [eU3]; exact Xi_ne (by omega)).trans ( (show Xi U2 904 32 = Xi U1 904 32 from by rw [eU2]; exact Xi_ne (by omega)).trans ((show Xi U1 904 32 = Xi S 904 32 from by rw [eU1]; exact Xi_ne (by omega)))))
      have w58 : Xi U4 904 70 = Xi S 904 70 := (show Xi U4 904 70 = Xi U3 904 70 from by rw [eU4]; exact Xi_ne (by omega)).trans ( (show Xi U3 904 70 = Xi U2 904 70 from by rw [eU3]; exact Xi_ne (by omega)).trans ( (show Xi U2 904 70 = Xi U1 904 70 from by rw [eU2]; exact Xi_ne (by omega)).trans ((show Xi U1 904 70 = Xi S 904 70 from by rw [eU1]; exact Xi_ne (by omega)))))
      have w59 : Xi U4 904 94 = Xi S 904 94 := (show Xi U4 904 94 = Xi U3 904 94 from by rw [eU4]; exact Xi_ne (by omega)).trans ( (show Xi U3 904 94 = Xi U2 904 94 from by rw [eU3]; exact Xi_ne (by omega)).trans ( (show Xi U2 904 94 = Xi U1 904 94 from by rw [eU2]; exact Xi_ne (by omega)).trans ((show Xi U1 904 94 = Xi S 904 94 from by rw [eU1]; exact Xi_ne (by omega)))))
      have w60 : Xi U4 904 98 = Xi S 904 98 := (show Xi U4 904 98 = Xi U3 904 98 from by rw [eU4]; exact Xi_ne (by omega)).trans ( (show Xi U3 904 98 = Xi U2 904 98 from by rw [eU3]; exact Xi_ne (by omega)).trans ( (show Xi U2 904 98 = Xi U1 904 98 from by rw [eU2]; exact Xi_ne (by omega)).trans ((show Xi U1 904 98 = Xi S 904 98 from by rw [eU1]; exact Xi_ne (by omega)))))
      refine y_callV rfl rfl rfl (t_mo_ruleMeant__p hHU4 first ⟨by omega, by omega⟩ (by first | assumption | exact (LSP_FR hFU4 rfl rfl (by assumption : LSP S))) (by first | assumption | omega) (by first | assumption | exact (RBD_FR hFU4 rfl (by assumption : RBD S))) (by first | assumption | exact (ABV_FR hFU4 rfl (by assumption : ABV S))) (fun j => by rw [FA17.x 918 j rfl]; exact hkx.o j) (LXR_FR FA17 rfl rfl hLX) (by first | assumption | omega) (fun k a b => by rw [FA17.x 914 k rfl] at b; rw [FA17.x 915 k rfl]; exact hkk.o k (by omega) b) (fun j => by rw [FA17.x 942 j rfl]; exact hak.o j) (BYT_R FA17 rfl hb6) (fun j => by rw [FA17.x 914 j rfl, FA17.x 915 j rfl, FA17.x 904 15 rfl]; exact hlx7.o j) (by have t := hgb.o; unfold AGB at t ⊢; rw [FA17.x 904 70 rfl, FA17.x 904 102 rfl, FA17.x 904 103 rfl, (FA17.cx 950 rfl _).1, (FA17.cx 951 rfl _).1, (FA17.cx 950 rfl _).1, (FA17.cx 951 rfl _).1]; exact t) (by first | assumption | omega) (by first | assumption | omega) (by first | assumption | omega) (by first | assumption | omega) (by first | assumption | omega) (fun k hk => TRK_F FA17 (SMR_FR FA17 rfl rfl) rfl rfl (htk.o k (by omega))) (fun k hk => PKB_F FA17 (SMR_FR FA17 rfl rfl) rfl rfl rfl (hpk.o k (by omega))) _) ?_
      rintro _ T6 ⟨hHT6, w62, rfl, o528⟩
      have hFT6 : FR md_mo_asked__3 S T6 := FR.tr hFU4 w62 rfl
      show Pl _ _ _ _ _ _ [] _ _
      have K528 : True := trivial
      have z528 : Xi U4 904 106 = 0 ∧ Xi U4 904 108 = 0 ∧ Xi U4 904 115 = -1 ∧ Xi U4 904 116 = -1 := ⟨by omega, by omega, by omega, by omega⟩
      refine y_return rfl rfl ?_
      have w65 : Xi T6 904 108 = Xi U2 904 108 := (show Xi T6 904 108 = Xi U4 904 108 from w62.x _ _ rfl).trans ( (show Xi U4 904 108 = Xi U3 904 108 from by rw [eU4]; exact Xi_ne (by omega)).trans ((show Xi U3 904 108 = Xi U2 904 108 from by rw [eU3]; exact Xi_ne (by omega))))
      exact ⟨hHT6, hFT6, rfl, (by first | (have t := K528; exact ⟨_, FA17, z528, o528⟩) | (exfalso; omega))⟩
    | 4, hii =>
      cases hii
      have w71 : (Xi S 904 70) = 4 := by simpa using w20
      refine y_aload_n rfl rfl ?_
      refine y_iload_n rfl rfl ?_
      have w72 : Xi U4 904 102 = Xi S 904 102 := (show Xi U4 904 102 = Xi U3 904 102 from by rw [eU4]; exact Xi_ne (by omega)).trans ( (show Xi U3 904 102 = Xi U2 904 102 from by rw [eU3]; exact Xi_ne (by omega)).trans ( (show Xi U2 904 102 = Xi U1 904 102 from by rw [eU2]; exact Xi_ne (by omega)).trans ((show Xi U1 904 102 = Xi S 904 102 from by rw [eU1]; exact Xi_ne (by omega)))))
      have w73 : Xi U4 904 103 = Xi S 904 103 := (show Xi U4 904 103 = Xi U3 904 103 from by rw [eU4]; exact Xi_ne (by omega)).trans ( (show Xi U3 904 103 = Xi U2 904 103 from by rw [eU3]; exact Xi_ne (by omega)).trans ( (show Xi U2 904 103 = Xi U1 904 103 from by rw [eU2]; exact Xi_ne (by omega)).trans ((show Xi U1 904 103 = Xi S 904 103 from by rw [eU1]; exact Xi_ne (by omega)))))
      have w74 : Xi U4 904 106 = Xi U1 904 106 := (show Xi U4 904 106 = Xi U3 904 106 from by rw [eU4]; exact Xi_ne (by omega)).trans ( (show Xi U3 904 106 = Xi U2 904 106 from by rw [eU3]; exact Xi_ne (by omega)).trans ((show Xi U2 904 106 = Xi U1 904 106 from by rw [eU2]; exact Xi_ne (by omega))))
      have w75 : Xi U4 904 108 = Xi U2 904 108 := (show Xi U4 904 108 = Xi U3 904 108 from by rw [eU4]; exact Xi_ne (by omega)).trans ((show Xi U3 904 108 = Xi U2 904 108 from by rw [eU3]; exact Xi_ne (by omega)))
      have w76 : Xi U4 904 115 = Xi U3 904 115 := (show Xi U4 904 115 = Xi U3 904 115 from by rw [eU4]; exact Xi_ne (by omega))
      have w77 : Xi U4 904 117 = Xi S 904 117 := (show Xi U4 904 117 = Xi U3 904 117 from by rw [eU4]; exact Xi_ne (by omega)).trans ( (show Xi U3 904 117 = Xi U2 904 117 from by rw [eU3]; exact Xi_ne (by omega)).trans ( (show Xi U2 904 117 = Xi U1 904 117 from by rw [eU2]; exact Xi_ne (by omega)).trans ((show Xi U1 904 117 = Xi S 904 117 from by rw [eU1]; exact Xi_ne (by omega)))))
      have w78 : Xi U4 904 125 = Xi S 904 125 := (show Xi U4 904 125 = Xi U3 904 125 from by rw [eU4]; exact Xi_ne (by omega)).trans ( (show Xi U3 904 125 = Xi U2 904 125 from by rw [eU3]; exact Xi_ne (by omega)).trans ( (show Xi U2 904 125 = Xi U1 904 125 from by rw [eU2]; exact Xi_ne (by omega)).trans ((show Xi U1 904 125 = Xi S 904 125 from by rw [eU1]; exact Xi_ne (by omega)))))
      have w79 : Xi U4 904 130 = Xi S 904 130 := (show Xi U4 904 130 = Xi U3 904 130 from by rw [eU4]; exact Xi_ne (by omega)).trans ( (show Xi U3 904 130 = Xi U2 904 130 from by rw [eU3]; exact Xi_ne (by omega)).trans ( (show Xi U2 904 130 = Xi U1 904 130 from by rw [eU2]; exact Xi_ne (by omega)).trans ((show Xi U1 904 130 = Xi S 904 130 from by rw [eU1]; exact Xi_ne (by omega)))))
      have w80 : Xi U4 904 15 = Xi S 904 15 := (show Xi U4 904 15 = Xi U3 904 15 from by rw [eU4]; exact Xi_ne (by omega)).trans ( (show Xi U3 904 15 = Xi U2 904 15 from by rw [eU3]; exact Xi_ne (by omega)).trans ( (show Xi U2 904 15 = Xi U1 904 15 from by rw [eU2]; exact Xi_ne (by omega)).trans ((show Xi U1 904 15 = Xi S 904 15 from by rw [eU1]; exact Xi_ne (by omega)))))
      have w81 : Xi U4 904 32 = Xi S 904 32 := (show Xi U4 904 32 = Xi U3 904 32 from by rw [eU4]; exact Xi_ne (by omega)).trans ( (show Xi U3 904 32 = Xi U2 904 32 from by rw [eU3]; exact Xi_ne (by omega)).trans ( (show Xi U2 904 32 = Xi U1 904 32 from by rw [eU2]; exact Xi_ne (by omega)).trans ((show Xi U1 904 32 = Xi S 904 32 from by rw [eU1]; exact Xi_ne (by omega)))))
      have w82 : Xi U4 904 70 = Xi S 904 70 := (show Xi U4 904 70 = Xi U3 904 70 from by rw [eU4]; exact Xi_ne (by omega)).trans ( (show Xi U3 904 70 = Xi U2 904 70 from by rw [eU3]; exact Xi_ne (by omega)).trans ( (show Xi U2 904 70 = Xi U1 904 70 from by rw [eU2]; exact Xi_ne (by omega)).trans ((show Xi U1 904 70 = Xi S 904 70 from by rw [eU1]; exact Xi_ne (by omega)))))
      have w83 : Xi U4 904 94 = Xi S 904 94 := (show Xi U4 904 94 = Xi U3 904 94 from by rw [eU4]; exact Xi_ne (by omega)).trans ( (show Xi U3 904 94 = Xi U2 904 94 from by rw [eU3]; exact Xi_ne (by omega)).trans ( (show Xi U2 904 94 = Xi U1 904 94 from by rw [eU2]; exact Xi_ne (by omega)).trans ((show Xi U1 904 94 = Xi S 904 94 from by rw [eU1]; exact Xi_ne (by omega)))))
      have w84 : Xi U4 904 98 = Xi S 904 98 := (show Xi U4 904 98 = Xi U3 904 98 from by rw [eU4]; exact Xi_ne (by omega)).trans ( (show Xi U3 904 98 = Xi U2 904 98 from by rw [eU3]; exact Xi_ne (by omega)).trans ( (show Xi U2 904 98 = Xi U1 904 98 from by rw [eU2]; exact Xi_ne (by omega)).trans ((show Xi U1 904 98 = Xi S 904 98 from by rw [eU1]; exact Xi_ne (by omega)))))
      refine y_callV rfl rfl rfl (t_mo_ruleMeant__p hHU4 first ⟨by omega, by omega⟩ (by first | assumption | exact (LSP_FR hFU4 rfl rfl (by assumption : LSP S))) (by first | assumption | omega) (by first | assumption | exact (RBD_FR hFU4 rfl (by assumption : RBD S))) (by first | assumption | exact (ABV_FR hFU4 rfl (by assumption : ABV S))) (fun j => by rw [FA17.x 918 j rfl]; exact hkx.o j) (LXR_FR FA17 rfl rfl hLX) (by first | assumption | omega) (fun k a b => by rw [FA17.x 914 k rfl] at b; rw [FA17.x 915 k rfl]; exact hkk.o k (by omega) b) (fun j => by rw [FA17.x 942 j rfl]; exact hak.o j) (BYT_R FA17 rfl hb6) (fun j => by rw [FA17.x 914 j rfl, FA17.x 915 j rfl, FA17.x 904 15 rfl]; exact hlx7.o j) (by have t := hgb.o; unfold AGB at t ⊢; rw [FA17.x 904 70 rfl, FA17.x 904 102 rfl, FA17.x 904 103 rfl, (FA17.cx 950 rfl _).1, (FA17.cx 951 rfl _).1, (FA17.cx 950 rfl _).1, (FA17.cx 951 rfl _).1]; exact t) (by first | assumption | omega) (by first | assumption | omega) (by first | assumption | omega) (by first | assumption | omega) (by first | assumption | omega) (fun k hk => TRK_F FA17 (SMR_FR FA17 rfl rfl) rfl rfl (htk.o k (by omega))) (fun k hk => PKB_F FA17 (SMR_FR FA17 rfl rfl) rfl rfl rfl (hpk.o k (by omega))) _) ?_
      rintro _ T7 ⟨hHT7, w86, rfl, o528⟩
      have hFT7 : FR md_mo_asked__3 S T7 := FR.tr hFU4 w86 rfl
      show Pl _ _ _ _ _ _ [] _ _
      have K528 : True := trivial
      have z528 : Xi U4 904 106 = 0 ∧ Xi U4 904 108 = 0 ∧ Xi U4 904 115 = -1 ∧ Xi U4 904 116 = -1 := ⟨by omega, by omega, by omega, by omega⟩
      refine y_return rfl rfl ?_
      have w89 : Xi T7 904 108 = Xi U2 904 108 := (show Xi T7 904 108 = Xi U4 904 108 from w86.x _ _ rfl).trans ( (show Xi U4 904 108 = Xi U3 904 108 from by rw [eU4]; exact Xi_ne (by omega)).trans ((show Xi U3 904 108 = Xi U2 904 108 from by rw [eU3]; exact Xi_ne (by omega))))
      exact ⟨hHT7, hFT7, rfl, (by first | (have t := K528; exact ⟨_, FA17, z528, o528⟩) | (exfalso; omega))⟩
    | 5, hii =>
      cases hii
      have w95 : (Xi S 904 70) = 5 := by simpa using w20
      refine y_aload_n rfl rfl ?_
      refine y_iload_n rfl rfl ?_
      have w96 : Xi U4 904 102 = Xi S 904 102 := (show Xi U4 904 102 = Xi U3 904 102 from by rw [eU4]; exact Xi_ne (by omega)).trans ( (show Xi U3 904 102 = Xi U2 904 102 from by rw [eU3]; exact Xi_ne (by omega)).trans ( (show Xi U2 904 102 = Xi U1 904 102 from by rw [eU2]; exact Xi_ne (by omega)).trans ((show Xi U1 904 102 = Xi S 904 102 from by rw [eU1]; exact Xi_ne (by omega)))))
      have w97 : Xi U4 904 103 = Xi S 904 103 := (show Xi U4 904 103 = Xi U3 904 103 from by rw [eU4]; exact Xi_ne (by omega)).trans ( (show Xi U3 904 103 = Xi U2 904 103 from by rw [eU3]; exact Xi_ne (by omega)).trans ( (show Xi U2 904 103 = Xi U1 904 103 from by rw [eU2]; exact Xi_ne (by omega)).trans ((show Xi U1 904 103 = Xi S 904 103 from by rw [eU1]; exact Xi_ne (by omega)))))
      have w98 : Xi U4 904 106 = Xi U1 904 106 := (show Xi U4 904 106 = Xi U3 904 106 from by rw [eU4]; exact Xi_ne (by omega)).trans ( (show Xi U3 904 106 = Xi U2 904 106 from by rw [eU3]; exact Xi_ne (by omega)).trans ((show Xi U2 904 106 = Xi U1 904 106 from by rw [eU2]; exact Xi_ne (by omega))))
      have w99 : Xi U4 904 108 = Xi U2 904 108 := (show Xi U4 904 108 = Xi U3 904 108 from by rw [eU4]; exact Xi_ne (by omega)).trans ((show Xi U3 904 108 = Xi U2 904 108 from by rw [eU3]; exact Xi_ne (by omega)))
      have w100 : Xi U4 904 115 = Xi U3 904 115 := (show Xi U4 904 115 = Xi U3 904 115 from by rw [eU4]; exact Xi_ne (by omega))
      have w101 : Xi U4 904 117 = Xi S 904 117 := (show Xi U4 904 117 = Xi U3 904 117 from by rw [eU4]; exact Xi_ne (by omega)).trans ( (show Xi U3 904 117 = Xi U2 904 117 from by rw [eU3]; exact Xi_ne (by omega)).trans ( (show Xi U2 904 117 = Xi U1 904 117 from by rw [eU2]; exact Xi_ne (by omega)).trans ((show Xi U1 904 117 = Xi S 904 117 from by rw [eU1]; exact Xi_ne (by omega)))))
      have w102 : Xi U4 904 125 = Xi S 904 125 := (show Xi U4 904 125 = Xi U3 904 125 from by rw [eU4]; exact Xi_ne (by omega)).trans ( (show Xi U3 904 125 = Xi U2 904 125 from by rw [eU3]; exact Xi_ne (by omega)).trans ( (show Xi U2 904 125 = Xi U1 904 125 from by rw [eU2]; exact Xi_ne (by omega)).trans ((show Xi U1 904 125 = Xi S 904 125 from by rw [eU1]; exact Xi_ne (by omega)))))
      have w103 : Xi U4 904 130 = Xi S 904 130 := (show Xi U4 904 130 = Xi U3 904 130 from by rw [eU4]; exact Xi_ne (by omega)).trans ( (show Xi U3 904 130 = Xi U2 904 130 from by rw [eU3]; exact Xi_ne (by omega)).trans ( (show Xi U2 904 130 = Xi U1 904 130 from by rw [eU2]; exact Xi_ne (by omega)).trans ((show Xi U1 904 130 = Xi S 904 130 from by rw [eU1]; exact Xi_ne (by omega)))))
      have w104 : Xi U4 904 15 = Xi S 904 15 := (show Xi U4 904 15 = Xi U3 904 15 from by rw [eU4]; exact Xi_ne (by omega)).trans ( (show Xi U3 904 15 = Xi U2 904 15 from by rw [eU3]; exact Xi_ne (by omega)).trans ( (show Xi U2 904 15 = Xi U1 904 15 from by rw [eU2]; exact Xi_ne (by omega)).trans ((show Xi U1 904 15 = Xi S 904 15 from by rw [eU1]; exact Xi_ne (by omega)))))
      have w105 : Xi U4 904 32 = Xi S 904 32 := (show Xi U4 904 32 = Xi U3 904 32 from by rw [eU4]; exact Xi_ne (by omega)).trans ( (show Xi U3 904 32 = Xi U2 904 32 from by rw [eU3]; exact Xi_ne (by omega)).trans ( (show Xi U2 904 32 = Xi U1 904 32 from by rw [eU2]; exact Xi_ne (by omega)).trans ((show Xi U1 904 32 = Xi S 904 32 from by rw [eU1]; exact Xi_ne (by omega)))))
      have w106 : Xi U4 904 70 = Xi S 904 70 := (show Xi U4 904 70 = Xi U3 904 70 from by rw [eU4]; exact Xi_ne (by omega)).trans ( (show Xi U3 904 70 = Xi U2 904 70 from by rw [eU3]; exact Xi_ne (by omega)).trans ( (show Xi U2 904 70 = Xi U1 904 70 from by rw [eU2]; exact Xi_ne (by omega)).trans ((show Xi U1 904 70 = Xi S 904 70 from by rw [eU1]; exact Xi_ne (by omega)))))
      have w107 : Xi U4 904 94 = Xi S 904 94 := (show Xi U4 904 94 = Xi U3 904 94 from by rw [eU4]; exact Xi_ne (by omega)).trans ( (show Xi U3 904 94 = Xi U2 904 94 from by rw [eU3]; exact Xi_ne (by omega)).trans ( (show Xi U2 904 94 = Xi U1 904 94 from by rw [eU2]; exact Xi_ne (by omega)).trans ((show Xi U1 904 94 = Xi S 904 94 from by rw [eU1]; exact Xi_ne (by omega)))))
      have w108 : Xi U4 904 98 = Xi S 904 98 := (show Xi U4 904 98 = Xi U3 904 98 from by rw [eU4]; exact Xi_ne (by omega)).trans ( (show Xi U3 904 98 = Xi U2 904 98 from by rw [eU3]; exact Xi_ne (by omega)).trans ( (show Xi U2 904 98 = Xi U1 904 98 from by rw [eU2]; exact Xi_ne (by omega)).trans ((show Xi U1 904 98 = Xi S 904 98 from by rw [eU1]; exact Xi_ne (by omega)))))
      refine y_callV rfl rfl rfl (t_mo_ruleMeant__p hHU4 first ⟨by omega, by omega⟩ (by first | assumption | exact (LSP_FR hFU4 rfl rfl (by assumption : LSP S))) (by first | assumption | omega) (by first | assumption | exact (RBD_FR hFU4 rfl (by assumption : RBD S))) (by first | assumption | exact (ABV_FR hFU4 rfl (by assumption : ABV S))) (fun j => by rw [FA17.x 918 j rfl]; exact hkx.o j) (LXR_FR FA17 rfl rfl hLX) (by first | assumption | omega) (fun k a b => by rw [FA17.x 914 k rfl] at b; rw [FA17.x 915 k rfl]; exact hkk.o k (by omega) b) (fun j => by rw [FA17.x 942 j rfl]; exact hak.o j) (BYT_R FA17 rfl hb6) (fun j => by rw [FA17.x 914 j rfl, FA17.x 915 j rfl, FA17.x 904 15 rfl]; exact hlx7.o j) (by have t := hgb.o; unfold AGB at t ⊢; rw [FA17.x 904 70 rfl, FA17.x 904 102 rfl, FA17.x 904 103 rfl, (FA17.cx 950 rfl _).1, (FA17.cx 951 rfl _).1, (FA17.cx 950 rfl _).1, (FA17.cx 951 rfl _).1]; exact t) (by first | assumption | omega) (by first | assumption | omega) (by first | assumption | omega) (by first | assumption | omega) (by first | assumption | omega) (fun k hk => TRK_F FA17 (SMR_FR FA17 rfl rfl) rfl rfl (htk.o k (by omega))) (fun k hk => PKB_F FA17 (SMR_FR FA17 rfl rfl) rfl rfl rfl (hpk.o k (by omega))) _) ?_
      rintro _ T8 ⟨hHT8, w110, rfl, o528⟩
      have hFT8 : FR md_mo_asked__3 S T8 := FR.tr hFU4 w110 rfl
      show Pl _ _ _ _ _ _ [] _ _
      have K528 : True := trivial
      have z528 : Xi U4 904 106 = 0 ∧ Xi U4 904 108 = 0 ∧ Xi U4 904 115 = -1 ∧ Xi U4 904 116 = -1 := ⟨by omega, by omega, by omega, by omega⟩
      refine y_return rfl rfl ?_
      have w113 : Xi T8 904 108 = Xi U2 904 108 := (show Xi T8 904 108 = Xi U4 904 108 from w110.x _ _ rfl).trans ( (show Xi U4 904 108 = Xi U3 904 108 from by rw [eU4]; exact Xi_ne (by omega)).trans ((show Xi U3 904 108 = Xi U2 904 108 from by rw [eU3]; exact Xi_ne (by omega))))
      exact ⟨hHT8, hFT8, rfl, (by first | (have t := K528; exact ⟨_, FA17, z528, o528⟩) | (exfalso; omega))⟩
    | 6, hii =>
      cases hii
      have w119 : (Xi S 904 70) = 6 := by simpa using w20
      refine y_aload_n rfl rfl ?_
      refine y_iload_n rfl rfl ?_
      have w120 : Xi U4 904 102 = Xi S 904 102 := (show Xi U4 904 102 = Xi U3 904 102 from by rw [eU4]; exact Xi_ne (by omega)).trans ( (show Xi U3 904 102 = Xi U2 904 102 from by rw [eU3]; exact Xi_ne (by omega)).trans ( (show Xi U2 904 102 = Xi U1 904 102 from by rw [eU2]; exact Xi_ne (by omega)).trans ((show Xi U1 904 102 = Xi S 904 102 from by rw [eU1]; exact Xi_ne (by omega)))))
      have w121 : Xi U4 904 103 = Xi S 904 103 := (show Xi U4 904 103 = Xi U3 904 103 from by rw [eU4]; exact Xi_ne (by omega)).trans ( (show Xi U3 904 103 = Xi U2 904 103 from by rw [eU3]; exact Xi_ne (by omega)).trans ( (show Xi U2 904 103 = Xi U1 904 103 from by rw [eU2]; exact Xi_ne (by omega)).trans ((show Xi U1 904 103 = Xi S 904 103 from by rw [eU1]; exact Xi_ne (by omega)))))
      have w122 : Xi U4 904 106 = Xi U1 904 106 := (show Xi U4 904 106 = Xi U3 904 106 from by rw [eU4]; exact Xi_ne (by omega)).trans ( (show Xi U3 904 106 = Xi U2 904 106 from by rw [eU3]; exact Xi_ne (by omega)).trans ((show Xi U2 904 106 = Xi U1 904 106 from by rw [eU2]; exact Xi_ne (by omega))))
      have w123 : Xi U4 904 108 = Xi U2 904 108 := (show Xi U4 904 108 = Xi U3 904 108 from by rw [eU4]; exact Xi_ne (by omega)).trans ((show Xi U3 904 108 = Xi U2 904 108 from by rw [eU3]; exact Xi_ne (by omega)))
      have w124 : Xi U4 904 115 = Xi U3 904 115 := (show Xi U4 904 115 = Xi U3 904 115 from by rw [eU4]; exact Xi_ne (by omega))
      have w125 : Xi U4 904 117 = Xi S 904 117 := (show Xi U4 904 117 = Xi U3 904 117 from by rw [eU4]; exact Xi_ne (by omega)).trans ( (show Xi U3 904 117 = Xi U2 904 117 from by rw [eU3]; exact Xi_ne (by omega)).trans ( (show Xi U2 904 117 = Xi U1 904 117 from by rw [eU2]; exact Xi_ne (by omega)).trans ((show Xi U1 904 117 = Xi S 904 117 from by rw [eU1]; exact Xi_ne (by omega)))))
      have w126 : Xi U4 904 125 = Xi S 904 125 := (show Xi U4 904 125 = Xi U3 904 125 from by rw [eU4]; exact Xi_ne (by omega)).trans ( (show Xi U3 904 125 = Xi U2 904 125 from by rw [eU3]; exact Xi_ne (by omega)).trans ( (show Xi U2 904 125 = Xi U1 904 125 from by rw [eU2]; exact Xi_ne (by omega)).trans ((show Xi U1 904 125 = Xi S 904 125 from by rw [eU1]; exact Xi_ne (by omega)))))
      have w127 : Xi U4 904 130 = Xi S 904 130 := (show Xi U4 904 130 = Xi U3 904 130 from by rw [eU4]; exact Xi_ne (by omega)).trans ( (show Xi U3 904 130 = Xi U2 904 130 from by rw [eU3]; exact Xi_ne (by omega)).trans ( (show Xi U2 904 130 = Xi U1 904 130 from by rw [eU2]; exact Xi_ne (by omega)).trans ((show Xi U1 904 130 = Xi S 904 130 from by rw [eU1]; exact Xi_ne (by omega)))))
      have w128 : Xi U4 904 15 = Xi S 904 15 := (show Xi U4 904 15 = Xi U3 904 15 from by rw [eU4]; exact Xi_ne (by omega)).trans ( (show Xi U3 904 15 = Xi U2 904 15 from by rw [eU3]; exact Xi_ne (by omega)).trans ( (show Xi U2 904 15 = Xi U1 904 15 from by rw [eU2]; exact Xi_ne (by omega)).trans ((show Xi U1 904 15 = Xi S 904 15 from by rw [eU1]; exact Xi_ne (by omega)))))
      have w129 : Xi U4 904 32 = Xi S 904 32 := (show Xi U4 904 32 = Xi U3 904 32 from by rw [eU4]; exact Xi_ne (by omega)).trans ( (show Xi U3 904 32 = Xi U2 904 32 from by rw [eU3]; exact Xi_ne (by omega)).trans ( (show Xi U2 904 32 = Xi U1 904 32 from by rw [eU2]; exact Xi_ne (by omega)).trans ((show Xi U1 904 32 = Xi S 904 32 from by rw [eU1]; exact Xi_ne (by omega)))))
      have w130 : Xi U4 904 70 = Xi S 904 70 := (show Xi U4 904 70 = Xi U3 904 70 from by rw [eU4]; exact Xi_ne (by omega)).trans ( (show Xi U3 904 70 = Xi U2 904 70 from by rw [eU3]; exact Xi_ne (by omega)).trans ( (show Xi U2 904 70 = Xi U1 904 70 from by rw [eU2]; exact Xi_ne (by omega)).trans ((show Xi U1 904 70 = Xi S 904 70 from by rw [eU1]; exact Xi_ne (by omega)))))
      have w131 : Xi U4 904 94 = Xi S 904 94 := (show Xi U4 904 94 = Xi U3 904 94 from by rw [eU4]; exact Xi_ne (by omega)).trans ( (show Xi U3 904 94 = Xi U2 904 94 from by rw [eU3]; exact Xi_ne (by omega)).trans ( (show Xi U2 904 94 = Xi U1 904 94 from by rw [eU2]; exact Xi_ne (by omega)).trans ((show Xi U1 904 94 = Xi S 904 94 from by rw [eU1]; exact Xi_ne (by omega)))))
      have w132 : Xi U4 904 98 = Xi S 904 98 := (show Xi U4 904 98 = Xi U3 904 98 from by rw [eU4]; exact Xi_ne (by omega)).trans ( (show Xi U3 904 98 = Xi U2 904 98 from by rw [eU3]; exact Xi_ne (by omega)).trans ( (show Xi U2 904 98 = Xi U1 904 98 from by rw [eU2]; exact Xi_ne (by omega)).trans ((show Xi U1 904 98 = Xi S 904 98 from by rw [eU1]; exact Xi_ne (by omega)))))
      refine y_callV rfl rfl rfl (t_mo_ruleMeant__p hHU4 first ⟨by omega, by omega⟩ (by first | assumption | exact (LSP_FR hFU4 rfl rfl (by assumption : LSP S))) (by first | assumption | omega) (by first | assumption | exact (RBD_FR hFU4 rfl (by assumption : RBD S))) (by first | assumption | exact (ABV_FR hFU4 rfl (by assumption : ABV S))) (fun j => by rw [FA17.x 918 j rfl]; exact hkx.o j) (LXR_FR FA17 rfl rfl hLX) (by first | assumption | omega) (fun k a b => by rw [FA17.x 914 k rfl] at b; rw [FA17.x 915 k rfl]; exact hkk.o k (by omega) b) (fun j => by rw [FA17.x 942 j rfl]; exact hak.o j) (BYT_R FA17 rfl hb6) (fun j => by rw [FA17.x 914 j rfl, FA17.x 915 j rfl, FA17.x 904 15 rfl]; exact hlx7.o j) (by have t := hgb.o; unfold AGB at t ⊢; rw [FA17.x 904 70 rfl, FA17.x 904 102 rfl, FA17.x 904 103 rfl, (FA17.cx 950 rfl _).1, (FA17.cx 951 rfl _).1, (FA17.cx 950 rfl _).1, (FA17.cx 951 rfl _).1]; exact t) (by first | assumption | omega) (by first | assumption | omega) (by first | assumption | omega) (by first | assumption | omega) (by first | assumption | omega) (fun k hk => TRK_F FA17 (SMR_FR FA17 rfl rfl) rfl rfl (htk.o k (by omega))) (fun k hk => PKB_F FA17 (SMR_FR FA17 rfl rfl) rfl rfl rfl (hpk.o k (by omega))) _) ?_
      rintro _ T9 ⟨hHT9, w134, rfl, o528⟩
      have hFT9 : FR md_mo_asked__3 S T9 := FR.tr hFU4 w134 rfl
      show Pl _ _ _ _ _ _ [] _ _
      have K528 : True := trivial
      have z528 : Xi U4 904 106 = 0 ∧ Xi U4 904 108 = 0 ∧ Xi U4 904 115 = -1 ∧ Xi U4 904 116 = -1 := ⟨by omega, by omega, by omega, by omega⟩
      refine y_return rfl rfl ?_
      have w137 : Xi T9 904 108 = Xi U2 904 108 := (show Xi T9 904 108 = Xi U4 904 108 from w134.x _ _ rfl).trans ( (show Xi U4 904 108 = Xi U3 904 108 from by rw [eU4]; exact Xi_ne (by omega)).trans ((show Xi U3 904 108 = Xi U2 904 108 from by rw [eU3]; exact Xi_ne (by omega))))
      exact ⟨hHT9, hFT9, rfl, (by first | (have t := K528; exact ⟨_, FA17, z528, o528⟩) | (exfalso; omega))⟩
    | 7, hii =>
      cases hii
      have w143 : (Xi S 904 70) = 7 := by simpa using w20
      exfalso; omega
    | 8, hii =>
      cases hii
      have w144 : (Xi S 904 70) = 8 := by simpa using w20
      exfalso; omega
    | 9, hii =>
      cases hii
      have w145 : (Xi S 904 70) = 9 := by simpa using w20
      exfalso; omega
    | 10, hii =>
      cases hii
      have w146 : (Xi S 904 70) = 10 := by simpa using w20
      exfalso; omega
    | 11, hii =>
      cases hii
      have w147 : (Xi S 904 70) = 11 := by simpa using w20
      exfalso; omega
    | 12, hii =>
      cases hii
      have w148 : (Xi S 904 70) = 12 := by simpa using w20
      exfalso; omega
    | 13, hii =>
      cases hii
      have w149 : (Xi S 904 70) = 13 := by simpa using w20
      exfalso; omega
    | 14, hii =>
      cases hii
      have w150 : (Xi S 904 70) = 14 := by simpa using w20
      exfalso; omega
    | 15, hii =>
      cases hii
      have w151 : (Xi S 904 70) = 15 := by simpa using w20
      exfalso; omega
    | 16, hii =>
      cases hii
      have w152 : (Xi S 904 70) = 16 := by simpa using w20
      exfalso; omega
    | 17, hii =>
      cases hii
      have w153 : (Xi S 904 70) = 17 := by simpa using w20
      exfalso; omega
    | 18, hii =>
      cases hii
      have w154 : (Xi S 904 70) = 18 := by simpa using w20
      exfalso; omega
    | 19, hii =>
      cases hii
      have w155 : (Xi S 904 70) = 19 := by simpa using w20
      exfalso; omega
    | 20, hii =>
      cases hii
      have w156 : (Xi S 904 70) = 20 := by simpa using w20
      exfalso; omega
    | n + 21, hii => exact absurd hii (by simp)
def md_mo_does__3 : List rec := [(904, 905, 15, 16), (904, 905, 16, 17), (904, 905, 18, 19), (904, 905, 19, 20), (904, 905, 23, 24), (904, 905, 30, 31), (904, 905, 32, 33), (904, 905, 41, 42), (904, 905, 47, 48), (904, 905, 49, 50), (904, 905, 51, 52), (904, 905, 55, 56), (904, 905, 60, 61), (904, 905, 64, 65), (904, 905, 73, 74), (904, 905, 105, 106), (904, 905, 106, 107), (904, 905, 113, 114), (904, 905, 117, 118), (912, 913, 0, 100000), (913, 914, 0, 100000), (914, 915, 0, 100000), (915, 916, 0, 100000), (916, 917, 0, 100000), (917, 918, 0, 100000), (918, 919, 0, 100000), (919, 920, 0, 100000), (920, 921, 0, 100000), (921, 922, 0, 100000), (922, 923, 0, 100000), (923, 924, 0, 100000), (924, 925, 0, 100000), (925, 926, 0, 100000), (926, 927, 0, 100000), (927, 928, 0, 100000), (928, 929, 0, 100000), (929, 930, 0, 100000), (930, 931, 0, 100000), (931, 932, 0, 100000), (932, 933, 0, 100000), (933, 934, 0, 100000), (934, 935, 0, 100000), (935, 936, 0, 100000), (936, 937, 0, 100000), (937, 938, 0, 100000), (938, 939, 0, 100000), (939, 940, 0, 100000), (940, 941, 0, 100000), (941, 942, 0, 100000), (942, 943, 0, 100000), (943, 944, 0, 100000), (944, 945, 0, 100000), (945, 946, 0, 100000), (946, 947, 0, 100000), (947, 948, 0, 100000), (948, 949, 0, 100000), (949, 950, 0, 100000)]
abbrev Q_mo_does__3 (S : sS) (first : Int) : pst := fun r S1 => RI S1 ∧ FR md_mo_does__3 S S1 ∧ (r = none ∧ (S1 = S))
set_option maxRecDepth 100000 in
theorem t_mo_does__3 {S : sS} (hH : RI S) (first : Int) (hfirst : 0 ≤ first ∧ first ≤ 5001) (hs : 3 ≤ Xi S 904 70 ∧ Xi S 904 70 ≤ 6) (d : Nat) : Mp lay0 (d + 8) m_mo_does [.ref 904, iv first] S (Q_mo_does__3 S first) := by
  refine Mp_R rfl rfl (fun fu => ?_)
  have hF : FR md_mo_does__3 S S := FR.rf
  have w1 : -2147483648 ≤ Xi S 904 70 ∧ Xi S 904 70 ≤ 2147483647 := Xi_rgI
  have C300 : ∀ (n300 : Nat) (_ : n300 ≤ fu) (T1 : sS) (_ : RI T1) (_ : FR md_mo_does__3 S T1) (v2 : Int), (0 ≤ v2 ∧ v2 ≤ 2600) → ((1 : Int) = 0) → Pl n300 lay0 (d + 7) m_mo_does 300 [(0, .ref 904), (2, iv v2)] [] T1 (Q_mo_does__3 S first) := by
    intro n300
    induction n300 with
    | zero => intros; exact Pl_0
    | succ n300 ih300 =>
      intro hm300 T1 hHT1 hFT1 v2 w2 w3
      have w4 : Xi T1 904 110 = Xi S 904 110 := hFT1.x _ _ rfl
      have w5 : Xi T1 904 112 = Xi S 904 112 := hFT1.x _ _ rfl
      have w6 : Xi T1 904 142 = Xi S 904 142 := hFT1.x _ _ rfl
      have w7 : Xi T1 904 69 = Xi S 904 69 := hFT1.x _ _ rfl
      have w8 : Xi T1 904 70 = Xi S 904 70 := hFT1.x _ _ rfl
      have w9 : Xi T1 904 71 = Xi S 904 71 := hFT1.x _ _ rfl
      have w10 : Xi T1 904 72 = Xi S 904 72 := hFT1.x _ _ rfl
      have w11 : Xi T1 904 74 = Xi S 904 74 := hFT1.x _ _ rfl
      have w12 : Xi T1 904 78 = Xi S 904 78 := hFT1.x _ _ rfl
      have w13 : Xi T1 904 94 = Xi S 904 94 := hFT1.x _ _ rfl
      have w14 : Xi T1 951 1 = Xi S 951 1 := hFT1.x _ _ rfl
      have w15 : Xi T1 951 2 = Xi S 951 2 := hFT1.x _ _ rfl
      have w16 : Xi T1 967 0 = Xi S 967 0 := hFT1.x _ _ rfl
      have w17 : -2147483648 ≤ Xi T1 904 70 ∧ Xi T1 904 70 ≤ 2147483647 := Xi_rgI
      exfalso; omega
  refine y_aload_n rfl rfl ?_
  refine y_gfi rfl rfl rfl rfl rfl ?_
  refine y_tsw rfl rfl rfl rfl (by unfold rg; omega) (fun w18 => ?_) (fun ii tt hii w18 => ?_)
  · refine y_return rfl rfl ?_
    exact ⟨hH, hF, rfl, (by first | rfl | (exfalso; omega))⟩
  · match ii, hii with
    | 0, hii =>
      cases hii
      have w19 : (Xi S 904 70) = 0 := by simpa using w18
      exfalso; omega
    | 1, hii =>
      cases hii
      have w20 : (Xi S 904 70) = 1 := by simpa using w18
      exfalso; omega
    | 2, hii =>
      cases hii
      have w21 : (Xi S 904 70) = 2 := by simpa using w18
      exfalso; omega
    | 3, hii =>
      cases hii
      have w22 : (Xi S 904 70) = 3 := by simpa using w18
      refine y_return rfl rfl ?_
      exact ⟨hH, hF, rfl, (by first | rfl | (exfalso; omega))⟩
    | 4, hii =>
      cases hii
      have w23 : (Xi S 904 70) = 4 := by simpa using w18
      refine y_return rfl rfl ?_
      exact ⟨hH, hF, rfl, (by first | rfl | (exfalso; omega))⟩
    | 5, hii =>
      cases hii
      have w24 : (Xi S 904 70) = 5 := by simpa using w18
      refine y_return rfl rfl ?_
      exact ⟨hH, hF, rfl, (by first | rfl | (exfalso; omega))⟩
    | 6, hii =>
      cases hii
      have w25 : (Xi S 904 70) = 6 := by simpa using w18
      refine y_return rfl rfl ?_
      exact ⟨hH, hF, rfl, (by first | rfl | (exfalso; omega))⟩
    | 7, hii =>
      cases hii
      have w26 : (Xi S 904 70) = 7 := by simpa using w18
      exfalso; omega
    | 8, hii =>
      cases hii
      have w27 : (Xi S 904 70) = 8 := by simpa using w18
      exfalso; omega
    | 9, hii =>
      cases hii
      have w28 : (Xi S 904 70) = 9 := by simpa using w18
      exfalso; omega
    | 10, hii =>
      cases hii
      have w29 : (Xi S 904 70) = 10 := by simpa using w18
      exfalso; omega
    | 11, hii =>
      cases hii
      have w30 : (Xi S 904 70) = 11 := by simpa using w18
      exfalso; omega
    | 12, hii =>
      cases hii
      have w31 : (Xi S 904 70) = 12 := by simpa using w18
      exfalso; omega
    | 13, hii =>
      cases hii
      have w32 : (Xi S 904 70) = 13 := by simpa using w18
      exfalso; omega
    | 14, hii =>
      cases hii
      have w33 : (Xi S 904 70) = 14 := by simpa using w18
      exfalso; omega
    | 15, hii =>
      cases hii
      have w34 : (Xi S 904 70) = 15 := by simpa using w18
      exfalso; omega
    | 16, hii =>
      cases hii
      have w35 : (Xi S 904 70) = 16 := by simpa using w18
      exfalso; omega
    | 17, hii =>
      cases hii
      have w36 : (Xi S 904 70) = 17 := by simpa using w18
      exfalso; omega
    | 18, hii =>
      cases hii
      have w37 : (Xi S 904 70) = 18 := by simpa using w18
      exfalso; omega
    | 19, hii =>
      cases hii
      have w38 : (Xi S 904 70) = 19 := by simpa using w18
      exfalso; omega
    | 20, hii =>
      cases hii
      have w39 : (Xi S 904 70) = 20 := by simpa using w18
      exfalso; omega
    | n + 21, hii => exact absurd hii (by simp)
end
