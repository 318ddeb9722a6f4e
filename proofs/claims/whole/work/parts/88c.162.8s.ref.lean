section
/-! 15: the reference asks: a description or an adjective -/
def vA5 (S : sS) : Prop := nmR S (fW S) (nW S) ≠ -1 ∧ (Xi S 914 (nmR S (fW S) (nW S)).toNat = 5 ∨ Xi S 914 (nmR S (fW S) (nW S)).toNat = 6)
noncomputable def rd5 (S : sS) : Int := if (Xi S 904 77 ≠ 0 ∧ Xi S 904 75 = 0) ∧ nW S ≤ 6 then dcT S (fW S) (nW S) 1 0 (-1) 4 else 0
def z9S (S : sS) : sS := uI S 904 109 (Int32.ofInt 0)
def DSX (S A : sS) : Prop := ((Xi S 904 77 ≠ 0 ∧ Xi S 904 75 = 0) → (nW S ≤ 6 → KDS (z9S S) A (fW S) (nW S) 1 0 (-1) 4) ∧ (6 < nW S → A = z9S S)) ∧ (¬ (Xi S 904 77 ≠ 0 ∧ Xi S 904 75 = 0) → A = z9S S)
noncomputable def n4S (S : sS) (x : Int × Int × Int) : Nat → Int × Int × Int
  | 0 => x
  | n + 1 => if rnR S (Xi S 904 71 + n) 4 = -1 then ntF (n4S S x n) 4 (pR S (Xi S 904 71 + n)) else n4S S x n
noncomputable def c4S (S : sS) (n : Nat) : Int := adR S (fW S) (nW S) (Xi S 918 (rnR S (Xi S 904 71 + n) 4).toNat) 0 (h15R S)
noncomputable def a4N (S : sS) (n : Nat) (y : Int × Int × Int) : Int × Int × Int := if c4S S n < 2 then y else ntF y 7 (Xi S 908 (fW S).toNat)
noncomputable def a4S (S : sS) (x : Int × Int × Int) : Nat → Int × Int × Int
  | 0 => x
  | n + 1 => if rnR S (Xi S 904 71 + n) 4 = -1 then a4S S x n else a4N S n (if 0 < c4S S n then a4S S x n else ntF (a4S S x n) 4 (Xi S 908 (fW S).toNat))
def lX4 : List rec := [(904, 905, 64, 65), (904, 905, 104, 105), (904, 905, 105, 106), (904, 905, 106, 107), (904, 905, 108, 109), (904, 905, 109, 110), (904, 905, 110, 111), (904, 905, 112, 113), (904, 905, 113, 114), (904, 905, 142, 143), (966, 967, 0, 100000), (967, 968, 0, 100000), (968, 969, 0, 100000)]
def RAX (S S1 : sS) : Prop :=
  (0 < rd5 S → ¬ vA5 S → Xi S1 904 142 = 3 ∧ ∃ (A B : sS) (nn : Int), (DSX S A ∧ FR lX4 S A ∧ NT3 A = NT3 S) ∧ ROI (uI A 904 142 (Int32.ofInt 3)) B (Xi S 904 71) (Xi S 904 72).toNat nn ∧ NT3 S1 = (if 2 ≤ rd5 S then ntF (NT3 B) 7 (Xi S 908 (fW S).toNat) else NT3 B) ∧ Xi S1 904 110 = Xi A 904 110 ∧ Xi S1 904 112 = Xi A 904 112 ∧ ∀ j : Nat, Xi S1 967 j = Xi A 967 j) ∧
  (0 < rd5 S → vA5 S → Xi S1 904 142 = 4 ∧ NT3 S1 = ntF (n4S S (NT3 S) (Xi S 904 72).toNat) 7 (Xi S 908 (fW S).toNat)) ∧
  (¬ 0 < rd5 S → ¬ vA5 S → Xi S1 904 142 = 4 ∧ NT3 S1 = ntF (n4S S (NT3 S) (Xi S 904 72).toNat) 4 (Xi S 908 (fW S).toNat)) ∧
  (¬ 0 < rd5 S → vA5 S → Xi S1 904 142 = 4 ∧ NT3 S1 = a4S S (n4S S (NT3 S) (Xi S 904 72).toNat) (Xi S 904 72).toNat)
theorem z9_am {S : sS} : AMR S (z9S S) := AMR_w AMR.rf rfl (by omega)
theorem dsx_r {S A : sS} (h : DSX S A) : Xi A 904 109 = rd5 S := by
  have z : Xi (z9S S) 904 109 = 0 := Xi_same (by unfold rg; omega)
  obtain ⟨h1, h2⟩ := h
  unfold rd5
  by_cases q : Xi S 904 77 ≠ 0 ∧ Xi S 904 75 = 0
  · by_cases w : nW S ≤ 6
    · have t := ((h1 q).1 w).1
      rw [z, dcT_am z9_am] at t
      rw [if_pos ⟨q, w⟩]; omega
    · rw [(h1 q).2 (by omega), if_neg (fun y => w y.2)]; exact z
  · rw [h2 q, if_neg (fun y => q y.1)]; exact z

def md_mo_askFifteen__4 : List rec := [(904, 905, 64, 65), (904, 905, 104, 105), (904, 905, 105, 106), (904, 905, 106, 107), (904, 905, 108, 109), (904, 905, 109, 110), (904, 905, 110, 111), (904, 905, 112, 113), (904, 905, 113, 114), (904, 905, 142, 143), (966, 967, 0, 100000), (967, 968, 0, 100000), (968, 969, 0, 100000)]
abbrev Q_mo_askFifteen__4 (S : sS) : pst := fun r S1 => RI S1 ∧ FR md_mo_askFifteen__4 S S1 ∧ (r = none ∧ (RAX S S1))
set_option maxRecDepth 100000 in
theorem t_mo_askFifteen__4 {S : sS} (hH : RI S) (hLS : LSP S) (h15 : 0 ≤ Xi S 904 15) (hRB : RBD S) (hLX : LXR S) (hB : ABV S) (hko : Hid (∀ j : Nat, -1 ≤ Xi S 918 j ∧ Xi S 918 j ≤ 15)) (hl : 0 ≤ Xi S 904 71 ∧ Xi S 904 71 ≤ 2600 ∧ 0 ≤ Xi S 904 72 ∧ Xi S 904 72 ≤ 2600) (hob : 0 ≤ Xi S 904 19 ∧ Xi S 904 19 ≤ 24) (hkk : Hid (∀ k : Nat, (k : Int) < Xi S 904 15 → Xi S 914 k ≤ 1 → Xi S 915 k ≤ 15)) (hp32 : 0 ≤ Xi S 904 32 ∧ Xi S 904 32 ≤ 12) (hu : Xi S 904 76 = 0) (hs : Xi S 904 70 = 15) (hz0 : Xi S 904 106 = 0 ∧ Xi S 904 108 = 0) (hnv : Hid (1 < tU5 S → Xi S 904 75 ≠ 0)) (hfw : 0 ≤ fW S ∧ fW S ≤ 5100 ∧ 0 ≤ nW S ∧ nW S ≤ 5100) (hpl : PLL S (Xi S 904 71) (Xi S 904 72).toNat) (d : Nat) : Mp lay0 (d + 11) m_mo_askFifteen [.ref 904] S (Q_mo_askFifteen__4 S) := by
  refine Mp_R rfl rfl (fun fu => ?_)
  have hF : FR md_mo_askFifteen__4 S S := FR.rf
  have w1 : -2147483648 ≤ Xi S 904 106 ∧ Xi S 904 106 ≤ 2147483647 := Xi_rgI
  have w2 : -2147483648 ≤ Xi S 904 108 ∧ Xi S 904 108 ≤ 2147483647 := Xi_rgI
  have w3 : -2147483648 ≤ Xi S 904 109 ∧ Xi S 904 109 ≤ 2147483647 := Xi_rgI
  have w4 : -2147483648 ≤ Xi S 904 142 ∧ Xi S 904 142 ≤ 2147483647 := Xi_rgI
  have w5 : -2147483648 ≤ Xi S 904 15 ∧ Xi S 904 15 ≤ 2147483647 := Xi_rgI
  have w6 : -2147483648 ≤ Xi S 904 19 ∧ Xi S 904 19 ≤ 2147483647 := Xi_rgI
  have w7 : -2147483648 ≤ Xi S 904 32 ∧ Xi S 904 32 ≤ 2147483647 := Xi_rgI
  have w8 : -2147483648 ≤ Xi S 904 70 ∧ Xi S 904 70 ≤ 2147483647 := Xi_rgI
  have w9 : -2147483648 ≤ Xi S 904 71 ∧ Xi S 904 71 ≤ 2147483647 := Xi_rgI
  have w10 : -2147483648 ≤ Xi S 904 72 ∧ Xi S 904 72 ≤ 2147483647 := Xi_rgI
  have w11 : -2147483648 ≤ Xi S 904 75 ∧ Xi S 904 75 ≤ 2147483647 := Xi_rgI
  have w12 : -2147483648 ≤ Xi S 904 76 ∧ Xi S 904 76 ≤ 2147483647 := Xi_rgI
  have w13 : -2147483648 ≤ Xi S 904 77 ∧ Xi S 904 77 ≤ 2147483647 := Xi_rgI
  have w14 : -2147483648 ≤ Xi S 904 78 ∧ Xi S 904 78 ≤ 2147483647 := Xi_rgI
  have fwe : fW S = Xi S 950 (Xi S 904 78).toNat := rfl
  have nwe : nW S = Xi S 951 (Xi S 904 78).toNat := rfl
  have C271 : ∀  (v1 : Int) (v2 : Int) (v5 : Int), (-2147483648 ≤ v1 ∧ v1 ≤ 2147483647) → (-2147483648 ≤ v2 ∧ v2 ≤ 2147483600) → (0 ≤ v5 ∧ v5 ≤ 1) → (S = S) → (v1 = Xi S 904 71) → (v2 = fW S) → (0 ≤ v5 ∧ v5 ≤ 1) → (Hid ((v5 = 1 → vA5 S) ∧ (v5 = 0 → ¬ vA5 S))) → Pl fu lay0 (d + 10) m_mo_askFifteen 271 [(0, .ref 904), (1, iv v1), (2, iv v2), (5, iv v5)] [] S (Q_mo_askFifteen__4 S) := by
    intro v1 v2 v5 w15 w16 w17 e271 i271a i271b w18 p271
    have C307 : ∀  (T1 : sS) (_ : RI T1) (_ : FR md_mo_askFifteen__4 S T1) (v1 : Int) (v2 : Int) (v5 : Int), (-2147483648 ≤ v1 ∧ v1 ≤ 2147483647) → (-2147483648 ≤ v2 ∧ v2 ≤ 2147483600) → (0 ≤ v5 ∧ v5 ≤ 1) → (v1 = Xi S 904 71) → (v2 = fW S) → (0 ≤ v5 ∧ v5 ≤ 1) → (Hid ((v5 = 1 → vA5 S) ∧ (v5 = 0 → ¬ vA5 S))) → (Hid (DSX S T1)) → (NT3 T1 = NT3 S) → (Xi T1 904 109 = rd5 S) → (Xi T1 904 106 = 0) → (Xi T1 904 71 = Xi S 904 71) → (Xi T1 904 72 = Xi S 904 72) → (Xi T1 904 75 = Xi S 904 75) → (Xi T1 904 77 = Xi S 904 77) → (Xi T1 904 78 = Xi S 904 78) → (Xi T1 904 108 = Xi S 904 108) → Pl fu lay0 (d + 10) m_mo_askFifteen 307 [(0, .ref 904), (1, iv v1), (2, iv v2), (5, iv v5)] [] T1 (Q_mo_askFifteen__4 S) := by
      intro T1 hHT1 hFT1 v1 v2 v5 w19 w20 w21 i307a i307b w22 p307 D307 N307 R307 w23 w24 w25 w26 w27 w28 w29
      have w30 : Xi T1 904 15 = Xi S 904 15 := hFT1.x _ _ rfl
      have w31 : Xi T1 904 16 = Xi S 904 16 := hFT1.x _ _ rfl
      have w32 : Xi T1 904 19 = Xi S 904 19 := hFT1.x _ _ rfl
      have w33 : Xi T1 904 30 = Xi S 904 30 := hFT1.x _ _ rfl
      have w34 : Xi T1 904 32 = Xi S 904 32 := hFT1.x _ _ rfl
      have w35 : Xi T1 904 69 = Xi S 904 69 := hFT1.x _ _ rfl
      have w36 : Xi T1 904 70 = Xi S 904 70 := hFT1.x _ _ rfl
      have w37 : Xi T1 904 71 = Xi S 904 71 := hFT1.x _ _ rfl
      have w38 : Xi T1 904 72 = Xi S 904 72 := hFT1.x _ _ rfl
      have w39 : Xi T1 904 75 = Xi S 904 75 := hFT1.x _ _ rfl
      have w40 : Xi T1 904 76 = Xi S 904 76 := hFT1.x _ _ rfl
      have w41 : Xi T1 904 77 = Xi S 904 77 := hFT1.x _ _ rfl
      have w42 : Xi T1 904 78 = Xi S 904 78 := hFT1.x _ _ rfl
      have w43 : -2147483648 ≤ Xi T1 904 106 ∧ Xi T1 904 106 ≤ 2147483647 := Xi_rgI
      have w44 : -2147483648 ≤ Xi T1 904 108 ∧ Xi T1 904 108 ≤ 2147483647 := Xi_rgI
      have w45 : -2147483648 ≤ Xi T1 904 109 ∧ Xi T1 904 109 ≤ 2147483647 := Xi_rgI
      have w46 : -2147483648 ≤ Xi T1 904 15 ∧ Xi T1 904 15 ≤ 2147483647 := Xi_rgI
      have w47 : -2147483648 ≤ Xi T1 904 19 ∧ Xi T1 904 19 ≤ 2147483647 := Xi_rgI
      have w48 : -2147483648 ≤ Xi T1 904 32 ∧ Xi T1 904 32 ≤ 2147483647 := Xi_rgI
      have w49 : -2147483648 ≤ Xi T1 904 70 ∧ Xi T1 904 70 ≤ 2147483647 := Xi_rgI
      have w50 : -2147483648 ≤ Xi T1 904 71 ∧ Xi T1 904 71 ≤ 2147483647 := Xi_rgI
      have w51 : -2147483648 ≤ Xi T1 904 72 ∧ Xi T1 904 72 ≤ 2147483647 := Xi_rgI
      have w52 : -2147483648 ≤ Xi T1 904 75 ∧ Xi T1 904 75 ≤ 2147483647 := Xi_rgI
      have w53 : -2147483648 ≤ Xi T1 904 76 ∧ Xi T1 904 76 ≤ 2147483647 := Xi_rgI
      have w54 : -2147483648 ≤ Xi T1 904 77 ∧ Xi T1 904 77 ≤ 2147483647 := Xi_rgI
      have w55 : -2147483648 ≤ Xi T1 904 78 ∧ Xi T1 904 78 ≤ 2147483647 := Xi_rgI
      have C340 : ∀  (T2 : sS) (_ : RI T2) (_ : FR md_mo_askFifteen__4 S T2) (v1 : Int) (v2 : Int) (v5 : Int) (v6 : Int), (-2147483648 ≤ v1 ∧ v1 ≤ 2147483647) → (-2147483648 ≤ v2 ∧ v2 ≤ 2147483600) → (0 ≤ v5 ∧ v5 ≤ 1) → (0 ≤ v6 ∧ v6 ≤ 1) → (v1 = Xi S 904 71) → (v2 = fW S) → (0 ≤ v5 ∧ v5 ≤ 1) → (Hid ((v5 = 1 → vA5 S) ∧ (v5 = 0 → ¬ vA5 S))) → (0 ≤ v6 ∧ v6 ≤ 1) → (Hid ((v6 = 1 → 0 < rd5 S) ∧ (v6 = 0 → ¬ 0 < rd5 S))) → (Hid (∃ A : sS, (DSX S A ∧ FR lX4 S A ∧ NT3 A = NT3 S) ∧ T2 = uI A 904 142 (Int32.ofInt (if v6 = 1 ∧ v5 = 0 then 3 else 4)))) → (NT3 T2 = NT3 S) → (Xi T2 904 109 = rd5 S) → (Xi T2 904 142 = (if v6 = 1 ∧ v5 = 0 then 3 else 4)) → (Xi T2 904 106 = 0) → (Xi T2 904 71 = Xi S 904 71) → (Xi T2 904 72 = Xi S 904 72) → (Xi T2 904 75 = Xi S 904 75) → (Xi T2 904 77 = Xi S 904 77) → (Xi T2 904 78 = Xi S 904 78) → (Xi T2 904 108 = Xi S 904 108) → Pl fu lay0 (d + 10) m_mo_askFifteen 340 [(0, .ref 904), (1, iv v1), (2, iv v2), (5, iv v5), (6, iv v6)] [] T2 (Q_mo_askFifteen__4 S) := by
        intro T2 hHT2 hFT2 v1 v2 v5 v6 w56 w57 w58 w59 i340a i340b w60 p340 w61 q340 D340 N340 R340 h340 w62 w63 w64 w65 w66 w67 w68
        have w69 : Xi T2 904 15 = Xi S 904 15 := hFT2.x _ _ rfl
        have w70 : Xi T2 904 16 = Xi S 904 16 := hFT2.x _ _ rfl
        have w71 : Xi T2 904 19 = Xi S 904 19 := hFT2.x _ _ rfl
        have w72 : Xi T2 904 30 = Xi S 904 30 := hFT2.x _ _ rfl
        have w73 : Xi T2 904 32 = Xi S 904 32 := hFT2.x _ _ rfl
        have w74 : Xi T2 904 69 = Xi S 904 69 := hFT2.x _ _ rfl
        have w75 : Xi T2 904 70 = Xi S 904 70 := hFT2.x _ _ rfl
        have w76 : Xi T2 904 71 = Xi S 904 71 := hFT2.x _ _ rfl
        have w77 : Xi T2 904 72 = Xi S 904 72 := hFT2.x _ _ rfl
        have w78 : Xi T2 904 75 = Xi S 904 75 := hFT2.x _ _ rfl
        have w79 : Xi T2 904 76 = Xi S 904 76 := hFT2.x _ _ rfl
        have w80 : Xi T2 904 77 = Xi S 904 77 := hFT2.x _ _ rfl
        have w81 : Xi T2 904 78 = Xi S 904 78 := hFT2.x _ _ rfl
        have w82 : -2147483648 ≤ Xi T2 904 106 ∧ Xi T2 904 106 ≤ 2147483647 := Xi_rgI
        have w83 : -2147483648 ≤ Xi T2 904 108 ∧ Xi T2 904 108 ≤ 2147483647 := Xi_rgI
        have w84 : -2147483648 ≤ Xi T2 904 109 ∧ Xi T2 904 109 ≤ 2147483647 := Xi_rgI
        have w85 : -2147483648 ≤ Xi T2 904 142 ∧ Xi T2 904 142 ≤ 2147483647 := Xi_rgI
        have w86 : -2147483648 ≤ Xi T2 904 15 ∧ Xi T2 904 15 ≤ 2147483647 := Xi_rgI
        have w87 : -2147483648 ≤ Xi T2 904 19 ∧ Xi T2 904 19 ≤ 2147483647 := Xi_rgI
        have w88 : -2147483648 ≤ Xi T2 904 32 ∧ Xi T2 904 32 ≤ 2147483647 := Xi_rgI
        have w89 : -2147483648 ≤ Xi T2 904 70 ∧ Xi T2 904 70 ≤ 2147483647 := Xi_rgI
        have w90 : -2147483648 ≤ Xi T2 904 71 ∧ Xi T2 904 71 ≤ 2147483647 := Xi_rgI
        have w91 : -2147483648 ≤ Xi T2 904 72 ∧ Xi T2 904 72 ≤ 2147483647 := Xi_rgI
        have w92 : -2147483648 ≤ Xi T2 904 75 ∧ Xi T2 904 75 ≤ 2147483647 := Xi_rgI
        have w93 : -2147483648 ≤ Xi T2 904 76 ∧ Xi T2 904 76 ≤ 2147483647 := Xi_rgI
        have w94 : -2147483648 ≤ Xi T2 904 77 ∧ Xi T2 904 77 ≤ 2147483647 := Xi_rgI
        have w95 : -2147483648 ≤ Xi T2 904 78 ∧ Xi T2 904 78 ≤ 2147483647 := Xi_rgI
        have C361 : ∀ (n361 : Nat) (_ : n361 ≤ fu) (T3 : sS) (_ : RI T3) (_ : FR md_mo_askFifteen__4 S T3) (v1 : Int) (v2 : Int) (v5 : Int) (v6 : Int) (v7 : Int), (-2147483648 ≤ v1 ∧ v1 ≤ 2147483647) → (-2147483648 ≤ v2 ∧ v2 ≤ 2147483600) → (0 ≤ v5 ∧ v5 ≤ 1) → (0 ≤ v6 ∧ v6 ≤ 1) → (0 ≤ v7 ∧ v7 ≤ 2600) → (v1 = Xi S 904 71) → (v2 = fW S) → (0 ≤ v5 ∧ v5 ≤ 1) → (Hid ((v5 = 1 → vA5 S) ∧ (v5 = 0 → ¬ vA5 S))) → (0 ≤ v6 ∧ v6 ≤ 1) → (Hid ((v6 = 1 → 0 < rd5 S) ∧ (v6 = 0 → ¬ 0 < rd5 S))) → (0 ≤ v7 ∧ v7 ≤ Xi S 904 72) → (NT3 T3 = n4S S (NT3 S) (v7).toNat) → (Xi T3 904 142 = 4) → (Hid (¬ (v6 = 1 ∧ v5 = 0))) → (Xi T3 904 71 = Xi S 904 71) → (Xi T3 904 72 = Xi S 904 72) → (Xi T3 904 75 = Xi S 904 75) → (Xi T3 904 77 = Xi S 904 77) → (Xi T3 904 78 = Xi S 904 78) → (Xi T3 904 108 = Xi S 904 108) → Pl n361 lay0 (d + 10) m_mo_askFifteen 361 [(0, .ref 904), (1, iv v1), (2, iv v2), (5, iv v5), (6, iv v6), (7, iv v7)] [] T3 (Q_mo_askFifteen__4 S) := by
          intro n361
          induction n361 with
          | zero => intros; exact Pl_0
          | succ n361 ih361 =>
            intro hm361 T3 hHT3 hFT3 v1 v2 v5 v6 v7 w96 w97 w98 w99 w100 i361a i361b w101 p361 w102 q361 w103 N361 h361 v361 w104 w105 w106 w107 w108 w109
            have w110 : Xi T3 904 15 = Xi S 904 15 := hFT3.x _ _ rfl
            have w111 : Xi T3 904 16 = Xi S 904 16 := hFT3.x _ _ rfl
            have w112 : Xi T3 904 19 = Xi S 904 19 := hFT3.x _ _ rfl
            have w113 : Xi T3 904 30 = Xi S 904 30 := hFT3.x _ _ rfl
            have w114 : Xi T3 904 32 = Xi S 904 32 := hFT3.x _ _ rfl
            have w115 : Xi T3 904 69 = Xi S 904 69 := hFT3.x _ _ rfl
            have w116 : Xi T3 904 70 = Xi S 904 70 := hFT3.x _ _ rfl
            have w117 : Xi T3 904 71 = Xi S 904 71 := hFT3.x _ _ rfl
            have w118 : Xi T3 904 72 = Xi S 904 72 := hFT3.x _ _ rfl
            have w119 : Xi T3 904 75 = Xi S 904 75 := hFT3.x _ _ rfl
            have w120 : Xi T3 904 76 = Xi S 904 76 := hFT3.x _ _ rfl
            have w121 : Xi T3 904 77 = Xi S 904 77 := hFT3.x _ _ rfl
            have w122 : Xi T3 904 78 = Xi S 904 78 := hFT3.x _ _ rfl
            have w123 : -2147483648 ≤ Xi T3 904 106 ∧ Xi T3 904 106 ≤ 2147483647 := Xi_rgI
            have w124 : -2147483648 ≤ Xi T3 904 108 ∧ Xi T3 904 108 ≤ 2147483647 := Xi_rgI
            have w125 : -2147483648 ≤ Xi T3 904 142 ∧ Xi T3 904 142 ≤ 2147483647 := Xi_rgI
            have w126 : -2147483648 ≤ Xi T3 904 15 ∧ Xi T3 904 15 ≤ 2147483647 := Xi_rgI
            have w127 : -2147483648 ≤ Xi T3 904 19 ∧ Xi T3 904 19 ≤ 2147483647 := Xi_rgI
            have w128 : -2147483648 ≤ Xi T3 904 32 ∧ Xi T3 904 32 ≤ 2147483647 := Xi_rgI
            have w129 : -2147483648 ≤ Xi T3 904 70 ∧ Xi T3 904 70 ≤ 2147483647 := Xi_rgI
            have w130 : -2147483648 ≤ Xi T3 904 71 ∧ Xi T3 904 71 ≤ 2147483647 := Xi_rgI
            have w131 : -2147483648 ≤ Xi T3 904 72 ∧ Xi T3 904 72 ≤ 2147483647 := Xi_rgI
            have w132 : -2147483648 ≤ Xi T3 904 75 ∧ Xi T3 904 75 ≤ 2147483647 := Xi_rgI
            have w133 : -2147483648 ≤ Xi T3 904 76 ∧ Xi T3 904 76 ≤ 2147483647 := Xi_rgI
            have w134 : -2147483648 ≤ Xi T3 904 77 ∧ Xi T3 904 77 ≤ 2147483647 := Xi_rgI
            have w135 : -2147483648 ≤ Xi T3 904 78 ∧ Xi T3 904 78 ≤ 2147483647 := Xi_rgI
            have C432 : ∀ (n432 : Nat) (_ : n432 ≤ n361) (T4 : sS) (_ : RI T4) (_ : FR md_mo_askFifteen__4 S T4) (v1 : Int) (v2 : Int) (v5 : Int) (v7 : Int), (-2147483648 ≤ v1 ∧ v1 ≤ 2147483647) → (-2147483648 ≤ v2 ∧ v2 ≤ 2147483600) → (0 ≤ v5 ∧ v5 ≤ 1) → (0 ≤ v7 ∧ v7 ≤ 2600) → (v1 = Xi S 904 71) → (v2 = fW S) → (0 ≤ v5 ∧ v5 ≤ 1) → (Hid ((v5 = 1 → vA5 S) ∧ (v5 = 0 → ¬ vA5 S))) → (0 ≤ v7 ∧ v7 ≤ Xi S 904 72) → (¬ 0 < rd5 S) → (Hid ((v5 = 1 → NT3 T4 = a4S S (n4S S (NT3 S) (Xi S 904 72).toNat) (v7).toNat) ∧ (v5 = 0 → NT3 T4 = ntF (n4S S (NT3 S) (Xi S 904 72).toNat) 4 (Xi S 908 (fW S).toNat)))) → (Xi T4 904 142 = 4) → (Xi T4 904 71 = Xi S 904 71) → (Xi T4 904 72 = Xi S 904 72) → (Xi T4 904 75 = Xi S 904 75) → (Xi T4 904 77 = Xi S 904 77) → (Xi T4 904 78 = Xi S 904 78) → (Xi T4 904 108 = Xi S 904 108) → Pl n432 lay0 (d + 10) m_mo_askFifteen 432 [(0, .ref 904), (1, iv v1), (2, iv v2), (5, iv v5), (7, iv v7)] [] T4 (Q_mo_askFifteen__4 S) := by
              intro n432
              induction n432 with
              | zero => intros; exact Pl_0
              | succ n432 ih432 =>
                intro hm432 T4 hHT4 hFT4 v1 v2 v5 v7 w136 w137 w138 w139 i432a i432b w140 p432 w141 q432 N432 h432 w142 w143 w144 w145 w146 w147
                have w148 : Xi T4 904 15 = Xi S 904 15 := hFT4.x _ _ rfl
                have w149 : Xi T4 904 16 = Xi S 904 16 := hFT4.x _ _ rfl
                have w150 : Xi T4 904 19 = Xi S 904 19 := hFT4.x _ _ rfl
                have w151 : Xi T4 904 30 = Xi S 904 30 := hFT4.x _ _ rfl
                have w152 : Xi T4 904 32 = Xi S 904 32 := hFT4.x _ _ rfl
                have w153 : Xi T4 904 69 = Xi S 904 69 := hFT4.x _ _ rfl
                have w154 : Xi T4 904 70 = Xi S 904 70 := hFT4.x _ _ rfl
                have w155 : Xi T4 904 71 = Xi S 904 71 := hFT4.x _ _ rfl
                have w156 : Xi T4 904 72 = Xi S 904 72 := hFT4.x _ _ rfl
                have w157 : Xi T4 904 75 = Xi S 904 75 := hFT4.x _ _ rfl
                have w158 : Xi T4 904 76 = Xi S 904 76 := hFT4.x _ _ rfl
                have w159 : Xi T4 904 77 = Xi S 904 77 := hFT4.x _ _ rfl
                have w160 : Xi T4 904 78 = Xi S 904 78 := hFT4.x _ _ rfl
                have w161 : -2147483648 ≤ Xi T4 904 106 ∧ Xi T4 904 106 ≤ 2147483647 := Xi_rgI
                have w162 : -2147483648 ≤ Xi T4 904 108 ∧ Xi T4 904 108 ≤ 2147483647 := Xi_rgI
                have w163 : -2147483648 ≤ Xi T4 904 142 ∧ Xi T4 904 142 ≤ 2147483647 := Xi_rgI
                have w164 : -2147483648 ≤ Xi T4 904 15 ∧ Xi T4 904 15 ≤ 2147483647 := Xi_rgI
                have w165 : -2147483648 ≤ Xi T4 904 19 ∧ Xi T4 904 19 ≤ 2147483647 := Xi_rgI
                have w166 : -2147483648 ≤ Xi T4 904 32 ∧ Xi T4 904 32 ≤ 2147483647 := Xi_rgI
                have w167 : -2147483648 ≤ Xi T4 904 70 ∧ Xi T4 904 70 ≤ 2147483647 := Xi_rgI
                have w168 : -2147483648 ≤ Xi T4 904 71 ∧ Xi T4 904 71 ≤ 2147483647 := Xi_rgI
                have w169 : -2147483648 ≤ Xi T4 904 72 ∧ Xi T4 904 72 ≤ 2147483647 := Xi_rgI
                have w170 : -2147483648 ≤ Xi T4 904 75 ∧ Xi T4 904 75 ≤ 2147483647 := Xi_rgI
                have w171 : -2147483648 ≤ Xi T4 904 76 ∧ Xi T4 904 76 ≤ 2147483647 := Xi_rgI
                have w172 : -2147483648 ≤ Xi T4 904 77 ∧ Xi T4 904 77 ≤ 2147483647 := Xi_rgI
                have w173 : -2147483648 ≤ Xi T4 904 78 ∧ Xi T4 904 78 ≤ 2147483647 := Xi_rgI
                refine ys_iload rfl rfl ?_
                refine y_aload_n rfl rfl ?_
                refine y_gfi rfl rfl rfl rfl rfl ?_
                refine y_icmp_ge rfl rfl (by unfold rg; omega) (by unfold rg; omega) (fun w174 => ?_) (fun w175 => ?_)
                · refine y_return rfl rfl ?_
                  exact ⟨hHT4, hFT4, rfl, (by first | (have t := K354; exact R354) | (have t := K417; exact R417) | (have a := p432.o; have b := q432; exact ⟨fun q => absurd q b, fun q => absurd q b, fun _ n => ⟨by omega, N432.o.2 (by by_cases y : v5 = 1; exact absurd (a.1 y) n; omega)⟩, fun _ y => ⟨by omega, by by_cases w : v5 = 1; (have t := N432.o.1 w; rw [show v7 = Xi S 904 72 by omega] at t; exact t); exact absurd y (a.2 (by omega))⟩⟩))⟩
                · refine y_iload rfl rfl ?_
                  refine y_if_eq rfl rfl (by unfold rg; omega) (fun w176 => ?_) (fun w177 => ?_)
                  · refine y_return rfl rfl ?_
                    exact ⟨hHT4, hFT4, rfl, (by first | (have t := K354; exact R354) | (have t := K417; exact R417) | (have a := p432.o; have b := q432; exact ⟨fun q => absurd q b, fun q => absurd q b, fun _ n => ⟨by omega, N432.o.2 (by by_cases y : v5 = 1; exact absurd (a.1 y) n; omega)⟩, fun _ y => ⟨by omega, by by_cases w : v5 = 1; (have t := N432.o.1 w; rw [show v7 = Xi S 904 72 by omega] at t; exact t); exact absurd y (a.2 (by omega))⟩⟩))⟩
                  · refine y_aload_n rfl rfl ?_
                    refine y_iload_n rfl rfl ?_
                    refine y_iload rfl rfl ?_
                    refine y_iadd rfl ?_
                    refine y_iconst rfl ?_
                    refine y_callV rfl rfl rfl (t_mo_meansRun__p hHT4 (v1 + v7) 4 ⟨by omega, by omega⟩ ⟨by omega, by omega⟩ (by first | assumption | exact (LSP_FR hFT4 rfl rfl (by assumption : LSP S))) (by first | assumption | omega) (by first | assumption | exact (RBD_FR hFT4 rfl (by assumption : RBD S))) _) ?_
                    rintro _ _ ⟨rfl, z178, rfl, w178, f452⟩
                    show Pl _ _ _ _ _ _ [iv z178] _ _
                    have e452 : z178 = rnR S (Xi S 904 71 + ((v7.toNat : Nat) : Int)) 4 := by have t := f452; rw [rnR_sm (SMR_FR hFT4 rfl rfl), show v1 + v7 = Xi S 904 71 + ((v7.toNat : Nat) : Int) by omega] at t; exact t
                    clear f452
                    have M452 := N432.o.1 (by omega)
                    refine y_istore rfl rfl rfl ?_
                    refine y_iload rfl rfl ?_
                    refine y_iconst rfl ?_
                    refine y_icmp_eq rfl rfl (by unfold rg; omega) (by unfold rg; omega) (fun w179 => ?_) (fun w180 => ?_)
                    · refine y_iinc rfl rfl rfl rfl ?_
                      have N533 : NT3 T4 = a4S S (n4S S (NT3 S) (Xi S 904 72).toNat) (v7 + 1).toNat := by rw [show (v7 + 1).toNat = v7.toNat + 1 by omega]; show _ = if rnR S (Xi S 904 71 + ((v7.toNat : Nat) : Int)) 4 = -1 then _ else _; first | (have t := K494; rw [if_neg (by omega)]; unfold a4N; rw [n530, n512, t494]) | (rw [if_pos (by omega)]; exact M452)
                      have H533 : Xi T4 904 142 = 4 := by first | (have t := K494; rw [(by assumption : FR md_mo_need__p _ T4).x 904 142 rfl]; exact H512) | exact h432
                      refine y_goto rfl rfl ?_
                      exact Pl_weak (ih432 (by omega) T4 hHT4 hFT4 (v1) (v2) (v5) ((v7 + 1)) (by omega) (by omega) (by omega) (by omega) (by first | exact i432a | exact i361a) (by first | exact i432b | exact i361b) (by omega) (by first | exact p432 | exact p361) (by omega) (by first | exact q432 | exact q361.o.2 (by omega)) (by first | exact ⟨fun _ => N533, fun q => absurd q (by omega)⟩ | exact N426) (by first | exact H533 | exact ((by assumption : FR md_mo_need__p T4 T4).x 904 142 rfl).trans h361) (by omega) (by omega) (by omega) (by omega) (by omega) (by omega)) (by omega) (And.intro rfl (And.intro rfl (And.intro rfl (And.intro rfl (And.intro rfl (True.intro))))))
                    · refine y_aload_n rfl rfl ?_
                      refine y_iload_n rfl rfl ?_
                      refine y_aload_n rfl rfl ?_
                      refine y_gfr rfl rfl rfl rfl rfl (hHT4.r 904 68 951 rfl) ?_
                      refine y_aload_n rfl rfl ?_
                      refine y_gfi rfl rfl rfl rfl rfl ?_
                      refine y_ialoadP (n := 2600) rfl rfl (by unfold rg; omega) (fun w181 w182 => ?_)
                      have w183 : -2147483648 ≤ (Xi T4 951 (((Xi T4 904 78)).toNat)) ∧ (Xi T4 951 (((Xi T4 904 78)).toNat)) ≤ 2147483647 := Xi_rgI
                      have e473 : (Xi T4 951 (((Xi T4 904 78)).toNat)) = nW S := by rw [nwe, (SMR_FR hFT4 rfl rfl).2.1 951 _ (by omega), show Xi T4 904 78 = Xi S 904 78 by omega]
                      refine y_aload_n rfl rfl ?_
                      refine y_gfr rfl rfl rfl rfl rfl (hHT4.r 904 20 918 rfl) ?_
                      refine y_iload rfl rfl ?_
                      refine y_ialoadP (n := 24) rfl rfl (by unfold rg; omega) (fun w184 w185 => ?_)
                      have w186 : -2147483648 ≤ (Xi T4 918 ((z178).toNat)) ∧ (Xi T4 918 ((z178).toNat)) ≤ 2147483647 := Xi_rgI
                      have e480 : (Xi T4 918 ((z178).toNat)) = Xi S 918 (rnR S (Xi S 904 71 + ((v7.toNat : Nat) : Int)) 4).toNat := by rw [(hFT4.cx 918 rfl _).1, e452]
                      have k480 := hko.o (rnR S (Xi S 904 71 + ((v7.toNat : Nat) : Int)) 4).toNat
                      refine y_iconst rfl ?_
                      refine y_aload_n rfl rfl ?_
                      refine y_gfi rfl rfl rfl rfl rfl ?_
                      refine y_if_ne rfl rfl (by unfold rg; omega) (fun w187 => ?_) (fun w188 => ?_)
                      · refine y_iconst rfl ?_
                        refine y_callV rfl rfl rfl (t_mo_adjective__p hHT4 v2 (Xi T4 951 (((Xi T4 904 78)).toNat)) (Xi T4 918 ((z178).toNat)) 0 0 ⟨by omega, by omega⟩ ⟨by omega, by omega⟩ ⟨by omega, by omega⟩ ⟨by omega, by omega⟩ ⟨by omega, by omega⟩ (by first | assumption | exact (LSP_FR hFT4 rfl rfl (by assumption : LSP S))) (by first | assumption | omega) (by first | assumption | exact (LXR_FR hFT4 rfl rfl (by assumption : LXR S))) (by first | assumption | exact (ABV_FR hFT4 rfl (by assumption : ABV S))) (by first | assumption | omega) _) ?_
                        rintro _ T5 ⟨hHT5, w191, z190, rfl, w190, f494, w189⟩
                        have hFT5 : FR md_mo_askFifteen__4 S T5 := FR.tr hFT4 w191 rfl
                        show Pl _ _ _ _ _ _ [iv z190] _ _
                        have K494 : True := trivial
                        have F494 := (by assumption : FR md_mo_adjective__p T4 T5)
                        have c494 : z190 = c4S S v7.toNat := by have t := f494; rw [adR_am (AMR_FR hFT4 rfl rfl), i432b, e473, e480] at t; unfold c4S h15R; first | (rw [if_pos (by omega)]; exact t) | (rw [if_neg (by omega)]; exact t)
                        clear f494
                        have t494 : NT3 T5 = a4S S (n4S S (NT3 S) (Xi S 904 72).toNat) v7.toNat := by have t := M452; unfold NT3 at t ⊢; rw [F494.x 904 106 rfl, F494.x 904 105 rfl, F494.x 904 104 rfl]; exact t
                        refine y_istore rfl rfl rfl ?_
                        refine y_aload_n rfl rfl ?_
                        refine y_iload rfl rfl ?_
                        refine y_if_le rfl rfl (by unfold rg; omega) (fun w192 => ?_) (fun w193 => ?_)
                        · refine y_iconst rfl ?_
                          refine y_iconst rfl ?_
                          refine y_iload_n rfl rfl ?_
                          have w194 : Xi T5 904 106 = Xi T4 904 106 := (show Xi T5 904 106 = Xi T4 904 106 from w191.x _ _ rfl)
                          have w195 : Xi T5 904 108 = Xi T4 904 108 := (show Xi T5 904 108 = Xi T4 904 108 from w191.x _ _ rfl)
                          have w196 : Xi T5 904 15 = Xi T4 904 15 := (show Xi T5 904 15 = Xi T4 904 15 from w191.x _ _ rfl)
                          have w197 : Xi T5 904 19 = Xi T4 904 19 := (show Xi T5 904 19 = Xi T4 904 19 from w191.x _ _ rfl)
                          have w198 : Xi T5 904 32 = Xi T4 904 32 := (show Xi T5 904 32 = Xi T4 904 32 from w191.x _ _ rfl)
                          have w199 : Xi T5 904 70 = Xi T4 904 70 := (show Xi T5 904 70 = Xi T4 904 70 from w191.x _ _ rfl)
                          have w200 : Xi T5 904 71 = Xi T4 904 71 := (show Xi T5 904 71 = Xi T4 904 71 from w191.x _ _ rfl)
                          have w201 : Xi T5 904 72 = Xi T4 904 72 := (show Xi T5 904 72 = Xi T4 904 72 from w191.x _ _ rfl)
                          have w202 : Xi T5 904 75 = Xi T4 904 75 := (show Xi T5 904 75 = Xi T4 904 75 from w191.x _ _ rfl)
                          have w203 : Xi T5 904 76 = Xi T4 904 76 := (show Xi T5 904 76 = Xi T4 904 76 from w191.x _ _ rfl)
                          have w204 : Xi T5 904 77 = Xi T4 904 77 := (show Xi T5 904 77 = Xi T4 904 77 from w191.x _ _ rfl)
                          have w205 : Xi T5 904 78 = Xi T4 904 78 := (show Xi T5 904 78 = Xi T4 904 78 from w191.x _ _ rfl)
                          refine y_callV rfl rfl rfl (t_mo_need__p hHT5 0 4 v2 ⟨by omega, by omega⟩ ⟨by omega, by omega⟩ ⟨by omega, by omega⟩ _) ?_
                          rintro _ T6 ⟨hHT6, w207, rfl, nt512⟩
                          have hFT6 : FR md_mo_askFifteen__4 S T6 := FR.tr hFT5 w207 rfl
                          show Pl _ _ _ _ _ _ [] _ _
                          have n512 : NT3 T6 = if 0 < c4S S v7.toNat then NT3 T5 else ntF (NT3 T5) 4 (Xi S 908 (fW S).toNat) := by have t := nt512; rw [(SMR_FR hFT5 rfl rfl).2.1 908 _ (by omega), i432b] at t; first | (rw [if_pos (by omega)]; rw [if_neg (show ¬ (1 : Int) = 0 by decide)] at t; exact t) | (rw [if_neg (by omega)]; rw [if_pos (show (0 : Int) = 0 from rfl)] at t; exact t)
                          clear nt512
                          have H512 : Xi T6 904 142 = 4 := ((by assumption : FR md_mo_need__p T5 T6).x 904 142 rfl).trans ((F494.x 904 142 rfl).trans h432)
                          refine y_aload_n rfl rfl ?_
                          refine y_iload rfl rfl ?_
                          refine y_iconst rfl ?_
                          refine y_icmp_ge rfl rfl (by unfold rg; omega) (by unfold rg; omega) (fun w208 => ?_) (fun w209 => ?_)
                          · refine y_iconst rfl ?_
                            refine y_bipush rfl rfl ?_
                            refine y_iload_n rfl rfl ?_
                            have w210 : Xi T6 904 108 = Xi T4 904 108 := (show Xi T6 904 108 = Xi T5 904 108 from w207.x _ _ rfl).trans ((show Xi T5 904 108 = Xi T4 904 108 from w191.x _ _ rfl))
                            have w211 : Xi T6 904 15 = Xi T4 904 15 := (show Xi T6 904 15 = Xi T5 904 15 from w207.x _ _ rfl).trans ((show Xi T5 904 15 = Xi T4 904 15 from w191.x _ _ rfl))
                            have w212 : Xi T6 904 19 = Xi T4 904 19 := (show Xi T6 904 19 = Xi T5 904 19 from w207.x _ _ rfl).trans ((show Xi T5 904 19 = Xi T4 904 19 from w191.x _ _ rfl))
                            have w213 : Xi T6 904 32 = Xi T4 904 32 := (show Xi T6 904 32 = Xi T5 904 32 from w207.x _ _ rfl).trans ((show Xi T5 904 32 = Xi T4 904 32 from w191.x _ _ rfl))
                            have w214 : Xi T6 904 70 = Xi T4 904 70 := (show Xi T6 904 70 = Xi T5 904 70 from w207.x _ _ rfl).trans ((show Xi T5 904 70 = Xi T4 904 70 from w191.x _ _ rfl))
                            have w215 : Xi T6 904 71 = Xi T4 904 71 := (show Xi T6 904 71 = Xi T5 904 71 from w207.x _ _ rfl).trans ((show Xi T5 904 71 = Xi T4 904 71 from w191.x _ _ rfl))
                            have w216 : Xi T6 904 72 = Xi T4 904 72 := (show Xi T6 904 72 = Xi T5 904 72 from w207.x _ _ rfl).trans ((show Xi T5 904 72 = Xi T4 904 72 from w191.x _ _ rfl))
                            have w217 : Xi T6 904 75 = Xi T4 904 75 := (show Xi T6 904 75 = Xi T5 904 75 from w207.x _ _ rfl).trans ((show Xi T5 904 75 = Xi T4 904 75 from w191.x _ _ rfl))
                            have w218 : Xi T6 904 76 = Xi T4 904 76 := (show Xi T6 904 76 = Xi T5 904 76 from w207.x _ _ rfl).trans ((show Xi T5 904 76 = Xi T4 904 76 from w191.x _ _ rfl))
                            have w219 : Xi T6 904 77 = Xi T4 904 77 := (show Xi T6 904 77 = Xi T5 904 77 from w207.x _ _ rfl).trans ((show Xi T5 904 77 = Xi T4 904 77 from w191.x _ _ rfl))
                            have w220 : Xi T6 904 78 = Xi T4 904 78 := (show Xi T6 904 78 = Xi T5 904 78 from w207.x _ _ rfl).trans ((show Xi T5 904 78 = Xi T4 904 78 from w191.x _ _ rfl))
                            refine y_callV rfl rfl rfl (t_mo_need__p hHT6 0 7 v2 ⟨by omega, by omega⟩ ⟨by omega, by omega⟩ ⟨by omega, by omega⟩ _) ?_
                            rintro _ T7 ⟨hHT7, w222, rfl, nt530⟩
                            have hFT7 : FR md_mo_askFifteen__4 S T7 := FR.tr hFT6 w222 rfl
                            show Pl _ _ _ _ _ _ [] _ _
                            have n530 : NT3 T7 = if c4S S v7.toNat < 2 then NT3 T6 else ntF (NT3 T6) 7 (Xi S 908 (fW S).toNat) := by have t := nt530; rw [(SMR_FR hFT6 rfl rfl).2.1 908 _ (by omega), i432b] at t; first | (rw [if_pos (by omega)]; rw [if_neg (show ¬ (1 : Int) = 0 by decide)] at t; exact t) | (rw [if_neg (by omega)]; rw [if_pos (show (0 : Int) = 0 from rfl)] at t; exact t)
                            clear nt530
                            refine y_iinc rfl rfl rfl rfl ?_
                            have N533 : NT3 T7 = a4S S (n4S S (NT3 S) (Xi S 904 72).toNat) (v7 + 1).toNat := by rw [show (v7 + 1).toNat = v7.toNat + 1 by omega]; show _ = if rnR S (Xi S 904 71 + ((v7.toNat : Nat) : Int)) 4 = -1 then _ else _; first | (have t := K494; rw [if_neg (by omega)]; unfold a4N; rw [n530, n512, t494]) | (rw [if_pos (by omega)]; exact M452)
                            have H533 : Xi T7 904 142 = 4 := by first | (have t := K494; rw [(by assumption : FR md_mo_need__p _ T7).x 904 142 rfl]; exact H512) | exact h432
                            refine y_goto rfl rfl ?_
                            have w223 : Xi T7 904 108 = Xi T4 904 108 := (show Xi T7 904 108 = Xi T6 904 108 from w222.x _ _ rfl).trans ( (show Xi T6 904 108 = Xi T5 904 108 from w207.x _ _ rfl).trans ((show Xi T5 904 108 = Xi T4 904 108 from w191.x _ _ rfl)))
                            have w224 : Xi T7 904 142 = Xi T4 904 142 := (show Xi T7 904 142 = Xi T6 904 142 from w222.x _ _ rfl).trans ( (show Xi T6 904 142 = Xi T5 904 142 from w207.x _ _ rfl).trans ((show Xi T5 904 142 = Xi T4 904 142 from w191.x _ _ rfl)))
                            have w225 : Xi T7 904 15 = Xi T4 904 15 := (show Xi T7 904 15 = Xi T6 904 15 from w222.x _ _ rfl).trans ( (show Xi T6 904 15 = Xi T5 904 15 from w207.x _ _ rfl).trans ((show Xi T5 904 15 = Xi T4 904 15 from w191.x _ _ rfl)))
                            have w226 : Xi T7 904 19 = Xi T4 904 19 := (show Xi T7 904 19 = Xi T6 904 19 from w222.x _ _ rfl).trans ( (show Xi T6 904 19 = Xi T5 904 19 from w207.x _ _ rfl).trans ((show Xi T5 904 19 = Xi T4 904 19 from w191.x _ _ rfl)))
                            have w227 : Xi T7 904 32 = Xi T4 904 32 := (show Xi T7 904 32 = Xi T6 904 32 from w222.x _ _ rfl).trans ( (show Xi T6 904 32 = Xi T5 904 32 from w207.x _ _ rfl).trans ((show Xi T5 904 32 = Xi T4 904 32 from w191.x _ _ rfl)))
                            have w228 : Xi T7 904 70 = Xi T4 904 70 := (show Xi T7 904 70 = Xi T6 904 70 from w222.x _ _ rfl).trans ( (show Xi T6 904 70 = Xi T5 904 70 from w207.x _ _ rfl).trans ((show Xi T5 904 70 = Xi T4 904 70 from w191.x _ _ rfl)))
                            have w229 : Xi T7 904 71 = Xi T4 904 71 := (show Xi T7 904 71 = Xi T6 904 71 from w222.x _ _ rfl).trans ( (show Xi T6 904 71 = Xi T5 904 71 from w207.x _ _ rfl).trans ((show Xi T5 904 71 = Xi T4 904 71 from w191.x _ _ rfl)))
                            have w230 : Xi T7 904 72 = Xi T4 904 72 := (show Xi T7 904 72 = Xi T6 904 72 from w222.x _ _ rfl).trans ( (show Xi T6 904 72 = Xi T5 904 72 from w207.x _ _ rfl).trans ((show Xi T5 904 72 = Xi T4 904 72 from w191.x _ _ rfl)))
                            have w231 : Xi T7 904 75 = Xi T4 904 75 := (show Xi T7 904 75 = Xi T6 904 75 from w222.x _ _ rfl).trans ( (show Xi T6 904 75 = Xi T5 904 75 from w207.x _ _ rfl).trans ((show Xi T5 904 75 = Xi T4 904 75 from w191.x _ _ rfl)))
                            have w232 : Xi T7 904 76 = Xi T4 904 76 := (show Xi T7 904 76 = Xi T6 904 76 from w222.x _ _ rfl).trans ( (show Xi T6 904 76 = Xi T5 904 76 from w207.x _ _ rfl).trans ((show Xi T5 904 76 = Xi T4 904 76 from w191.x _ _ rfl)))
                            have w233 : Xi T7 904 77 = Xi T4 904 77 := (show Xi T7 904 77 = Xi T6 904 77 from w222.x _ _ rfl).trans ( (show Xi T6 904 77 = Xi T5 904 77 from w207.x _ _ rfl).trans ((show Xi T5 904 77 = Xi T4 904 77 from w191.x _ _ rfl)))
                            have w234 : Xi T7 904 78 = Xi T4 904 78 := (show Xi T7 904 78 = Xi T6 904 78 from w222.x _ _ rfl).trans ( (show Xi T6 904 78 = Xi T5 904 78 from w207.x _ _ rfl).trans ((show Xi T5 904 78 = Xi T4 904 78 from w191.x _ _ rfl)))
                            exact Pl_weak (ih432 (by omega) T7 hHT7 hFT7 (v1) (v2) (v5) ((v7 + 1)) (by omega) (by omega) (by omega) (by omega) (by first | exact i432a | exact i361a) (by first | exact i432b | exact i361b) (by omega) (by first | exact p432 | exact p361) (by omega) (by first | exact q432 | exact q361.o.2 (by omega)) (by first | exact ⟨fun _ => N533, fun q => absurd q (by omega)⟩ | exact N426) (by first | exact H533 | exact ((by assumption : FR md_mo_need__p T6 T7).x 904 142 rfl).trans h361) (by omega) (by omega) (by omega) (by omega) (by omega) (by omega)) (by omega) (And.intro rfl (And.intro rfl (And.intro rfl (And.intro rfl (And.intro rfl (True.intro))))))
                          · refine y_iconst rfl ?_
                            refine y_goto rfl rfl ?_
                            refine y_bipush rfl rfl ?_
                            refine y_iload_n rfl rfl ?_
                            have w235 : Xi T6 904 108 = Xi T4 904 108 := (show Xi T6 904 108 = Xi T5 904 108 from w207.x _ _ rfl).trans ((show Xi T5 904 108 = Xi T4 904 108 from w191.x _ _ rfl))
                            have w236 : Xi T6 904 15 = Xi T4 904 15 := (show Xi T6 904 15 = Xi T5 904 15 from w207.x _ _ rfl).trans ((show Xi T5 904 15 = Xi T4 904 15 from w191.x _ _ rfl))
                            have w237 : Xi T6 904 19 = Xi T4 904 19 := (show Xi T6 904 19 = Xi T5 904 19 from w207.x _ _ rfl).trans ((show Xi T5 904 19 = Xi T4 904 19 from w191.x _ _ rfl))
                            have w238 : Xi T6 904 32 = Xi T4 904 32 := (show Xi T6 904 32 = Xi T5 904 32 from w207.x _ _ rfl).trans ((show Xi T5 904 32 = Xi T4 904 32 from w191.x _ _ rfl))
                            have w239 : Xi T6 904 70 = Xi T4 904 70 := (show Xi T6 904 70 = Xi T5 904 70 from w207.x _ _ rfl).trans ((show Xi T5 904 70 = Xi T4 904 70 from w191.x _ _ rfl))
                            have w240 : Xi T6 904 71 = Xi T4 904 71 := (show Xi T6 904 71 = Xi T5 904 71 from w207.x _ _ rfl).trans ((show Xi T5 904 71 = Xi T4 904 71 from w191.x _ _ rfl))
                            have w241 : Xi T6 904 72 = Xi T4 904 72 := (show Xi T6 904 72 = Xi T5 904 72 from w207.x _ _ rfl).trans ((show Xi T5 904 72 = Xi T4 904 72 from w191.x _ _ rfl))
                            have w242 : Xi T6 904 75 = Xi T4 904 75 := (show Xi T6 904 75 = Xi T5 904 75 from w207.x _ _ rfl).trans ((show Xi T5 904 75 = Xi T4 904 75 from w191.x _ _ rfl))
                            have w243 : Xi T6 904 76 = Xi T4 904 76 := (show Xi T6 904 76 = Xi T5 904 76 from w207.x _ _ rfl).trans ((show Xi T5 904 76 = Xi T4 904 76 from w191.x _ _ rfl))
                            have w244 : Xi T6 904 77 = Xi T4 904 77 := (show Xi T6 904 77 = Xi T5 904 77 from w207.x _ _ rfl).trans ((show Xi T5 904 77 = Xi T4 904 77 from w191.x _ _ rfl))
                            have w245 : Xi T6 904 78 = Xi T4 904 78 := (show Xi T6 904 78 = Xi T5 904 78 from w207.x _ _ rfl).trans ((show Xi T5 904 78 = Xi T4 904 78 from w191.x _ _ rfl))
                            refine y_callV rfl rfl rfl (t_mo_need__p hHT6 1 7 v2 ⟨by omega, by omega⟩ ⟨by omega, by omega⟩ ⟨by omega, by omega⟩ _) ?_
                            rintro _ T8 ⟨hHT8, w247, rfl, nt530⟩
                            have hFT8 : FR md_mo_askFifteen__4 S T8 := FR.tr hFT6 w247 rfl
                            show Pl _ _ _ _ _ _ [] _ _
                            have n530 : NT3 T8 = if c4S S v7.toNat < 2 then NT3 T6 else ntF (NT3 T6) 7 (Xi S 908 (fW S).toNat) := by have t := nt530; rw [(SMR_FR hFT6 rfl rfl).2.1 908 _ (by omega), i432b] at t; first | (rw [if_pos (by omega)]; rw [if_neg (show ¬ (1 : Int) = 0 by decide)] at t; exact t) | (rw [if_neg (by omega)]; rw [if_pos (show (0 : Int) = 0 from rfl)] at t; exact t)
                            clear nt530
                            refine y_iinc rfl rfl rfl rfl ?_
                            have N533 : NT3 T8 = a4S S (n4S S (NT3 S) (Xi S 904 72).toNat) (v7 + 1).toNat := by rw [show (v7 + 1).toNat = v7.toNat + 1 by omega]; show _ = if rnR S (Xi S 904 71 + ((v7.toNat : Nat) : Int)) 4 = -1 then _ else _; first | (have t := K494; rw [if_neg (by omega)]; unfold a4N; rw [n530, n512, t494]) | (rw [if_pos (by omega)]; exact M452)
                            have H533 : Xi T8 904 142 = 4 := by first | (have t := K494; rw [(by assumption : FR md_mo_need__p _ T8).x 904 142 rfl]; exact H512) | exact h432
                            refine y_goto rfl rfl ?_
                            have w248 : Xi T8 904 108 = Xi T4 904 108 := (show Xi T8 904 108 = Xi T6 904 108 from w247.x _ _ rfl).trans ( (show Xi T6 904 108 = Xi T5 904 108 from w207.x _ _ rfl).trans ((show Xi T5 904 108 = Xi T4 904 108 from w191.x _ _ rfl)))
                            have w249 : Xi T8 904 142 = Xi T4 904 142 := (show Xi T8 904 142 = Xi T6 904 142 from w247.x _ _ rfl).trans ( (show Xi T6 904 142 = Xi T5 904 142 from w207.x _ _ rfl).trans ((show Xi T5 904 142 = Xi T4 904 142 from w191.x _ _ rfl)))
                            have w250 : Xi T8 904 15 = Xi T4 904 15 := (show Xi T8 904 15 = Xi T6 904 15 from w247.x _ _ rfl).trans ( (show Xi T6 904 15 = Xi T5 904 15 from w207.x _ _ rfl).trans ((show Xi T5 904 15 = Xi T4 904 15 from w191.x _ _ rfl)))
                            have w251 : Xi T8 904 19 = Xi T4 904 19 := (show Xi T8 904 19 = Xi T6 904 19 from w247.x _ _ rfl).trans ( (show Xi T6 904 19 = Xi T5 904 19 from w207.x _ _ rfl).trans ((show Xi T5 904 19 = Xi T4 904 19 from w191.x _ _ rfl)))
                            have w252 : Xi T8 904 32 = Xi T4 904 32 := (show Xi T8 904 32 = Xi T6 904 32 from w247.x _ _ rfl).trans ( (show Xi T6 904 32 = Xi T5 904 32 from w207.x _ _ rfl).trans ((show Xi T5 904 32 = Xi T4 904 32 from w191.x _ _ rfl)))
                            have w253 : Xi T8 904 70 = Xi T4 904 70 := (show Xi T8 904 70 = Xi T6 904 70 from w247.x _ _ rfl).trans ( (show Xi T6 904 70 = Xi T5 904 70 from w207.x _ _ rfl).trans ((show Xi T5 904 70 = Xi T4 904 70 from w191.x _ _ rfl)))
                            have w254 : Xi T8 904 71 = Xi T4 904 71 := (show Xi T8 904 71 = Xi T6 904 71 from w247.x _ _ rfl).trans ( (show Xi T6 904 71 = Xi T5 904 71 from w207.x _ _ rfl).trans ((show Xi T5 904 71 = Xi T4 904 71 from w191.x _ _ rfl)))
                            have w255 : Xi T8 904 72 = Xi T4 904 72 := (show Xi T8 904 72 = Xi T6 904 72 from w247.x _ _ rfl).trans ( (show Xi T6 904 72 = Xi T5 904 72 from w207.x _ _ rfl).trans ((show Xi T5 904 72 = Xi T4 904 72 from w191.x _ _ rfl)))
                            have w256 : Xi T8 904 75 = Xi T4 904 75 := (show Xi T8 904 75 = Xi T6 904 75 from w247.x _ _ rfl).trans ( (show Xi T6 904 75 = Xi T5 904 75 from w207.x _ _ rfl).trans ((show Xi T5 904 75 = Xi T4 904 75 from w191.x _ _ rfl)))
                            have w257 : Xi T8 904 76 = Xi T4 904 76 := (show Xi T8 904 76 = Xi T6 904 76 from w247.x _ _ rfl).trans ( (show Xi T6 904 76 = Xi T5 904 76 from w207.x _ _ rfl).trans ((show Xi T5 904 76 = Xi T4 904 76 from w191.x _ _ rfl)))
                            have w258 : Xi T8 904 77 = Xi T4 904 77 := (show Xi T8 904 77 = Xi T6 904 77 from w247.x _ _ rfl).trans ( (show Xi T6 904 77 = Xi T5 904 77 from w207.x _ _ rfl).trans ((show Xi T5 904 77 = Xi T4 904 77 from w191.x _ _ rfl)))
                            have w259 : Xi T8 904 78 = Xi T4 904 78 := (show Xi T8 904 78 = Xi T6 904 78 from w247.x _ _ rfl).trans ( (show Xi T6 904 78 = Xi T5 904 78 from w207.x _ _ rfl).trans ((show Xi T5 904 78 = Xi T4 904 78 from w191.x _ _ rfl)))
                            exact Pl_weak (ih432 (by omega) T8 hHT8 hFT8 (v1) (v2) (v5) ((v7 + 1)) (by omega) (by omega) (by omega) (by omega) (by first | exact i432a | exact i361a) (by first | exact i432b | exact i361b) (by omega) (by first | exact p432 | exact p361) (by omega) (by first | exact q432 | exact q361.o.2 (by omega)) (by first | exact ⟨fun _ => N533, fun q => absurd q (by omega)⟩ | exact N426) (by first | exact H533 | exact ((by assumption : FR md_mo_need__p T6 T8).x 904 142 rfl).trans h361) (by omega) (by omega) (by omega) (by omega) (by omega) (by omega)) (by omega) (And.intro rfl (And.intro rfl (And.intro rfl (And.intro rfl (And.intro rfl (True.intro))))))
                        · refine y_iconst rfl ?_
                          refine y_goto rfl rfl ?_
                          refine y_iconst rfl ?_
                          refine y_iload_n rfl rfl ?_
                          have w260 : Xi T5 904 106 = Xi T4 904 106 := (show Xi T5 904 106 = Xi T4 904 106 from w191.x _ _ rfl)
                          have w261 : Xi T5 904 108 = Xi T4 904 108 := (show Xi T5 904 108 = Xi T4 904 108 from w191.x _ _ rfl)
                          have w262 : Xi T5 904 15 = Xi T4 904 15 := (show Xi T5 904 15 = Xi T4 904 15 from w191.x _ _ rfl)
                          have w263 : Xi T5 904 19 = Xi T4 904 19 := (show Xi T5 904 19 = Xi T4 904 19 from w191.x _ _ rfl)
                          have w264 : Xi T5 904 32 = Xi T4 904 32 := (show Xi T5 904 32 = Xi T4 904 32 from w191.x _ _ rfl)
                          have w265 : Xi T5 904 70 = Xi T4 904 70 := (show Xi T5 904 70 = Xi T4 904 70 from w191.x _ _ rfl)
                          have w266 : Xi T5 904 71 = Xi T4 904 71 := (show Xi T5 904 71 = Xi T4 904 71 from w191.x _ _ rfl)
                          have w267 : Xi T5 904 72 = Xi T4 904 72 := (show Xi T5 904 72 = Xi T4 904 72 from w191.x _ _ rfl)
                          have w268 : Xi T5 904 75 = Xi T4 904 75 := (show Xi T5 904 75 = Xi T4 904 75 from w191.x _ _ rfl)
                          have w269 : Xi T5 904 76 = Xi T4 904 76 := (show Xi T5 904 76 = Xi T4 904 76 from w191.x _ _ rfl)
                          have w270 : Xi T5 904 77 = Xi T4 904 77 := (show Xi T5 904 77 = Xi T4 904 77 from w191.x _ _ rfl)
                          have w271 : Xi T5 904 78 = Xi T4 904 78 := (show Xi T5 904 78 = Xi T4 904 78 from w191.x _ _ rfl)
                          refine y_callV rfl rfl rfl (t_mo_need__p hHT5 1 4 v2 ⟨by omega, by omega⟩ ⟨by omega, by omega⟩ ⟨by omega, by omega⟩ _) ?_
                          rintro _ T9 ⟨hHT9, w273, rfl, nt512⟩
                          have hFT9 : FR md_mo_askFifteen__4 S T9 := FR.tr hFT5 w273 rfl
                          show Pl _ _ _ _ _ _ [] _ _
                          have n512 : NT3 T9 = if 0 < c4S S v7.toNat then NT3 T5 else ntF (NT3 T5) 4 (Xi S 908 (fW S).toNat) := by have t := nt512; rw [(SMR_FR hFT5 rfl rfl).2.1 908 _ (by omega), i432b] at t; first | (rw [if_pos (by omega)]; rw [if_neg (show ¬ (1 : Int) = 0 by decide)] at t; exact t) | (rw [if_neg (by omega)]; rw [if_pos (show (0 : Int) = 0 from rfl)] at t; exact t)
                          clear nt512
                          have H512 : Xi T9 904 142 = 4 := ((by assumption : FR md_mo_need__p T5 T9).x 904 142 rfl).trans ((F494.x 904 142 rfl).trans h432)
                          refine y_aload_n rfl rfl ?_
                          refine y_iload rfl rfl ?_
                          refine y_iconst rfl ?_
                          refine y_icmp_ge rfl rfl (by unfold rg; omega) (by unfold rg; omega) (fun w274 => ?_) (fun w275 => ?_)
                          · refine y_iconst rfl ?_
                            refine y_bipush rfl rfl ?_
                            refine y_iload_n rfl rfl ?_
                            have w276 : Xi T9 904 108 = Xi T4 904 108 := (show Xi T9 904 108 = Xi T5 904 108 from w273.x _ _ rfl).trans ((show Xi T5 904 108 = Xi T4 904 108 from w191.x _ _ rfl))
                            have w277 : Xi T9 904 15 = Xi T4 904 15 := (show Xi T9 904 15 = Xi T5 904 15 from w273.x _ _ rfl).trans ((show Xi T5 904 15 = Xi T4 904 15 from w191.x _ _ rfl))
                            have w278 : Xi T9 904 19 = Xi T4 904 19 := (show Xi T9 904 19 = Xi T5 904 19 from w273.x _ _ rfl).trans ((show Xi T5 904 19 = Xi T4 904 19 from w191.x _ _ rfl))
                            have w279 : Xi T9 904 32 = Xi T4 904 32 := (show Xi T9 904 32 = Xi T5 904 32 from w273.x _ _ rfl).trans ((show Xi T5 904 32 = Xi T4 904 32 from w191.x _ _ rfl))
                            have w280 : Xi T9 904 70 = Xi T4 904 70 := (show Xi T9 904 70 = Xi T5 904 70 from w273.x _ _ rfl).trans ((show Xi T5 904 70 = Xi T4 904 70 from w191.x _ _ rfl))
                            have w281 : Xi T9 904 71 = Xi T4 904 71 := (show Xi T9 904 71 = Xi T5 904 71 from w273.x _ _ rfl).trans ((show Xi T5 904 71 = Xi T4 904 71 from w191.x _ _ rfl))
                            have w282 : Xi T9 904 72 = Xi T4 904 72 := (show Xi T9 904 72 = Xi T5 904 72 from w273.x _ _ rfl).trans ((show Xi T5 904 72 = Xi T4 904 72 from w191.x _ _ rfl))
                            have w283 : Xi T9 904 75 = Xi T4 904 75 := (show Xi T9 904 75 = Xi T5 904 75 from w273.x _ _ rfl).trans ((show Xi T5 904 75 = Xi T4 904 75 from w191.x _ _ rfl))
                            have w284 : Xi T9 904 76 = Xi T4 904 76 := (show Xi T9 904 76 = Xi T5 904 76 from w273.x _ _ rfl).trans ((show Xi T5 904 76 = Xi T4 904 76 from w191.x _ _ rfl))
                            have w285 : Xi T9 904 77 = Xi T4 904 77 := (show Xi T9 904 77 = Xi T5 904 77 from w273.x _ _ rfl).trans ((show Xi T5 904 77 = Xi T4 904 77 from w191.x _ _ rfl))
                            have w286 : Xi T9 904 78 = Xi T4 904 78 := (show Xi T9 904 78 = Xi T5 904 78 from w273.x _ _ rfl).trans ((show Xi T5 904 78 = Xi T4 904 78 from w191.x _ _ rfl))
                            refine y_callV rfl rfl rfl (t_mo_need__p hHT9 0 7 v2 ⟨by omega, by omega⟩ ⟨by omega, by omega⟩ ⟨by omega, by omega⟩ _) ?_
                            rintro _ T10 ⟨hHT10, w288, rfl, nt530⟩
                            have hFT10 : FR md_mo_askFifteen__4 S T10 := FR.tr hFT9 w288 rfl
                            show Pl _ _ _ _ _ _ [] _ _
                            have n530 : NT3 T10 = if c4S S v7.toNat < 2 then NT3 T9 else ntF (NT3 T9) 7 (Xi S 908 (fW S).toNat) := by have t := nt530; rw [(SMR_FR hFT9 rfl rfl).2.1 908 _ (by omega), i432b] at t; first | (rw [if_pos (by omega)]; rw [if_neg (show ¬ (1 : Int) = 0 by decide)] at t; exact t) | (rw [if_neg (by omega)]; rw [if_pos (show (0 : Int) = 0 from rfl)] at t; exact t)
                            clear nt530
                            refine y_iinc rfl rfl rfl rfl ?_
                            have N533 : NT3 T10 = a4S S (n4S S (NT3 S) (Xi S 904 72).toNat) (v7 + 1).toNat := by rw [show (v7 + 1).toNat = v7.toNat + 1 by omega]; show _ = if rnR S (Xi S 904 71 + ((v7.toNat : Nat) : Int)) 4 = -1 then _ else _; first | (have t := K494; rw [if_neg (by omega)]; unfold a4N; rw [n530, n512, t494]) | (rw [if_pos (by omega)]; exact M452)
                            have H533 : Xi T10 904 142 = 4 := by first | (have t := K494; rw [(by assumption : FR md_mo_need__p _ T10).x 904 142 rfl]; exact H512) | exact h432
                            refine y_goto rfl rfl ?_
                            have w289 : Xi T10 904 108 = Xi T4 904 108 := (show Xi T10 904 108 = Xi T9 904 108 from w288.x _ _ rfl).trans ( (show Xi T9 904 108 = Xi T5 904 108 from w273.x _ _ rfl).trans ((show Xi T5 904 108 = Xi T4 904 108 from w191.x _ _ rfl)))
                            have w290 : Xi T10 904 142 = Xi T4 904 142 := (show Xi T10 904 142 = Xi T9 904 142 from w288.x _ _ rfl).trans ( (show Xi T9 904 142 = Xi T5 904 142 from w273.x _ _ rfl).trans ((show Xi T5 904 142 = Xi T4 904 142 from w191.x _ _ rfl)))
                            have w291 : Xi T10 904 15 = Xi T4 904 15 := (show Xi T10 904 15 = Xi T9 904 15 from w288.x _ _ rfl).trans ( (show Xi T9 904 15 = Xi T5 904 15 from w273.x _ _ rfl).trans ((show Xi T5 904 15 = Xi T4 904 15 from w191.x _ _ rfl)))
                            have w292 : Xi T10 904 19 = Xi T4 904 19 := (show Xi T10 904 19 = Xi T9 904 19 from w288.x _ _ rfl).trans ( (show Xi T9 904 19 = Xi T5 904 19 from w273.x _ _ rfl).trans ((show Xi T5 904 19 = Xi T4 904 19 from w191.x _ _ rfl)))
                            have w293 : Xi T10 904 32 = Xi T4 904 32 := (show Xi T10 904 32 = Xi T9 904 32 from w288.x _ _ rfl).trans ( (show Xi T9 904 32 = Xi T5 904 32 from w273.x _ _ rfl).trans ((show Xi T5 904 32 = Xi T4 904 32 from w191.x _ _ rfl)))
                            have w294 : Xi T10 904 70 = Xi T4 904 70 := (show Xi T10 904 70 = Xi T9 904 70 from w288.x _ _ rfl).trans ( (show Xi T9 904 70 = Xi T5 904 70 from w273.x _ _ rfl).trans ((show Xi T5 904 70 = Xi T4 904 70 from w191.x _ _ rfl)))
                            have w295 : Xi T10 904 71 = Xi T4 904 71 := (show Xi T10 904 71 = Xi T9 904 71 from w288.x _ _ rfl).trans ( (show Xi T9 904 71 = Xi T5 904 71 from w273.x _ _ rfl).trans ((show Xi T5 904 71 = Xi T4 904 71 from w191.x _ _ rfl)))
                            have w296 : Xi T10 904 72 = Xi T4 904 72 := (show Xi T10 904 72 = Xi T9 904 72 from w288.x _ _ rfl).trans ( (show Xi T9 904 72 = Xi T5 904 72 from w273.x _ _ rfl).trans ((show Xi T5 904 72 = Xi T4 904 72 from w191.x _ _ rfl)))
                            have w297 : Xi T10 904 75 = Xi T4 904 75 := (show Xi T10 904 75 = Xi T9 904 75 from w288.x _ _ rfl).trans ( (show Xi T9 904 75 = Xi T5 904 75 from w273.x _ _ rfl).trans ((show Xi T5 904 75 = Xi T4 904 75 from w191.x _ _ rfl)))
                            have w298 : Xi T10 904 76 = Xi T4 904 76 := (show Xi T10 904 76 = Xi T9 904 76 from w288.x _ _ rfl).trans ( (show Xi T9 904 76 = Xi T5 904 76 from w273.x _ _ rfl).trans ((show Xi T5 904 76 = Xi T4 904 76 from w191.x _ _ rfl)))
                            have w299 : Xi T10 904 77 = Xi T4 904 77 := (show Xi T10 904 77 = Xi T9 904 77 from w288.x _ _ rfl).trans ( (show Xi T9 904 77 = Xi T5 904 77 from w273.x _ _ rfl).trans ((show Xi T5 904 77 = Xi T4 904 77 from w191.x _ _ rfl)))
                            have w300 : Xi T10 904 78 = Xi T4 904 78 := (show Xi T10 904 78 = Xi T9 904 78 from w288.x _ _ rfl).trans ( (show Xi T9 904 78 = Xi T5 904 78 from w273.x _ _ rfl).trans ((show Xi T5 904 78 = Xi T4 904 78 from w191.x _ _ rfl)))
                            exact Pl_weak (ih432 (by omega) T10 hHT10 hFT10 (v1) (v2) (v5) ((v7 + 1)) (by omega) (by omega) (by omega) (by omega) (by first | exact i432a | exact i361a) (by first | exact i432b | exact i361b) (by omega) (by first | exact p432 | exact p361) (by omega) (by first | exact q432 | exact q361.o.2 (by omega)) (by first | exact ⟨fun _ => N533, fun q => absurd q (by omega)⟩ | exact N426) (by first | exact H533 | exact ((by assumption : FR md_mo_need__p T9 T10).x 904 142 rfl).trans h361) (by omega) (by omega) (by omega) (by omega) (by omega) (by omega)) (by omega) (And.intro rfl (And.intro rfl (And.intro rfl (And.intro rfl (And.intro rfl (True.intro))))))
                          · refine y_iconst rfl ?_
                            refine y_goto rfl rfl ?_
                            refine y_bipush rfl rfl ?_
                            refine y_iload_n rfl rfl ?_
                            have w301 : Xi T9 904 108 = Xi T4 904 108 := (show Xi T9 904 108 = Xi T5 904 108 from w273.x _ _ rfl).trans ((show Xi T5 904 108 = Xi T4 904 108 from w191.x _ _ rfl))
                            have w302 : Xi T9 904 15 = Xi T4 904 15 := (show Xi T9 904 15 = Xi T5 904 15 from w273.x _ _ rfl).trans ((show Xi T5 904 15 = Xi T4 904 15 from w191.x _ _ rfl))
                            have w303 : Xi T9 904 19 = Xi T4 904 19 := (show Xi T9 904 19 = Xi T5 904 19 from w273.x _ _ rfl).trans ((show Xi T5 904 19 = Xi T4 904 19 from w191.x _ _ rfl))
                            have w304 : Xi T9 904 32 = Xi T4 904 32 := (show Xi T9 904 32 = Xi T5 904 32 from w273.x _ _ rfl).trans ((show Xi T5 904 32 = Xi T4 904 32 from w191.x _ _ rfl))
                            have w305 : Xi T9 904 70 = Xi T4 904 70 := (show Xi T9 904 70 = Xi T5 904 70 from w273.x _ _ rfl).trans ((show Xi T5 904 70 = Xi T4 904 70 from w191.x _ _ rfl))
                            have w306 : Xi T9 904 71 = Xi T4 904 71 := (show Xi T9 904 71 = Xi T5 904 71 from w273.x _ _ rfl).trans ((show Xi T5 904 71 = Xi T4 904 71 from w191.x _ _ rfl))
                            have w307 : Xi T9 904 72 = Xi T4 904 72 := (show Xi T9 904 72 = Xi T5 904 72 from w273.x _ _ rfl).trans ((show Xi T5 904 72 = Xi T4 904 72 from w191.x _ _ rfl))
                            have w308 : Xi T9 904 75 = Xi T4 904 75 := (show Xi T9 904 75 = Xi T5 904 75 from w273.x _ _ rfl).trans ((show Xi T5 904 75 = Xi T4 904 75 from w191.x _ _ rfl))
                            have w309 : Xi T9 904 76 = Xi T4 904 76 := (show Xi T9 904 76 = Xi T5 904 76 from w273.x _ _ rfl).trans ((show Xi T5 904 76 = Xi T4 904 76 from w191.x _ _ rfl))
                            have w310 : Xi T9 904 77 = Xi T4 904 77 := (show Xi T9 904 77 = Xi T5 904 77 from w273.x _ _ rfl).trans ((show Xi T5 904 77 = Xi T4 904 77 from w191.x _ _ rfl))
                            have w311 : Xi T9 904 78 = Xi T4 904 78 := (show Xi T9 904 78 = Xi T5 904 78 from w273.x _ _ rfl).trans ((show Xi T5 904 78 = Xi T4 904 78 from w191.x _ _ rfl))
                            refine y_callV rfl rfl rfl (t_mo_need__p hHT9 1 7 v2 ⟨by omega, by omega⟩ ⟨by omega, by omega⟩ ⟨by omega, by omega⟩ _) ?_
                            rintro _ T11 ⟨hHT11, w313, rfl, nt530⟩
                            have hFT11 : FR md_mo_askFifteen__4 S T11 := FR.tr hFT9 w313 rfl
                            show Pl _ _ _ _ _ _ [] _ _
                            have n530 : NT3 T11 = if c4S S v7.toNat < 2 then NT3 T9 else ntF (NT3 T9) 7 (Xi S 908 (fW S).toNat) := by have t := nt530; rw [(SMR_FR hFT9 rfl rfl).2.1 908 _ (by omega), i432b] at t; first | (rw [if_pos (by omega)]; rw [if_neg (show ¬ (1 : Int) = 0 by decide)] at t; exact t) | (rw [if_neg (by omega)]; rw [if_pos (show (0 : Int) = 0 from rfl)] at t; exact t)
                            clear nt530
                            refine y_iinc rfl rfl rfl rfl ?_
                            have N533 : NT3 T11 = a4S S (n4S S (NT3 S) (Xi S 904 72).toNat) (v7 + 1).toNat := by rw [show (v7 + 1).toNat = v7.toNat + 1 by omega]; show _ = if rnR S (Xi S 904 71 + ((v7.toNat : Nat) : Int)) 4 = -1 then _ else _; first | (have t := K494; rw [if_neg (by omega)]; unfold a4N; rw [n530, n512, t494]) | (rw [if_pos (by omega)]; exact M452)
                            have H533 : Xi T11 904 142 = 4 := by first | (have t := K494; rw [(by assumption : FR md_mo_need__p _ T11).x 904 142 rfl]; exact H512) | exact h432
                            refine y_goto rfl rfl ?_
                            have w314 : Xi T11 904 108 = Xi T4 904 108 := (show Xi T11 904 108 = Xi T9 904 108 from w313.x _ _ rfl).trans ( (show Xi T9 904 108 = Xi T5 904 108 from w273.x _ _ rfl).trans ((show Xi T5 904 108 = Xi T4 904 108 from w191.x _ _ rfl)))
                            have w315 : Xi T11 904 142 = Xi T4 904 142 := (show Xi T11 904 142 = Xi T9 904 142 from w313.x _ _ rfl).trans ( (show Xi T9 904 142 = Xi T5 904 142 from w273.x _ _ rfl).trans ((show Xi T5 904 142 = Xi T4 904 142 from w191.x _ _ rfl)))
                            have w316 : Xi T11 904 15 = Xi T4 904 15 := (show Xi T11 904 15 = Xi T9 904 15 from w313.x _ _ rfl).trans ( (show Xi T9 904 15 = Xi T5 904 15 from w273.x _ _ rfl).trans ((show Xi T5 904 15 = Xi T4 904 15 from w191.x _ _ rfl)))
                            have w317 : Xi T11 904 19 = Xi T4 904 19 := (show Xi T11 904 19 = Xi T9 904 19 from w313.x _ _ rfl).trans ( (show Xi T9 904 19 = Xi T5 904 19 from w273.x _ _ rfl).trans ((show Xi T5 904 19 = Xi T4 904 19 from w191.x _ _ rfl)))
                            have w318 : Xi T11 904 32 = Xi T4 904 32 := (show Xi T11 904 32 = Xi T9 904 32 from w313.x _ _ rfl).trans ( (show Xi T9 904 32 = Xi T5 904 32 from w273.x _ _ rfl).trans ((show Xi T5 904 32 = Xi T4 904 32 from w191.x _ _ rfl)))
                            have w319 : Xi T11 904 70 = Xi T4 904 70 := (show Xi T11 904 70 = Xi T9 904 70 from w313.x _ _ rfl).trans ( (show Xi T9 904 70 = Xi T5 904 70 from w273.x _ _ rfl).trans ((show Xi T5 904 70 = Xi T4 904 70 from w191.x _ _ rfl)))
                            have w320 : Xi T11 904 71 = Xi T4 904 71 := (show Xi T11 904 71 = Xi T9 904 71 from w313.x _ _ rfl).trans ( (show Xi T9 904 71 = Xi T5 904 71 from w273.x _ _ rfl).trans ((show Xi T5 904 71 = Xi T4 904 71 from w191.x _ _ rfl)))
                            have w321 : Xi T11 904 72 = Xi T4 904 72 := (show Xi T11 904 72 = Xi T9 904 72 from w313.x _ _ rfl).trans ( (show Xi T9 904 72 = Xi T5 904 72 from w273.x _ _ rfl).trans ((show Xi T5 904 72 = Xi T4 904 72 from w191.x _ _ rfl)))
                            have w322 : Xi T11 904 75 = Xi T4 904 75 := (show Xi T11 904 75 = Xi T9 904 75 from w313.x _ _ rfl).trans ( (show Xi T9 904 75 = Xi T5 904 75 from w273.x _ _ rfl).trans ((show Xi T5 904 75 = Xi T4 904 75 from w191.x _ _ rfl)))
                            have w323 : Xi T11 904 76 = Xi T4 904 76 := (show Xi T11 904 76 = Xi T9 904 76 from w313.x _ _ rfl).trans ( (show Xi T9 904 76 = Xi T5 904 76 from w273.x _ _ rfl).trans ((show Xi T5 904 76 = Xi T4 904 76 from w191.x _ _ rfl)))
                            have w324 : Xi T11 904 77 = Xi T4 904 77 := (show Xi T11 904 77 = Xi T9 904 77 from w313.x _ _ rfl).trans ( (show Xi T9 904 77 = Xi T5 904 77 from w273.x _ _ rfl).trans ((show Xi T5 904 77 = Xi T4 904 77 from w191.x _ _ rfl)))
                            have w325 : Xi T11 904 78 = Xi T4 904 78 := (show Xi T11 904 78 = Xi T9 904 78 from w313.x _ _ rfl).trans ( (show Xi T9 904 78 = Xi T5 904 78 from w273.x _ _ rfl).trans ((show Xi T5 904 78 = Xi T4 904 78 from w191.x _ _ rfl)))
                            exact Pl_weak (ih432 (by omega) T11 hHT11 hFT11 (v1) (v2) (v5) ((v7 + 1)) (by omega) (by omega) (by omega) (by omega) (by first | exact i432a | exact i361a) (by first | exact i432b | exact i361b) (by omega) (by first | exact p432 | exact p361) (by omega) (by first | exact q432 | exact q361.o.2 (by omega)) (by first | exact ⟨fun _ => N533, fun q => absurd q (by omega)⟩ | exact N426) (by first | exact H533 | exact ((by assumption : FR md_mo_need__p T9 T11).x 904 142 rfl).trans h361) (by omega) (by omega) (by omega) (by omega) (by omega) (by omega)) (by omega) (And.intro rfl (And.intro rfl (And.intro rfl (And.intro rfl (And.intro rfl (True.intro))))))
                      · refine y_iconst rfl ?_
                        refine y_goto rfl rfl ?_
                        refine y_callV rfl rfl rfl (t_mo_adjective__p hHT4 v2 (Xi T4 951 (((Xi T4 904 78)).toNat)) (Xi T4 918 ((z178).toNat)) 0 1 ⟨by omega, by omega⟩ ⟨by omega, by omega⟩ ⟨by omega, by omega⟩ ⟨by omega, by omega⟩ ⟨by omega, by omega⟩ (by first | assumption | exact (LSP_FR hFT4 rfl rfl (by assumption : LSP S))) (by first | assumption | omega) (by first | assumption | exact (LXR_FR hFT4 rfl rfl (by assumption : LXR S))) (by first | assumption | exact (ABV_FR hFT4 rfl (by assumption : ABV S))) (by first | assumption | omega) _) ?_
                        rintro _ T12 ⟨hHT12, w328, z327, rfl, w327, f494, w326⟩
                        have hFT12 : FR md_mo_askFifteen__4 S T12 := FR.tr hFT4 w328 rfl
                        show Pl _ _ _ _ _ _ [iv z327] _ _
                        have K494 : True := trivial
                        have F494 := (by assumption : FR md_mo_adjective__p T4 T12)
                        have c494 : z327 = c4S S v7.toNat := by have t := f494; rw [adR_am (AMR_FR hFT4 rfl rfl), i432b, e473, e480] at t; unfold c4S h15R; first | (rw [if_pos (by omega)]; exact t) | (rw [if_neg (by omega)]; exact t)
                        clear f494
                        have t494 : NT3 T12 = a4S S (n4S S (NT3 S) (Xi S 904 72).toNat) v7.toNat := by have t := M452; unfold NT3 at t ⊢; rw [F494.x 904 106 rfl, F494.x 904 105 rfl, F494.x 904 104 rfl]; exact t
                        refine y_istore rfl rfl rfl ?_
                        refine y_aload_n rfl rfl ?_
                        refine y_iload rfl rfl ?_
                        refine y_if_le rfl rfl (by unfold rg; omega) (fun w329 => ?_) (fun w330 => ?_)
                        · refine y_iconst rfl ?_
                          refine y_iconst rfl ?_
                          refine y_iload_n rfl rfl ?_
                          have w331 : Xi T12 904 106 = Xi T4 904 106 := (show Xi T12 904 106 = Xi T4 904 106 from w328.x _ _ rfl)
                          have w332 : Xi T12 904 108 = Xi T4 904 108 := (show Xi T12 904 108 = Xi T4 904 108 from w328.x _ _ rfl)
                          have w333 : Xi T12 904 15 = Xi T4 904 15 := (show Xi T12 904 15 = Xi T4 904 15 from w328.x _ _ rfl)
                          have w334 : Xi T12 904 19 = Xi T4 904 19 := (show Xi T12 904 19 = Xi T4 904 19 from w328.x _ _ rfl)
                          have w335 : Xi T12 904 32 = Xi T4 904 32 := (show Xi T12 904 32 = Xi T4 904 32 from w328.x _ _ rfl)
                          have w336 : Xi T12 904 70 = Xi T4 904 70 := (show Xi T12 904 70 = Xi T4 904 70 from w328.x _ _ rfl)
                          have w337 : Xi T12 904 71 = Xi T4 904 71 := (show Xi T12 904 71 = Xi T4 904 71 from w328.x _ _ rfl)
                          have w338 : Xi T12 904 72 = Xi T4 904 72 := (show Xi T12 904 72 = Xi T4 904 72 from w328.x _ _ rfl)
                          have w339 : Xi T12 904 75 = Xi T4 904 75 := (show Xi T12 904 75 = Xi T4 904 75 from w328.x _ _ rfl)
                          have w340 : Xi T12 904 76 = Xi T4 904 76 := (show Xi T12 904 76 = Xi T4 904 76 from w328.x _ _ rfl)
                          have w341 : Xi T12 904 77 = Xi T4 904 77 := (show Xi T12 904 77 = Xi T4 904 77 from w328.x _ _ rfl)
                          have w342 : Xi T12 904 78 = Xi T4 904 78 := (show Xi T12 904 78 = Xi T4 904 78 from w328.x _ _ rfl)
                          refine y_callV rfl rfl rfl (t_mo_need__p hHT12 0 4 v2 ⟨by omega, by omega⟩ ⟨by omega, by omega⟩ ⟨by omega, by omega⟩ _) ?_
                          rintro _ T13 ⟨hHT13, w344, rfl, nt512⟩
                          have hFT13 : FR md_mo_askFifteen__4 S T13 := FR.tr hFT12 w344 rfl
                          show Pl _ _ _ _ _ _ [] _ _
                          have n512 : NT3 T13 = if 0 < c4S S v7.toNat then NT3 T12 else ntF (NT3 T12) 4 (Xi S 908 (fW S).toNat) := by have t := nt512; rw [(SMR_FR hFT12 rfl rfl).2.1 908 _ (by omega), i432b] at t; first | (rw [if_pos (by omega)]; rw [if_neg (show ¬ (1 : Int) = 0 by decide)] at t; exact t) | (rw [if_neg (by omega)]; rw [if_pos (show (0 : Int) = 0 from rfl)] at t; exact t)
                          clear nt512
                          have H512 : Xi T13 904 142 = 4 := ((by assumption : FR md_mo_need__p T12 T13).x 904 142 rfl).trans ((F494.x 904 142 rfl).trans h432)
                          refine y_aload_n rfl rfl ?_
                          refine y_iload rfl rfl ?_
                          refine y_iconst rfl ?_
                          refine y_icmp_ge rfl rfl (by unfold rg; omega) (by unfold rg; omega) (fun w345 => ?_) (fun w346 => ?_)
                          · refine y_iconst rfl ?_
                            refine y_bipush rfl rfl ?_
                            refine y_iload_n rfl rfl ?_
                            have w347 : Xi T13 904 108 = Xi T4 904 108 := (show Xi T13 904 108 = Xi T12 904 108 from w344.x _ _ rfl).trans ((show Xi T12 904 108 = Xi T4 904 108 from w328.x _ _ rfl))
                            have w348 : Xi T13 904 15 = Xi T4 904 15 := (show Xi T13 904 15 = Xi T12 904 15 from w344.x _ _ rfl).trans ((show Xi T12 904 15 = Xi T4 904 15 from w328.x _ _ rfl))
                            have w349 : Xi T13 904 19 = Xi T4 904 19 := (show Xi T13 904 19 = Xi T12 904 19 from w344.x _ _ rfl).trans ((show Xi T12 904 19 = Xi T4 904 19 from w328.x _ _ rfl))
                            have w350 : Xi T13 904 32 = Xi T4 904 32 := (show Xi T13 904 32 = Xi T12 904 32 from w344.x _ _ rfl).trans ((show Xi T12 904 32 = Xi T4 904 32 from w328.x _ _ rfl))
                            have w351 : Xi T13 904 70 = Xi T4 904 70 := (show Xi T13 904 70 = Xi T12 904 70 from w344.x _ _ rfl).trans ((show Xi T12 904 70 = Xi T4 904 70 from w328.x _ _ rfl))
                            have w352 : Xi T13 904 71 = Xi T4 904 71 := (show Xi T13 904 71 = Xi T12 904 71 from w344.x _ _ rfl).trans ((show Xi T12 904 71 = Xi T4 904 71 from w328.x _ _ rfl))
                            have w353 : Xi T13 904 72 = Xi T4 904 72 := (show Xi T13 904 72 = Xi T12 904 72 from w344.x _ _ rfl).trans ((show Xi T12 904 72 = Xi T4 904 72 from w328.x _ _ rfl))
                            have w354 : Xi T13 904 75 = Xi T4 904 75 := (show Xi T13 904 75 = Xi T12 904 75 from w344.x _ _ rfl).trans ((show Xi T12 904 75 = Xi T4 904 75 from w328.x _ _ rfl))
                            have w355 : Xi T13 904 76 = Xi T4 904 76 := (show Xi T13 904 76 = Xi T12 904 76 from w344.x _ _ rfl).trans ((show Xi T12 904 76 = Xi T4 904 76 from w328.x _ _ rfl))
                            have w356 : Xi T13 904 77 = Xi T4 904 77 := (show Xi T13 904 77 = Xi T12 904 77 from w344.x _ _ rfl).trans ((show Xi T12 904 77 = Xi T4 904 77 from w328.x _ _ rfl))
                            have w357 : Xi T13 904 78 = Xi T4 904 78 := (show Xi T13 904 78 = Xi T12 904 78 from w344.x _ _ rfl).trans ((show Xi T12 904 78 = Xi T4 904 78 from w328.x _ _ rfl))
                            refine y_callV rfl rfl rfl (t_mo_need__p hHT13 0 7 v2 ⟨by omega, by omega⟩ ⟨by omega, by omega⟩ ⟨by omega, by omega⟩ _) ?_
                            rintro _ T14 ⟨hHT14, w359, rfl, nt530⟩
                            have hFT14 : FR md_mo_askFifteen__4 S T14 := FR.tr hFT13 w359 rfl
                            show Pl _ _ _ _ _ _ [] _ _
                            have n530 : NT3 T14 = if c4S S v7.toNat < 2 then NT3 T13 else ntF (NT3 T13) 7 (Xi S 908 (fW S).toNat) := by have t := nt530; rw [(SMR_FR hFT13 rfl rfl).2.1 908 _ (by omega), i432b] at t; first | (rw [if_pos (by omega)]; rw [if_neg (show ¬ (1 : Int) = 0 by decide)] at t; exact t) | (rw [if_neg (by omega)]; rw [if_pos (show (0 : Int) = 0 from rfl)] at t; exact t)
                            clear nt530
                            refine y_iinc rfl rfl rfl rfl ?_
                            have N533 : NT3 T14 = a4S S (n4S S (NT3 S) (Xi S 904 72).toNat) (v7 + 1).toNat := by rw [show (v7 + 1).toNat = v7.toNat + 1 by omega]; show _ = if rnR S (Xi S 904 71 + ((v7.toNat : Nat) : Int)) 4 = -1 then _ else _; first | (have t := K494; rw [if_neg (by omega)]; unfold a4N; rw [n530, n512, t494]) | (rw [if_pos (by omega)]; exact M452)
                            have H533 : Xi T14 904 142 = 4 := by first | (have t := K494; rw [(by assumption : FR md_mo_need__p _ T14).x 904 142 rfl]; exact H512) | exact h432
                            refine y_goto rfl rfl ?_
                            have w360 : Xi T14 904 108 = Xi T4 904 108 := (show Xi T14 904 108 = Xi T13 904 108 from w359.x _ _ rfl).trans ( (show Xi T13 904 108 = Xi T12 904 108 from w344.x _ _ rfl).trans ((show Xi T12 904 108 = Xi T4 904 108 from w328.x _ _ rfl)))
                            have w361 : Xi T14 904 142 = Xi T4 904 142 := (show Xi T14 904 142 = Xi T13 904 142 from w359.x _ _ rfl).trans ( (show Xi T13 904 142 = Xi T12 904 142 from w344.x _ _ rfl).trans ((show Xi T12 904 142 = Xi T4 904 142 from w328.x _ _ rfl)))
                            have w362 : Xi T14 904 15 = Xi T4 904 15 := (show Xi T14 904 15 = Xi T13 904 15 from w359.x _ _ rfl).trans ( (show Xi T13 904 15 = Xi T12 904 15 from w344.x _ _ rfl).trans ((show Xi T12 904 15 = Xi T4 904 15 from w328.x _ _ rfl)))
                            have w363 : Xi T14 904 19 = Xi T4 904 19 := (show Xi T14 904 19 = Xi T13 904 19 from w359.x _ _ rfl).trans ( (show Xi T13 904 19 = Xi T12 904 19 from w344.x _ _ rfl).trans ((show Xi T12 904 19 = Xi T4 904 19 from w328.x _ _ rfl)))
                            have w364 : Xi T14 904 32 = Xi T4 904 32 := (show Xi T14 904 32 = Xi T13 904 32 from w359.x _ _ rfl).trans ( (show Xi T13 904 32 = Xi T12 904 32 from w344.x _ _ rfl).trans ((show Xi T12 904 32 = Xi T4 904 32 from w328.x _ _ rfl)))
                            have w365 : Xi T14 904 70 = Xi T4 904 70 := (show Xi T14 904 70 = Xi T13 904 70 from w359.x _ _ rfl).trans ( (show Xi T13 904 70 = Xi T12 904 70 from w344.x _ _ rfl).trans ((show Xi T12 904 70 = Xi T4 904 70 from w328.x _ _ rfl)))
                            have w366 : Xi T14 904 71 = Xi T4 904 71 := (show Xi T14 904 71 = Xi T13 904 71 from w359.x _ _ rfl).trans ( (show Xi T13 904 71 = Xi T12 904 71 from w344.x _ _ rfl).trans ((show Xi T12 904 71 = Xi T4 904 71 from w328.x _ _ rfl)))
                            have w367 : Xi T14 904 72 = Xi T4 904 72 := (show Xi T14 904 72 = Xi T13 904 72 from w359.x _ _ rfl).trans ( (show Xi T13 904 72 = Xi T12 904 72 from w344.x _ _ rfl).trans ((show Xi T12 904 72 = Xi T4 904 72 from w328.x _ _ rfl)))
                            have w368 : Xi T14 904 75 = Xi T4 904 75 := (show Xi T14 904 75 = Xi T13 904 75 from w359.x _ _ rfl).trans ( (show Xi T13 904 75 = Xi T12 904 75 from w344.x _ _ rfl).trans ((show Xi T12 904 75 = Xi T4 904 75 from w328.x _ _ rfl)))
                            have w369 : Xi T14 904 76 = Xi T4 904 76 := (show Xi T14 904 76 = Xi T13 904 76 from w359.x _ _ rfl).trans ( (show Xi T13 904 76 = Xi T12 904 76 from w344.x _ _ rfl).trans ((show Xi T12 904 76 = Xi T4 904 76 from w328.x _ _ rfl)))
                            have w370 : Xi T14 904 77 = Xi T4 904 77 := (show Xi T14 904 77 = Xi T13 904 77 from w359.x _ _ rfl).trans ( (show Xi T13 904 77 = Xi T12 904 77 from w344.x _ _ rfl).trans ((show Xi T12 904 77 = Xi T4 904 77 from w328.x _ _ rfl)))
                            have w371 : Xi T14 904 78 = Xi T4 904 78 := (show Xi T14 904 78 = Xi T13 904 78 from w359.x _ _ rfl).trans ( (show Xi T13 904 78 = Xi T12 904 78 from w344.x _ _ rfl).trans ((show Xi T12 904 78 = Xi T4 904 78 from w328.x _ _ rfl)))
                            exact Pl_weak (ih432 (by omega) T14 hHT14 hFT14 (v1) (v2) (v5) ((v7 + 1)) (by omega) (by omega) (by omega) (by omega) (by first | exact i432a | exact i361a) (by first | exact i432b | exact i361b) (by omega) (by first | exact p432 | exact p361) (by omega) (by first | exact q432 | exact q361.o.2 (by omega)) (by first | exact ⟨fun _ => N533, fun q => absurd q (by omega)⟩ | exact N426) (by first | exact H533 | exact ((by assumption : FR md_mo_need__p T13 T14).x 904 142 rfl).trans h361) (by omega) (by omega) (by omega) (by omega) (by omega) (by omega)) (by omega) (And.intro rfl (And.intro rfl (And.intro rfl (And.intro rfl (And.intro rfl (True.intro))))))
                          · refine y_iconst rfl ?_
                            refine y_goto rfl rfl ?_
                            refine y_bipush rfl rfl ?_
                            refine y_iload_n rfl rfl ?_
                            have w372 : Xi T13 904 108 = Xi T4 904 108 := (show Xi T13 904 108 = Xi T12 904 108 from w344.x _ _ rfl).trans ((show Xi T12 904 108 = Xi T4 904 108 from w328.x _ _ rfl))
                            have w373 : Xi T13 904 15 = Xi T4 904 15 := (show Xi T13 904 15 = Xi T12 904 15 from w344.x _ _ rfl).trans ((show Xi T12 904 15 = Xi T4 904 15 from w328.x _ _ rfl))
                            have w374 : Xi T13 904 19 = Xi T4 904 19 := (show Xi T13 904 19 = Xi T12 904 19 from w344.x _ _ rfl).trans ((show Xi T12 904 19 = Xi T4 904 19 from w328.x _ _ rfl))
                            have w375 : Xi T13 904 32 = Xi T4 904 32 := (show Xi T13 904 32 = Xi T12 904 32 from w344.x _ _ rfl).trans ((show Xi T12 904 32 = Xi T4 904 32 from w328.x _ _ rfl))
                            have w376 : Xi T13 904 70 = Xi T4 904 70 := (show Xi T13 904 70 = Xi T12 904 70 from w344.x _ _ rfl).trans ((show Xi T12 904 70 = Xi T4 904 70 from w328.x _ _ rfl))
                            have w377 : Xi T13 904 71 = Xi T4 904 71 := (show Xi T13 904 71 = Xi T12 904 71 from w344.x _ _ rfl).trans ((show Xi T12 904 71 = Xi T4 904 71 from w328.x _ _ rfl))
                            have w378 : Xi T13 904 72 = Xi T4 904 72 := (show Xi T13 904 72 = Xi T12 904 72 from w344.x _ _ rfl).trans ((show Xi T12 904 72 = Xi T4 904 72 from w328.x _ _ rfl))
                            have w379 : Xi T13 904 75 = Xi T4 904 75 := (show Xi T13 904 75 = Xi T12 904 75 from w344.x _ _ rfl).trans ((show Xi T12 904 75 = Xi T4 904 75 from w328.x _ _ rfl))
                            have w380 : Xi T13 904 76 = Xi T4 904 76 := (show Xi T13 904 76 = Xi T12 904 76 from w344.x _ _ rfl).trans ((show Xi T12 904 76 = Xi T4 904 76 from w328.x _ _ rfl))
                            have w381 : Xi T13 904 77 = Xi T4 904 77 := (show Xi T13 904 77 = Xi T12 904 77 from w344.x _ _ rfl).trans ((show Xi T12 904 77 = Xi T4 904 77 from w328.x _ _ rfl))
                            have w382 : Xi T13 904 78 = Xi T4 904 78 := (show Xi T13 904 78 = Xi T12 904 78 from w344.x _ _ rfl).trans ((show Xi T12 904 78 = Xi T4 904 78 from w328.x _ _ rfl))
                            refine y_callV rfl rfl rfl (t_mo_need__p hHT13 1 7 v2 ⟨by omega, by omega⟩ ⟨by omega, by omega⟩ ⟨by omega, by omega⟩ _) ?_
                            rintro _ T15 ⟨hHT15, w384, rfl, nt530⟩
                            have hFT15 : FR md_mo_askFifteen__4 S T15 := FR.tr hFT13 w384 rfl
                            show Pl _ _ _ _ _ _ [] _ _
                            have n530 : NT3 T15 = if c4S S v7.toNat < 2 then NT3 T13 else ntF (NT3 T13) 7 (Xi S 908 (fW S).toNat) := by have t := nt530; rw [(SMR_FR hFT13 rfl rfl).2.1 908 _ (by omega), i432b] at t; first | (rw [if_pos (by omega)]; rw [if_neg (show ¬ (1 : Int) = 0 by decide)] at t; exact t) | (rw [if_neg (by omega)]; rw [if_pos (show (0 : Int) = 0 from rfl)] at t; exact t)
                            clear nt530
                            refine y_iinc rfl rfl rfl rfl ?_
                            have N533 : NT3 T15 = a4S S (n4S S (NT3 S) (Xi S 904 72).toNat) (v7 + 1).toNat := by rw [show (v7 + 1).toNat = v7.toNat + 1 by omega]; show _ = if rnR S (Xi S 904 71 + ((v7.toNat : Nat) : Int)) 4 = -1 then _ else _; first | (have t := K494; rw [if_neg (by omega)]; unfold a4N; rw [n530, n512, t494]) | (rw [if_pos (by omega)]; exact M452)
                            have H533 : Xi T15 904 142 = 4 := by first | (have t := K494; rw [(by assumption : FR md_mo_need__p _ T15).x 904 142 rfl]; exact H512) | exact h432
                            refine y_goto rfl rfl ?_
                            have w385 : Xi T15 904 108 = Xi T4 904 108 := (show Xi T15 904 108 = Xi T13 904 108 from w384.x _ _ rfl).trans ( (show Xi T13 904 108 = Xi T12 904 108 from w344.x _ _ rfl).trans ((show Xi T12 904 108 = Xi T4 904 108 from w328.x _ _ rfl)))
                            have w386 : Xi T15 904 142 = Xi T4 904 142 := (show Xi T15 904 142 = Xi T13 904 142 from w384.x _ _ rfl).trans ( (show Xi T13 904 142 = Xi T12 904 142 from w344.x _ _ rfl).trans ((show Xi T12 904 142 = Xi T4 904 142 from w328.x _ _ rfl)))
                            have w387 : Xi T15 904 15 = Xi T4 904 15 := (show Xi T15 904 15 = Xi T13 904 15 from w384.x _ _ rfl).trans ( (show Xi T13 904 15 = Xi T12 904 15 from w344.x _ _ rfl).trans ((show Xi T12 904 15 = Xi T4 904 15 from w328.x _ _ rfl)))
                            have w388 : Xi T15 904 19 = Xi T4 904 19 := (show Xi T15 904 19 = Xi T13 904 19 from w384.x _ _ rfl).trans ( (show Xi T13 904 19 = Xi T12 904 19 from w344.x _ _ rfl).trans ((show Xi T12 904 19 = Xi T4 904 19 from w328.x _ _ rfl)))
                            have w389 : Xi T15 904 32 = Xi T4 904 32 := (show Xi T15 904 32 = Xi T13 904 32 from w384.x _ _ rfl).trans ( (show Xi T13 904 32 = Xi T12 904 32 from w344.x _ _ rfl).trans ((show Xi T12 904 32 = Xi T4 904 32 from w328.x _ _ rfl)))
                            have w390 : Xi T15 904 70 = Xi T4 904 70 := (show Xi T15 904 70 = Xi T13 904 70 from w384.x _ _ rfl).trans ( (show Xi T13 904 70 = Xi T12 904 70 from w344.x _ _ rfl).trans ((show Xi T12 904 70 = Xi T4 904 70 from w328.x _ _ rfl)))
                            have w391 : Xi T15 904 71 = Xi T4 904 71 := (show Xi T15 904 71 = Xi T13 904 71 from w384.x _ _ rfl).trans ( (show Xi T13 904 71 = Xi T12 904 71 from w344.x _ _ rfl).trans ((show Xi T12 904 71 = Xi T4 904 71 from w328.x _ _ rfl)))
                            have w392 : Xi T15 904 72 = Xi T4 904 72 := (show Xi T15 904 72 = Xi T13 904 72 from w384.x _ _ rfl).trans ( (show Xi T13 904 72 = Xi T12 904 72 from w344.x _ _ rfl).trans ((show Xi T12 904 72 = Xi T4 904 72 from w328.x _ _ rfl)))
                            have w393 : Xi T15 904 75 = Xi T4 904 75 := (show Xi T15 904 75 = Xi T13 904 75 from w384.x _ _ rfl).trans ( (show Xi T13 904 75 = Xi T12 904 75 from w344.x _ _ rfl).trans ((show Xi T12 904 75 = Xi T4 904 75 from w328.x _ _ rfl)))
                            have w394 : Xi T15 904 76 = Xi T4 904 76 := (show Xi T15 904 76 = Xi T13 904 76 from w384.x _ _ rfl).trans ( (show Xi T13 904 76 = Xi T12 904 76 from w344.x _ _ rfl).trans ((show Xi T12 904 76 = Xi T4 904 76 from w328.x _ _ rfl)))
                            have w395 : Xi T15 904 77 = Xi T4 904 77 := (show Xi T15 904 77 = Xi T13 904 77 from w384.x _ _ rfl).trans ( (show Xi T13 904 77 = Xi T12 904 77 from w344.x _ _ rfl).trans ((show Xi T12 904 77 = Xi T4 904 77 from w328.x _ _ rfl)))
                            have w396 : Xi T15 904 78 = Xi T4 904 78 := (show Xi T15 904 78 = Xi T13 904 78 from w384.x _ _ rfl).trans ( (show Xi T13 904 78 = Xi T12 904 78 from w344.x _ _ rfl).trans ((show Xi T12 904 78 = Xi T4 904 78 from w328.x _ _ rfl)))
                            exact Pl_weak (ih432 (by omega) T15 hHT15 hFT15 (v1) (v2) (v5) ((v7 + 1)) (by omega) (by omega) (by omega) (by omega) (by first | exact i432a | exact i361a) (by first | exact i432b | exact i361b) (by omega) (by first | exact p432 | exact p361) (by omega) (by first | exact q432 | exact q361.o.2 (by omega)) (by first | exact ⟨fun _ => N533, fun q => absurd q (by omega)⟩ | exact N426) (by first | exact H533 | exact ((by assumption : FR md_mo_need__p T13 T15).x 904 142 rfl).trans h361) (by omega) (by omega) (by omega) (by omega) (by omega) (by omega)) (by omega) (And.intro rfl (And.intro rfl (And.intro rfl (And.intro rfl (And.intro rfl (True.intro))))))
                        · refine y_iconst rfl ?_
                          refine y_goto rfl rfl ?_
                          refine y_iconst rfl ?_
                          refine y_iload_n rfl rfl ?_
                          have w397 : Xi T12 904 106 = Xi T4 904 106 := (show Xi T12 904 106 = Xi T4 904 106 from w328.x _ _ rfl)
                          have w398 : Xi T12 904 108 = Xi T4 904 108 := (show Xi T12 904 108 = Xi T4 904 108 from w328.x _ _ rfl)
                          have w399 : Xi T12 904 15 = Xi T4 904 15 := (show Xi T12 904 15 = Xi T4 904 15 from w328.x _ _ rfl)
                          have w400 : Xi T12 904 19 = Xi T4 904 19 := (show Xi T12 904 19 = Xi T4 904 19 from w328.x _ _ rfl)
                          have w401 : Xi T12 904 32 = Xi T4 904 32 := (show Xi T12 904 32 = Xi T4 904 32 from w328.x _ _ rfl)
                          have w402 : Xi T12 904 70 = Xi T4 904 70 := (show Xi T12 904 70 = Xi T4 904 70 from w328.x _ _ rfl)
                          have w403 : Xi T12 904 71 = Xi T4 904 71 := (show Xi T12 904 71 = Xi T4 904 71 from w328.x _ _ rfl)
                          have w404 : Xi T12 904 72 = Xi T4 904 72 := (show Xi T12 904 72 = Xi T4 904 72 from w328.x _ _ rfl)
                          have w405 : Xi T12 904 75 = Xi T4 904 75 := (show Xi T12 904 75 = Xi T4 904 75 from w328.x _ _ rfl)
                          have w406 : Xi T12 904 76 = Xi T4 904 76 := (show Xi T12 904 76 = Xi T4 904 76 from w328.x _ _ rfl)
                          have w407 : Xi T12 904 77 = Xi T4 904 77 := (show Xi T12 904 77 = Xi T4 904 77 from w328.x _ _ rfl)
                          have w408 : Xi T12 904 78 = Xi T4 904 78 := (show Xi T12 904 78 = Xi T4 904 78 from w328.x _ _ rfl)
                          refine y_callV rfl rfl rfl (t_mo_need__p hHT12 1 4 v2 ⟨by omega, by omega⟩ ⟨by omega, by omega⟩ ⟨by omega, by omega⟩ _) ?_
                          rintro _ T16 ⟨hHT16, w410, rfl, nt512⟩
                          have hFT16 : FR md_mo_askFifteen__4 S T16 := FR.tr hFT12 w410 rfl
                          show Pl _ _ _ _ _ _ [] _ _
                          have n512 : NT3 T16 = if 0 < c4S S v7.toNat then NT3 T12 else ntF (NT3 T12) 4 (Xi S 908 (fW S).toNat) := by have t := nt512; rw [(SMR_FR hFT12 rfl rfl).2.1 908 _ (by omega), i432b] at t; first | (rw [if_pos (by omega)]; rw [if_neg (show ¬ (1 : Int) = 0 by decide)] at t; exact t) | (rw [if_neg (by omega)]; rw [if_pos (show (0 : Int) = 0 from rfl)] at t; exact t)
                          clear nt512
                          have H512 : Xi T16 904 142 = 4 := ((by assumption : FR md_mo_need__p T12 T16).x 904 142 rfl).trans ((F494.x 904 142 rfl).trans h432)
                          refine y_aload_n rfl rfl ?_
                          refine y_iload rfl rfl ?_
                          refine y_iconst rfl ?_
                          refine y_icmp_ge rfl rfl (by unfold rg; omega) (by unfold rg; omega) (fun w411 => ?_) (fun w412 => ?_)
                          · refine y_iconst rfl ?_
                            refine y_bipush rfl rfl ?_
                            refine y_iload_n rfl rfl ?_
                            have w413 : Xi T16 904 108 = Xi T4 904 108 := (show Xi T16 904 108 = Xi T12 904 108 from w410.x _ _ rfl).trans ((show Xi T12 904 108 = Xi T4 904 108 from w328.x _ _ rfl))
                            have w414 : Xi T16 904 15 = Xi T4 904 15 := (show Xi T16 904 15 = Xi T12 904 15 from w410.x _ _ rfl).trans ((show Xi T12 904 15 = Xi T4 904 15 from w328.x _ _ rfl))
                            have w415 : Xi T16 904 19 = Xi T4 904 19 := (show Xi T16 904 19 = Xi T12 904 19 from w410.x _ _ rfl).trans ((show Xi T12 904 19 = Xi T4 904 19 from w328.x _ _ rfl))
                            have w416 : Xi T16 904 32 = Xi T4 904 32 := (show Xi T16 904 32 = Xi T12 904 32 from w410.x _ _ rfl).trans ((show Xi T12 904 32 = Xi T4 904 32 from w328.x _ _ rfl))
                            have w417 : Xi T16 904 70 = Xi T4 904 70 := (show Xi T16 904 70 = Xi T12 904 70 from w410.x _ _ rfl).trans ((show Xi T12 904 70 = Xi T4 904 70 from w328.x _ _ rfl))
                            have w418 : Xi T16 904 71 = Xi T4 904 71 := (show Xi T16 904 71 = Xi T12 904 71 from w410.x _ _ rfl).trans ((show Xi T12 904 71 = Xi T4 904 71 from w328.x _ _ rfl))
                            have w419 : Xi T16 904 72 = Xi T4 904 72 := (show Xi T16 904 72 = Xi T12 904 72 from w410.x _ _ rfl).trans ((show Xi T12 904 72 = Xi T4 904 72 from w328.x _ _ rfl))
                            have w420 : Xi T16 904 75 = Xi T4 904 75 := (show Xi T16 904 75 = Xi T12 904 75 from w410.x _ _ rfl).trans ((show Xi T12 904 75 = Xi T4 904 75 from w328.x _ _ rfl))
                            have w421 : Xi T16 904 76 = Xi T4 904 76 := (show Xi T16 904 76 = Xi T12 904 76 from w410.x _ _ rfl).trans ((show Xi T12 904 76 = Xi T4 904 76 from w328.x _ _ rfl))
                            have w422 : Xi T16 904 77 = Xi T4 904 77 := (show Xi T16 904 77 = Xi T12 904 77 from w410.x _ _ rfl).trans ((show Xi T12 904 77 = Xi T4 904 77 from w328.x _ _ rfl))
                            have w423 : Xi T16 904 78 = Xi T4 904 78 := (show Xi T16 904 78 = Xi T12 904 78 from w410.x _ _ rfl).trans ((show Xi T12 904 78 = Xi T4 904 78 from w328.x _ _ rfl))
                            refine y_callV rfl rfl rfl (t_mo_need__p hHT16 0 7 v2 ⟨by omega, by omega⟩ ⟨by omega, by omega⟩ ⟨by omega, by omega⟩ _) ?_
                            rintro _ T17 ⟨hHT17, w425, rfl, nt530⟩
                            have hFT17 : FR md_mo_askFifteen__4 S T17 := FR.tr hFT16 w425 rfl
                            show Pl _ _ _ _ _ _ [] _ _
                            have n530 : NT3 T17 = if c4S S v7.toNat < 2 then NT3 T16 else ntF (NT3 T16) 7 (Xi S 908 (fW S).toNat) := by have t := nt530; rw [(SMR_FR hFT16 rfl rfl).2.1 908 _ (by omega), i432b] at t; first | (rw [if_pos (by omega)]; rw [if_neg (show ¬ (1 : Int) = 0 by decide)] at t; exact t) | (rw [if_neg (by omega)]; rw [if_pos (show (0 : Int) = 0 from rfl)] at t; exact t)
                            clear nt530
                            refine y_iinc rfl rfl rfl rfl ?_
                            have N533 : NT3 T17 = a4S S (n4S S (NT3 S) (Xi S 904 72).toNat) (v7 + 1).toNat := by rw [show (v7 + 1).toNat = v7.toNat + 1 by omega]; show _ = if rnR S (Xi S 904 71 + ((v7.toNat : Nat) : Int)) 4 = -1 then _ else _; first | (have t := K494; rw [if_neg (by omega)]; unfold a4N; rw [n530, n512, t494]) | (rw [if_pos (by omega)]; exact M452)
                            have H533 : Xi T17 904 142 = 4 := by first | (have t := K494; rw [(by assumption : FR md_mo_need__p _ T17).x 904 142 rfl]; exact H512) | exact h432
                            refine y_goto rfl rfl ?_
                            have w426 : Xi T17 904 108 = Xi T4 904 108 := (show Xi T17 904 108 = Xi T16 904 108 from w425.x _ _ rfl).trans ( (show Xi T16 904 108 = Xi T12 904 108 from w410.x _ _ rfl).trans ((show Xi T12 904 108 = Xi T4 904 108 from w328.x _ _ rfl)))
                            have w427 : Xi T17 904 142 = Xi T4 904 142 := (show Xi T17 904 142 = Xi T16 904 142 from w425.x _ _ rfl).trans ( (show Xi T16 904 142 = Xi T12 904 142 from w410.x _ _ rfl).trans ((show Xi T12 904 142 = Xi T4 904 142 from w328.x _ _ rfl)))
                            have w428 : Xi T17 904 15 = Xi T4 904 15 := (show Xi T17 904 15 = Xi T16 904 15 from w425.x _ _ rfl).trans ( (show Xi T16 904 15 = Xi T12 904 15 from w410.x _ _ rfl).trans ((show Xi T12 904 15 = Xi T4 904 15 from w328.x _ _ rfl)))
                            have w429 : Xi T17 904 19 = Xi T4 904 19 := (show Xi T17 904 19 = Xi T16 904 19 from w425.x _ _ rfl).trans ( (show Xi T16 904 19 = Xi T12 904 19 from w410.x _ _ rfl).trans ((show Xi T12 904 19 = Xi T4 904 19 from w328.x _ _ rfl)))
                            have w430 : Xi T17 904 32 = Xi T4 904 32 := (show Xi T17 904 32 = Xi T16 904 32 from w425.x _ _ rfl).trans ( (show Xi T16 904 32 = Xi T12 904 32 from w410.x _ _ rfl).trans ((show Xi T12 904 32 = Xi T4 904 32 from w328.x _ _ rfl)))
                            have w431 : Xi T17 904 70 = Xi T4 904 70 := (show Xi T17 904 70 = Xi T16 904 70 from w425.x _ _ rfl).trans ( (show Xi T16 904 70 = Xi T12 904 70 from w410.x _ _ rfl).trans ((show Xi T12 904 70 = Xi T4 904 70 from w328.x _ _ rfl)))
                            have w432 : Xi T17 904 71 = Xi T4 904 71 := (show Xi T17 904 71 = Xi T16 904 71 from w425.x _ _ rfl).trans ( (show Xi T16 904 71 = Xi T12 904 71 from w410.x _ _ rfl).trans ((show Xi T12 904 71 = Xi T4 904 71 from w328.x _ _ rfl)))
                            have w433 : Xi T17 904 72 = Xi T4 904 72 := (show Xi T17 904 72 = Xi T16 904 72 from w425.x _ _ rfl).trans ( (show Xi T16 904 72 = Xi T12 904 72 from w410.x _ _ rfl).trans ((show Xi T12 904 72 = Xi T4 904 72 from w328.x _ _ rfl)))
                            have w434 : Xi T17 904 75 = Xi T4 904 75 := (show Xi T17 904 75 = Xi T16 904 75 from w425.x _ _ rfl).trans ( (show Xi T16 904 75 = Xi T12 904 75 from w410.x _ _ rfl).trans ((show Xi T12 904 75 = Xi T4 904 75 from w328.x _ _ rfl)))
                            have w435 : Xi T17 904 76 = Xi T4 904 76 := (show Xi T17 904 76 = Xi T16 904 76 from w425.x _ _ rfl).trans ( (show Xi T16 904 76 = Xi T12 904 76 from w410.x _ _ rfl).trans ((show Xi T12 904 76 = Xi T4 904 76 from w328.x _ _ rfl)))
                            have w436 : Xi T17 904 77 = Xi T4 904 77 := (show Xi T17 904 77 = Xi T16 904 77 from w425.x _ _ rfl).trans ( (show Xi T16 904 77 = Xi T12 904 77 from w410.x _ _ rfl).trans ((show Xi T12 904 77 = Xi T4 904 77 from w328.x _ _ rfl)))
                            have w437 : Xi T17 904 78 = Xi T4 904 78 := (show Xi T17 904 78 = Xi T16 904 78 from w425.x _ _ rfl).trans ( (show Xi T16 904 78 = Xi T12 904 78 from w410.x _ _ rfl).trans ((show Xi T12 904 78 = Xi T4 904 78 from w328.x _ _ rfl)))
                            exact Pl_weak (ih432 (by omega) T17 hHT17 hFT17 (v1) (v2) (v5) ((v7 + 1)) (by omega) (by omega) (by omega) (by omega) (by first | exact i432a | exact i361a) (by first | exact i432b | exact i361b) (by omega) (by first | exact p432 | exact p361) (by omega) (by first | exact q432 | exact q361.o.2 (by omega)) (by first | exact ⟨fun _ => N533, fun q => absurd q (by omega)⟩ | exact N426) (by first | exact H533 | exact ((by assumption : FR md_mo_need__p T16 T17).x 904 142 rfl).trans h361) (by omega) (by omega) (by omega) (by omega) (by omega) (by omega)) (by omega) (And.intro rfl (And.intro rfl (And.intro rfl (And.intro rfl (And.intro rfl (True.intro))))))
                          · refine y_iconst rfl ?_
                            refine y_goto rfl rfl ?_
                            refine y_bipush rfl rfl ?_
                            refine y_iload_n rfl rfl ?_
                            have w438 : Xi T16 904 108 = Xi T4 904 108 := (show Xi T16 904 108 = Xi T12 904 108 from w410.x _ _ rfl).trans ((show Xi T12 904 108 = Xi T4 904 108 from w328.x _ _ rfl))
                            have w439 : Xi T16 904 15 = Xi T4 904 15 := (show Xi T16 904 15 = Xi T12 904 15 from w410.x _ _ rfl).trans ((show Xi T12 904 15 = Xi T4 904 15 from w328.x _ _ rfl))
                            have w440 : Xi T16 904 19 = Xi T4 904 19 := (show Xi T16 904 19 = Xi T12 904 19 from w410.x _ _ rfl).trans ((show Xi T12 904 19 = Xi T4 904 19 from w328.x _ _ rfl))
                            have w441 : Xi T16 904 32 = Xi T4 904 32 := (show Xi T16 904 32 = Xi T12 904 32 from w410.x _ _ rfl).trans ((show Xi T12 904 32 = Xi T4 904 32 from w328.x _ _ rfl))
                            have w442 : Xi T16 904 70 = Xi T4 904 70 := (show Xi T16 904 70 = Xi T12 904 70 from w410.x _ _ rfl).trans ((show Xi T12 904 70 = Xi T4 904 70 from w328.x _ _ rfl))
                            have w443 : Xi T16 904 71 = Xi T4 904 71 := (show Xi T16 904 71 = Xi T12 904 71 from w410.x _ _ rfl).trans ((show Xi T12 904 71 = Xi T4 904 71 from w328.x _ _ rfl))
                            have w444 : Xi T16 904 72 = Xi T4 904 72 := (show Xi T16 904 72 = Xi T12 904 72 from w410.x _ _ rfl).trans ((show Xi T12 904 72 = Xi T4 904 72 from w328.x _ _ rfl))
                            have w445 : Xi T16 904 75 = Xi T4 904 75 := (show Xi T16 904 75 = Xi T12 904 75 from w410.x _ _ rfl).trans ((show Xi T12 904 75 = Xi T4 904 75 from w328.x _ _ rfl))
                            have w446 : Xi T16 904 76 = Xi T4 904 76 := (show Xi T16 904 76 = Xi T12 904 76 from w410.x _ _ rfl).trans ((show Xi T12 904 76 = Xi T4 904 76 from w328.x _ _ rfl))
                            have w447 : Xi T16 904 77 = Xi T4 904 77 := (show Xi T16 904 77 = Xi T12 904 77 from w410.x _ _ rfl).trans ((show Xi T12 904 77 = Xi T4 904 77 from w328.x _ _ rfl))
                            have w448 : Xi T16 904 78 = Xi T4 904 78 := (show Xi T16 904 78 = Xi T12 904 78 from w410.x _ _ rfl).trans ((show Xi T12 904 78 = Xi T4 904 78 from w328.x _ _ rfl))
                            refine y_callV rfl rfl rfl (t_mo_need__p hHT16 1 7 v2 ⟨by omega, by omega⟩ ⟨by omega, by omega⟩ ⟨by omega, by omega⟩ _) ?_
                            rintro _ T18 ⟨hHT18, w450, rfl, nt530⟩
                            have hFT18 : FR md_mo_askFifteen__4 S T18 := FR.tr hFT16 w450 rfl
                            show Pl _ _ _ _ _ _ [] _ _
                            have n530 : NT3 T18 = if c4S S v7.toNat < 2 then NT3 T16 else ntF (NT3 T16) 7 (Xi S 908 (fW S).toNat) := by have t := nt530; rw [(SMR_FR hFT16 rfl rfl).2.1 908 _ (by omega), i432b] at t; first | (rw [if_pos (by omega)]; rw [if_neg (show ¬ (1 : Int) = 0 by decide)] at t; exact t) | (rw [if_neg (by omega)]; rw [if_pos (show (0 : Int) = 0 from rfl)] at t; exact t)
                            clear nt530
                            refine y_iinc rfl rfl rfl rfl ?_
                            have N533 : NT3 T18 = a4S S (n4S S (NT3 S) (Xi S 904 72).toNat) (v7 + 1).toNat := by rw [show (v7 + 1).toNat = v7.toNat + 1 by omega]; show _ = if rnR S (Xi S 904 71 + ((v7.toNat : Nat) : Int)) 4 = -1 then _ else _; first | (have t := K494; rw [if_neg (by omega)]; unfold a4N; rw [n530, n512, t494]) | (rw [if_pos (by omega)]; exact M452)
                            have H533 : Xi T18 904 142 = 4 := by first | (have t := K494; rw [(by assumption : FR md_mo_need__p _ T18).x 904 142 rfl]; exact H512) | exact h432
                            refine y_goto rfl rfl ?_
                            have w451 : Xi T18 904 108 = Xi T4 904 108 := (show Xi T18 904 108 = Xi T16 904 108 from w450.x _ _ rfl).trans ( (show Xi T16 904 108 = Xi T12 904 108 from w410.x _ _ rfl).trans ((show Xi T12 904 108 = Xi T4 904 108 from w328.x _ _ rfl)))
                            have w452 : Xi T18 904 142 = Xi T4 904 142 := (show Xi T18 904 142 = Xi T16 904 142 from w450.x _ _ rfl).trans ( (show Xi T16 904 142 = Xi T12 904 142 from w410.x _ _ rfl).trans ((show Xi T12 904 142 = Xi T4 904 142 from w328.x _ _ rfl)))
                            have w453 : Xi T18 904 15 = Xi T4 904 15 := (show Xi T18 904 15 = Xi T16 904 15 from w450.x _ _ rfl).trans ( (show Xi T16 904 15 = Xi T12 904 15 from w410.x _ _ rfl).trans ((show Xi T12 904 15 = Xi T4 904 15 from w328.x _ _ rfl)))
                            have w454 : Xi T18 904 19 = Xi T4 904 19 := (show Xi T18 904 19 = Xi T16 904 19 from w450.x _ _ rfl).trans ( (show Xi T16 904 19 = Xi T12 904 19 from w410.x _ _ rfl).trans ((show Xi T12 904 19 = Xi T4 904 19 from w328.x _ _ rfl)))
                            have w455 : Xi T18 904 32 = Xi T4 904 32 := (show Xi T18 904 32 = Xi T16 904 32 from w450.x _ _ rfl).trans ( (show Xi T16 904 32 = Xi T12 904 32 from w410.x _ _ rfl).trans ((show Xi T12 904 32 = Xi T4 904 32 from w328.x _ _ rfl)))
                            have w456 : Xi T18 904 70 = Xi T4 904 70 := (show Xi T18 904 70 = Xi T16 904 70 from w450.x _ _ rfl).trans ( (show Xi T16 904 70 = Xi T12 904 70 from w410.x _ _ rfl).trans ((show Xi T12 904 70 = Xi T4 904 70 from w328.x _ _ rfl)))
                            have w457 : Xi T18 904 71 = Xi T4 904 71 := (show Xi T18 904 71 = Xi T16 904 71 from w450.x _ _ rfl).trans ( (show Xi T16 904 71 = Xi T12 904 71 from w410.x _ _ rfl).trans ((show Xi T12 904 71 = Xi T4 904 71 from w328.x _ _ rfl)))
                            have w458 : Xi T18 904 72 = Xi T4 904 72 := (show Xi T18 904 72 = Xi T16 904 72 from w450.x _ _ rfl).trans ( (show Xi T16 904 72 = Xi T12 904 72 from w410.x _ _ rfl).trans ((show Xi T12 904 72 = Xi T4 904 72 from w328.x _ _ rfl)))
                            have w459 : Xi T18 904 75 = Xi T4 904 75 := (show Xi T18 904 75 = Xi T16 904 75 from w450.x _ _ rfl).trans ( (show Xi T16 904 75 = Xi T12 904 75 from w410.x _ _ rfl).trans ((show Xi T12 904 75 = Xi T4 904 75 from w328.x _ _ rfl)))
                            have w460 : Xi T18 904 76 = Xi T4 904 76 := (show Xi T18 904 76 = Xi T16 904 76 from w450.x _ _ rfl).trans ( (show Xi T16 904 76 = Xi T12 904 76 from w410.x _ _ rfl).trans ((show Xi T12 904 76 = Xi T4 904 76 from w328.x _ _ rfl)))
                            have w461 : Xi T18 904 77 = Xi T4 904 77 := (show Xi T18 904 77 = Xi T16 904 77 from w450.x _ _ rfl).trans ( (show Xi T16 904 77 = Xi T12 904 77 from w410.x _ _ rfl).trans ((show Xi T12 904 77 = Xi T4 904 77 from w328.x _ _ rfl)))
                            have w462 : Xi T18 904 78 = Xi T4 904 78 := (show Xi T18 904 78 = Xi T16 904 78 from w450.x _ _ rfl).trans ( (show Xi T16 904 78 = Xi T12 904 78 from w410.x _ _ rfl).trans ((show Xi T12 904 78 = Xi T4 904 78 from w328.x _ _ rfl)))
                            exact Pl_weak (ih432 (by omega) T18 hHT18 hFT18 (v1) (v2) (v5) ((v7 + 1)) (by omega) (by omega) (by omega) (by omega) (by first | exact i432a | exact i361a) (by first | exact i432b | exact i361b) (by omega) (by first | exact p432 | exact p361) (by omega) (by first | exact q432 | exact q361.o.2 (by omega)) (by first | exact ⟨fun _ => N533, fun q => absurd q (by omega)⟩ | exact N426) (by first | exact H533 | exact ((by assumption : FR md_mo_need__p T16 T18).x 904 142 rfl).trans h361) (by omega) (by omega) (by omega) (by omega) (by omega) (by omega)) (by omega) (And.intro rfl (And.intro rfl (And.intro rfl (And.intro rfl (And.intro rfl (True.intro))))))
            refine ys_iload rfl rfl ?_
            refine y_aload_n rfl rfl ?_
            refine y_gfi rfl rfl rfl rfl rfl ?_
            refine y_icmp_ge rfl rfl (by unfold rg; omega) (by unfold rg; omega) (fun w463 => ?_) (fun w464 => ?_)
            · refine y_iload rfl rfl ?_
              have N408 : NT3 T3 = (n4S S (NT3 S) (Xi S 904 72).toNat) := by have t := N361; rw [show v7 = Xi S 904 72 by omega] at t; exact t
              refine y_if_eq rfl rfl (by unfold rg; omega) (fun w465 => ?_) (fun w466 => ?_)
              · refine y_aload_n rfl rfl ?_
                refine y_iload rfl rfl ?_
                refine y_iconst rfl ?_
                refine y_iload_n rfl rfl ?_
                refine y_callV rfl rfl rfl (t_mo_need__p hHT3 v5 4 v2 ⟨by omega, by omega⟩ ⟨by omega, by omega⟩ ⟨by omega, by omega⟩ _) ?_
                rintro _ T19 ⟨hHT19, w468, rfl, nt426⟩
                have hFT19 : FR md_mo_askFifteen__4 S T19 := FR.tr hFT3 w468 rfl
                show Pl _ _ _ _ _ _ [] _ _
                have N426 : Hid ((v5 = 1 → NT3 T19 = (n4S S (NT3 S) (Xi S 904 72).toNat)) ∧ (v5 = 0 → NT3 T19 = ntF (n4S S (NT3 S) (Xi S 904 72).toNat) 4 (Xi S 908 (fW S).toNat))) := by have t := nt426; rw [(SMR_FR hFT3 rfl rfl).2.1 908 _ (by omega), N408, i361b] at t; exact ⟨fun q => by rw [if_neg (by omega)] at t; exact t, fun q => by rw [if_pos q] at t; exact t⟩
                clear nt426
                refine y_iconst rfl ?_
                refine y_istore rfl rfl rfl ?_
                have w469 : Xi T19 904 108 = Xi T3 904 108 := (show Xi T19 904 108 = Xi T3 904 108 from w468.x _ _ rfl)
                have w470 : Xi T19 904 142 = Xi T3 904 142 := (show Xi T19 904 142 = Xi T3 904 142 from w468.x _ _ rfl)
                have w471 : Xi T19 904 15 = Xi T3 904 15 := (show Xi T19 904 15 = Xi T3 904 15 from w468.x _ _ rfl)
                have w472 : Xi T19 904 19 = Xi T3 904 19 := (show Xi T19 904 19 = Xi T3 904 19 from w468.x _ _ rfl)
                have w473 : Xi T19 904 32 = Xi T3 904 32 := (show Xi T19 904 32 = Xi T3 904 32 from w468.x _ _ rfl)
                have w474 : Xi T19 904 70 = Xi T3 904 70 := (show Xi T19 904 70 = Xi T3 904 70 from w468.x _ _ rfl)
                have w475 : Xi T19 904 71 = Xi T3 904 71 := (show Xi T19 904 71 = Xi T3 904 71 from w468.x _ _ rfl)
                have w476 : Xi T19 904 72 = Xi T3 904 72 := (show Xi T19 904 72 = Xi T3 904 72 from w468.x _ _ rfl)
                have w477 : Xi T19 904 75 = Xi T3 904 75 := (show Xi T19 904 75 = Xi T3 904 75 from w468.x _ _ rfl)
                have w478 : Xi T19 904 76 = Xi T3 904 76 := (show Xi T19 904 76 = Xi T3 904 76 from w468.x _ _ rfl)
                have w479 : Xi T19 904 77 = Xi T3 904 77 := (show Xi T19 904 77 = Xi T3 904 77 from w468.x _ _ rfl)
                have w480 : Xi T19 904 78 = Xi T3 904 78 := (show Xi T19 904 78 = Xi T3 904 78 from w468.x _ _ rfl)
                exact Pl_weak (C432 n361 (by omega) T19 hHT19 hFT19 (v1) (v2) (v5) (0) (by omega) (by omega) (by omega) (by omega) (by first | exact i432a | exact i361a) (by first | exact i432b | exact i361b) (by omega) (by first | exact p432 | exact p361) (by omega) (by first | exact q432 | exact q361.o.2 (by omega)) (by first | exact ⟨fun _ => N533, fun q => absurd q (by omega)⟩ | exact N426) (by first | exact H533 | exact ((by assumption : FR md_mo_need__p T3 T19).x 904 142 rfl).trans h361) (by omega) (by omega) (by omega) (by omega) (by omega) (by omega)) (by omega) (And.intro rfl (And.intro rfl (And.intro rfl (And.intro rfl (And.intro rfl (True.intro))))))
              · refine y_aload_n rfl rfl ?_
                refine y_bipush rfl rfl ?_
                refine y_iload_n rfl rfl ?_
                refine y_callV rfl rfl rfl (t_mo_note__p hHT3 7 v2 ⟨by omega, by omega⟩ ⟨by omega, by omega⟩ _) ?_
                rintro _ T20 ⟨hHT20, w482, rfl, nt417⟩
                have hFT20 : FR md_mo_askFifteen__4 S T20 := FR.tr hFT3 w482 rfl
                show Pl _ _ _ _ _ _ [] _ _
                have K417 : True := trivial
                have y417 : v5 = 1 := by by_cases y : v5 = 1; exact y; exact absurd ⟨by omega, by omega⟩ v361.o
                have n417 : NT3 T20 = ntF (n4S S (NT3 S) (Xi S 904 72).toNat) 7 (Xi S 908 (fW S).toNat) := by have t := nt417; rw [(SMR_FR hFT3 rfl rfl).2.1 908 _ (by omega), N408, i361b] at t; exact t
                have R417 : RAX S T20 := ⟨fun _ q => absurd (p361.o.1 y417) q, fun _ _ => ⟨((by assumption : FR md_mo_note__p T3 T20).x 904 142 rfl).trans h361, n417⟩, fun q => absurd (q361.o.1 (by omega)) q, fun q => absurd (q361.o.1 (by omega)) q⟩
                refine y_return rfl rfl ?_
                have w483 : Xi T20 904 108 = Xi T3 904 108 := (show Xi T20 904 108 = Xi T3 904 108 from w482.x _ _ rfl)
                have w484 : Xi T20 904 15 = Xi T3 904 15 := (show Xi T20 904 15 = Xi T3 904 15 from w482.x _ _ rfl)
                have w485 : Xi T20 904 19 = Xi T3 904 19 := (show Xi T20 904 19 = Xi T3 904 19 from w482.x _ _ rfl)
                have w486 : Xi T20 904 32 = Xi T3 904 32 := (show Xi T20 904 32 = Xi T3 904 32 from w482.x _ _ rfl)
                have w487 : Xi T20 904 70 = Xi T3 904 70 := (show Xi T20 904 70 = Xi T3 904 70 from w482.x _ _ rfl)
                have w488 : Xi T20 904 71 = Xi T3 904 71 := (show Xi T20 904 71 = Xi T3 904 71 from w482.x _ _ rfl)
                have w489 : Xi T20 904 72 = Xi T3 904 72 := (show Xi T20 904 72 = Xi T3 904 72 from w482.x _ _ rfl)
                have w490 : Xi T20 904 75 = Xi T3 904 75 := (show Xi T20 904 75 = Xi T3 904 75 from w482.x _ _ rfl)
                have w491 : Xi T20 904 76 = Xi T3 904 76 := (show Xi T20 904 76 = Xi T3 904 76 from w482.x _ _ rfl)
                have w492 : Xi T20 904 77 = Xi T3 904 77 := (show Xi T20 904 77 = Xi T3 904 77 from w482.x _ _ rfl)
                have w493 : Xi T20 904 78 = Xi T3 904 78 := (show Xi T20 904 78 = Xi T3 904 78 from w482.x _ _ rfl)
                exact ⟨hHT20, hFT20, rfl, (by first | (have t := K354; exact R354) | (have t := K417; exact R417) | (have a := p432.o; have b := q432; exact ⟨fun q => absurd q b, fun q => absurd q b, fun _ n => ⟨by omega, N432.o.2 (by by_cases y : v5 = 1; exact absurd (a.1 y) n; omega)⟩, fun _ y => ⟨by omega, by by_cases w : v5 = 1; (have t := N432.o.1 w; rw [show v7 = Xi S 904 72 by omega] at t; exact t); exact absurd y (a.2 (by omega))⟩⟩))⟩
            · refine y_aload_n rfl rfl ?_
              refine y_aload_n rfl rfl ?_
              refine y_iload_n rfl rfl ?_
              refine y_iload rfl rfl ?_
              refine y_iadd rfl ?_
              refine y_iconst rfl ?_
              refine y_callV rfl rfl rfl (t_mo_meansRun__p hHT3 (v1 + v7) 4 ⟨by omega, by omega⟩ ⟨by omega, by omega⟩ (by first | assumption | exact (LSP_FR hFT3 rfl rfl (by assumption : LSP S))) (by first | assumption | omega) (by first | assumption | exact (RBD_FR hFT3 rfl (by assumption : RBD S))) _) ?_
              rintro _ _ ⟨rfl, z494, rfl, w494, f377⟩
              show Pl _ _ _ _ _ _ [iv z494, .ref 904] _ _
              have e377 : z494 = rnR S (Xi S 904 71 + ((v7.toNat : Nat) : Int)) 4 := by have t := f377; rw [rnR_sm (SMR_FR hFT3 rfl rfl), show v1 + v7 = Xi S 904 71 + ((v7.toNat : Nat) : Int) by omega] at t; exact t
              clear f377
              refine y_iconst rfl ?_
              refine y_icmp_eq rfl rfl (by unfold rg; omega) (by unfold rg; omega) (fun w495 => ?_) (fun w496 => ?_)
              · refine y_iconst rfl ?_
                refine y_iconst rfl ?_
                refine y_aload_n rfl rfl ?_
                refine y_gfr rfl rfl rfl rfl rfl (hHT3.r 904 67 950 rfl) ?_
                refine y_iload_n rfl rfl ?_
                refine y_iload rfl rfl ?_
                refine y_iadd rfl ?_
                refine y_ialoadP (n := 2600) rfl rfl (by unfold rg; omega) (fun w497 w498 => ?_)
                have w499 : -2147483648 ≤ (Xi T3 950 (((v1 + v7)).toNat)) ∧ (Xi T3 950 (((v1 + v7)).toNat)) ≤ 2147483647 := Xi_rgI
                refine y_callV rfl rfl rfl (t_mo_need__p hHT3 0 4 (Xi T3 950 (((v1 + v7)).toNat)) ⟨by omega, by omega⟩ ⟨by omega, by omega⟩ ⟨by omega, by omega⟩ _) ?_
                rintro _ T21 ⟨hHT21, w501, rfl, nt399⟩
                have hFT21 : FR md_mo_askFifteen__4 S T21 := FR.tr hFT3 w501 rfl
                show Pl _ _ _ _ _ _ [] _ _
                have N399 : NT3 T21 = n4S S (NT3 S) (v7 + 1).toNat := by rw [show (v7 + 1).toNat = v7.toNat + 1 by omega]; have t := nt399; rw [(SMR_FR hFT3 rfl rfl).2.1 908 _ (by omega), (SMR_FR hFT3 rfl rfl).2.1 950 _ (by omega), N361, show v1 + v7 = Xi S 904 71 + ((v7.toNat : Nat) : Int) by omega] at t; show _ = if rnR S (Xi S 904 71 + ((v7.toNat : Nat) : Int)) 4 = -1 then _ else _; first | (rw [if_pos (by omega)]; rw [if_pos (show (0 : Int) = 0 from rfl)] at t; exact t) | (rw [if_neg (by omega)]; rw [if_neg (show ¬ (1 : Int) = 0 by decide)] at t; exact t)
                clear nt399
                refine y_iinc rfl rfl rfl rfl ?_
                refine y_goto rfl rfl ?_
                have w502 : Xi T21 904 108 = Xi T3 904 108 := (show Xi T21 904 108 = Xi T3 904 108 from w501.x _ _ rfl)
                have w503 : Xi T21 904 142 = Xi T3 904 142 := (show Xi T21 904 142 = Xi T3 904 142 from w501.x _ _ rfl)
                have w504 : Xi T21 904 15 = Xi T3 904 15 := (show Xi T21 904 15 = Xi T3 904 15 from w501.x _ _ rfl)
                have w505 : Xi T21 904 19 = Xi T3 904 19 := (show Xi T21 904 19 = Xi T3 904 19 from w501.x _ _ rfl)
                have w506 : Xi T21 904 32 = Xi T3 904 32 := (show Xi T21 904 32 = Xi T3 904 32 from w501.x _ _ rfl)
                have w507 : Xi T21 904 70 = Xi T3 904 70 := (show Xi T21 904 70 = Xi T3 904 70 from w501.x _ _ rfl)
                have w508 : Xi T21 904 71 = Xi T3 904 71 := (show Xi T21 904 71 = Xi T3 904 71 from w501.x _ _ rfl)
                have w509 : Xi T21 904 72 = Xi T3 904 72 := (show Xi T21 904 72 = Xi T3 904 72 from w501.x _ _ rfl)
                have w510 : Xi T21 904 75 = Xi T3 904 75 := (show Xi T21 904 75 = Xi T3 904 75 from w501.x _ _ rfl)
                have w511 : Xi T21 904 76 = Xi T3 904 76 := (show Xi T21 904 76 = Xi T3 904 76 from w501.x _ _ rfl)
                have w512 : Xi T21 904 77 = Xi T3 904 77 := (show Xi T21 904 77 = Xi T3 904 77 from w501.x _ _ rfl)
                have w513 : Xi T21 904 78 = Xi T3 904 78 := (show Xi T21 904 78 = Xi T3 904 78 from w501.x _ _ rfl)
                exact Pl_weak (ih361 (by omega) T21 hHT21 hFT21 (v1) (v2) (v5) (v6) ((v7 + 1)) (by omega) (by omega) (by omega) (by omega) (by omega) (by first | exact i361a | exact i340a) (by first | exact i361b | exact i340b) (by omega) (by first | exact p361 | exact p340) (by omega) (by first | exact q361 | exact q340) (by omega) (by first | exact N399 | exact N340) (by first | exact ((by assumption : FR md_mo_need__p T3 T21).x 904 142 rfl).trans h361 | (have t := h340; rw [if_neg (fun q => by rw [if_pos q] at t; omega)] at t; exact t)) (by first | exact v361 | (have t := h340; exact fun q => by rw [if_pos q] at t; omega)) (by omega) (by omega) (by omega) (by omega) (by omega) (by omega)) (by omega) (And.intro rfl (And.intro rfl (And.intro rfl (And.intro rfl (And.intro rfl (And.intro rfl (True.intro)))))))
              · refine y_iconst rfl ?_
                refine y_goto rfl rfl ?_
                refine y_iconst rfl ?_
                refine y_aload_n rfl rfl ?_
                refine y_gfr rfl rfl rfl rfl rfl (hHT3.r 904 67 950 rfl) ?_
                refine y_iload_n rfl rfl ?_
                refine y_iload rfl rfl ?_
                refine y_iadd rfl ?_
                refine y_ialoadP (n := 2600) rfl rfl (by unfold rg; omega) (fun w514 w515 => ?_)
                have w516 : -2147483648 ≤ (Xi T3 950 (((v1 + v7)).toNat)) ∧ (Xi T3 950 (((v1 + v7)).toNat)) ≤ 2147483647 := Xi_rgI
                refine y_callV rfl rfl rfl (t_mo_need__p hHT3 1 4 (Xi T3 950 (((v1 + v7)).toNat)) ⟨by omega, by omega⟩ ⟨by omega, by omega⟩ ⟨by omega, by omega⟩ _) ?_
                rintro _ T22 ⟨hHT22, w518, rfl, nt399⟩
                have hFT22 : FR md_mo_askFifteen__4 S T22 := FR.tr hFT3 w518 rfl
                show Pl _ _ _ _ _ _ [] _ _
                have N399 : NT3 T22 = n4S S (NT3 S) (v7 + 1).toNat := by rw [show (v7 + 1).toNat = v7.toNat + 1 by omega]; have t := nt399; rw [(SMR_FR hFT3 rfl rfl).2.1 908 _ (by omega), (SMR_FR hFT3 rfl rfl).2.1 950 _ (by omega), N361, show v1 + v7 = Xi S 904 71 + ((v7.toNat : Nat) : Int) by omega] at t; show _ = if rnR S (Xi S 904 71 + ((v7.toNat : Nat) : Int)) 4 = -1 then _ else _; first | (rw [if_pos (by omega)]; rw [if_pos (show (0 : Int) = 0 from rfl)] at t; exact t) | (rw [if_neg (by omega)]; rw [if_neg (show ¬ (1 : Int) = 0 by decide)] at t; exact t)
                clear nt399
                refine y_iinc rfl rfl rfl rfl ?_
                refine y_goto rfl rfl ?_
                have w519 : Xi T22 904 108 = Xi T3 904 108 := (show Xi T22 904 108 = Xi T3 904 108 from w518.x _ _ rfl)
                have w520 : Xi T22 904 142 = Xi T3 904 142 := (show Xi T22 904 142 = Xi T3 904 142 from w518.x _ _ rfl)
                have w521 : Xi T22 904 15 = Xi T3 904 15 := (show Xi T22 904 15 = Xi T3 904 15 from w518.x _ _ rfl)
                have w522 : Xi T22 904 19 = Xi T3 904 19 := (show Xi T22 904 19 = Xi T3 904 19 from w518.x _ _ rfl)
                have w523 : Xi T22 904 32 = Xi T3 904 32 := (show Xi T22 904 32 = Xi T3 904 32 from w518.x _ _ rfl)
                have w524 : Xi T22 904 70 = Xi T3 904 70 := (show Xi T22 904 70 = Xi T3 904 70 from w518.x _ _ rfl)
                have w525 : Xi T22 904 71 = Xi T3 904 71 := (show Xi T22 904 71 = Xi T3 904 71 from w518.x _ _ rfl)
                have w526 : Xi T22 904 72 = Xi T3 904 72 := (show Xi T22 904 72 = Xi T3 904 72 from w518.x _ _ rfl)
                have w527 : Xi T22 904 75 = Xi T3 904 75 := (show Xi T22 904 75 = Xi T3 904 75 from w518.x _ _ rfl)
                have w528 : Xi T22 904 76 = Xi T3 904 76 := (show Xi T22 904 76 = Xi T3 904 76 from w518.x _ _ rfl)
                have w529 : Xi T22 904 77 = Xi T3 904 77 := (show Xi T22 904 77 = Xi T3 904 77 from w518.x _ _ rfl)
                have w530 : Xi T22 904 78 = Xi T3 904 78 := (show Xi T22 904 78 = Xi T3 904 78 from w518.x _ _ rfl)
                exact Pl_weak (ih361 (by omega) T22 hHT22 hFT22 (v1) (v2) (v5) (v6) ((v7 + 1)) (by omega) (by omega) (by omega) (by omega) (by omega) (by first | exact i361a | exact i340a) (by first | exact i361b | exact i340b) (by omega) (by first | exact p361 | exact p340) (by omega) (by first | exact q361 | exact q340) (by omega) (by first | exact N399 | exact N340) (by first | exact ((by assumption : FR md_mo_need__p T3 T22).x 904 142 rfl).trans h361 | (have t := h340; rw [if_neg (fun q => by rw [if_pos q] at t; omega)] at t; exact t)) (by first | exact v361 | (have t := h340; exact fun q => by rw [if_pos q] at t; omega)) (by omega) (by omega) (by omega) (by omega) (by omega) (by omega)) (by omega) (And.intro rfl (And.intro rfl (And.intro rfl (And.intro rfl (And.intro rfl (And.intro rfl (True.intro)))))))
        refine y_aload_n rfl rfl ?_
        refine y_gfi rfl rfl rfl rfl rfl ?_
        refine y_iconst rfl ?_
        refine y_icmp_ne rfl rfl (by unfold rg; omega) (by unfold rg; omega) (fun w531 => ?_) (fun w532 => ?_)
        · refine y_iconst rfl ?_
          refine y_istore rfl rfl rfl ?_
          exact Pl_weak (C361 fu (by omega) T2 hHT2 hFT2 (v1) (v2) (v5) (v6) (0) (by omega) (by omega) (by omega) (by omega) (by omega) (by first | exact i361a | exact i340a) (by first | exact i361b | exact i340b) (by omega) (by first | exact p361 | exact p340) (by omega) (by first | exact q361 | exact q340) (by omega) (by first | exact N399 | exact N340) (by first | exact ((by assumption : FR md_mo_need__p T2 T2).x 904 142 rfl).trans h361 | (have t := h340; rw [if_neg (fun q => by rw [if_pos q] at t; omega)] at t; exact t)) (by first | exact v361 | (have t := h340; exact fun q => by rw [if_pos q] at t; omega)) (by omega) (by omega) (by omega) (by omega) (by omega) (by omega)) (by omega) (And.intro rfl (And.intro rfl (And.intro rfl (And.intro rfl (And.intro rfl (And.intro rfl (True.intro)))))))
        · refine y_aload_n rfl rfl ?_
          refine y_callV rfl rfl rfl (t_mo_objectsOrNew__p hHT2 (by first | assumption | exact (LSP_FR hFT2 rfl rfl (by assumption : LSP S))) (by first | assumption | omega) (by first | assumption | exact (RBD_FR hFT2 rfl (by assumption : RBD S))) (⟨by omega, by omega⟩) (by first | assumption | omega) (by first | assumption | omega) (fun k i a b => by rw [show Xi T2 904 71 = Xi S 904 71 by omega] at *; rw [show Xi T2 904 72 = Xi S 904 72 by omega] at b; rw [pR_sm (SMR_FR hFT2 rfl rfl), pR_sm (SMR_FR hFT2 rfl rfl)]; exact hpl k i a b) _) ?_
          rintro _ T23 ⟨hHT23, w534, rfl, o349⟩
          have hFT23 : FR md_mo_askFifteen__4 S T23 := FR.tr hFT2 w534 rfl
          show Pl _ _ _ _ _ _ [] _ _
          have b71 : Xi T2 904 71 = Xi S 904 71 := by omega
          have b72 : Xi T2 904 72 = Xi S 904 72 := by omega
          have F349 := (by assumption : FR md_mo_objectsOrNew__p T2 T23)
          have O349 := Hid.i o349
          clear o349
          refine y_aload_n rfl rfl ?_
          refine y_iload_n rfl rfl ?_
          have w535 : Xi T23 904 109 = Xi T2 904 109 := (show Xi T23 904 109 = Xi T2 904 109 from w534.x _ _ rfl)
          have w536 : Xi T23 904 15 = Xi T2 904 15 := (show Xi T23 904 15 = Xi T2 904 15 from w534.x _ _ rfl)
          have w537 : Xi T23 904 19 = Xi T2 904 19 := (show Xi T23 904 19 = Xi T2 904 19 from w534.x _ _ rfl)
          have w538 : Xi T23 904 32 = Xi T2 904 32 := (show Xi T23 904 32 = Xi T2 904 32 from w534.x _ _ rfl)
          have w539 : Xi T23 904 70 = Xi T2 904 70 := (show Xi T23 904 70 = Xi T2 904 70 from w534.x _ _ rfl)
          have w540 : Xi T23 904 71 = Xi T2 904 71 := (show Xi T23 904 71 = Xi T2 904 71 from w534.x _ _ rfl)
          have w541 : Xi T23 904 72 = Xi T2 904 72 := (show Xi T23 904 72 = Xi T2 904 72 from w534.x _ _ rfl)
          have w542 : Xi T23 904 75 = Xi T2 904 75 := (show Xi T23 904 75 = Xi T2 904 75 from w534.x _ _ rfl)
          have w543 : Xi T23 904 76 = Xi T2 904 76 := (show Xi T23 904 76 = Xi T2 904 76 from w534.x _ _ rfl)
          have w544 : Xi T23 904 77 = Xi T2 904 77 := (show Xi T23 904 77 = Xi T2 904 77 from w534.x _ _ rfl)
          have w545 : Xi T23 904 78 = Xi T2 904 78 := (show Xi T23 904 78 = Xi T2 904 78 from w534.x _ _ rfl)
          refine y_callV rfl rfl rfl (t_mo_oneReading__p hHT23 v2 ⟨by omega, by omega⟩ _) ?_
          rintro _ T24 ⟨hHT24, w547, rfl, nt354⟩
          have hFT24 : FR md_mo_askFifteen__4 S T24 := FR.tr hFT23 w547 rfl
          show Pl _ _ _ _ _ _ [] _ _
          have K354 : True := trivial
          have F354 := (by assumption : FR md_mo_oneReading__p T23 T24)
          have v349 : v6 = 1 ∧ v5 = 0 := by have t := h340; by_cases q : v6 = 1 ∧ v5 = 0; exact q; (rw [if_neg q] at t; exfalso; omega)
          have r349 : Xi T23 904 109 = rd5 S := (F349.x 904 109 rfl).trans R340
          have d349 : 0 < rd5 S := q340.o.1 v349.1
          have n354 : NT3 T24 = if 2 ≤ rd5 S then ntF (NT3 T23) 7 (Xi S 908 (fW S).toNat) else NT3 T23 := by have t := nt354; rw [r349, if_neg (by omega), (SMR_FR hFT23 rfl rfl).2.1 908 _ (by omega), i340b] at t; exact t
          have R354 : RAX S T24 := ⟨fun _ _ => ⟨by rw [F354.x 904 142 rfl, F349.x 904 142 rfl, h340, if_pos v349], by obtain ⟨A, a1, a2⟩ := D340.o; obtain ⟨nn, o⟩ := O349.o; rw [if_pos v349] at a2; refine ⟨A, _, nn, a1, ?_, n354, ?_, ?_, fun j => ?_⟩; (rw [a2] at o; rw [Xi_ne (by omega), Xi_ne (by omega)] at o; have u1 : Xi A 904 71 = Xi S 904 71 := (by have t := b71; rw [a2, Xi_ne (by omega)] at t; exact t); have u2 : Xi A 904 72 = Xi S 904 72 := (by have t := b72; rw [a2, Xi_ne (by omega)] at t; exact t); rw [u1, u2] at o; exact o); (rw [F354.x 904 110 rfl, F349.x 904 110 rfl, a2, Xi_ne (by omega)]); (rw [F354.x 904 112 rfl, F349.x 904 112 rfl, a2, Xi_ne (by omega)]); (rw [F354.x 967 j rfl, F349.x 967 j rfl, a2, Xi_ne (by omega)])⟩, fun _ q => absurd q (p340.o.2 v349.2), fun q => absurd d349 q, fun q => absurd d349 q⟩
          refine y_return rfl rfl ?_
          have w548 : Xi T24 904 108 = Xi T23 904 108 := (show Xi T24 904 108 = Xi T23 904 108 from w547.x _ _ rfl)
          have w549 : Xi T24 904 15 = Xi T2 904 15 := (show Xi T24 904 15 = Xi T23 904 15 from w547.x _ _ rfl).trans ((show Xi T23 904 15 = Xi T2 904 15 from w534.x _ _ rfl))
          have w550 : Xi T24 904 19 = Xi T2 904 19 := (show Xi T24 904 19 = Xi T23 904 19 from w547.x _ _ rfl).trans ((show Xi T23 904 19 = Xi T2 904 19 from w534.x _ _ rfl))
          have w551 : Xi T24 904 32 = Xi T2 904 32 := (show Xi T24 904 32 = Xi T23 904 32 from w547.x _ _ rfl).trans ((show Xi T23 904 32 = Xi T2 904 32 from w534.x _ _ rfl))
          have w552 : Xi T24 904 70 = Xi T2 904 70 := (show Xi T24 904 70 = Xi T23 904 70 from w547.x _ _ rfl).trans ((show Xi T23 904 70 = Xi T2 904 70 from w534.x _ _ rfl))
          have w553 : Xi T24 904 71 = Xi T2 904 71 := (show Xi T24 904 71 = Xi T23 904 71 from w547.x _ _ rfl).trans ((show Xi T23 904 71 = Xi T2 904 71 from w534.x _ _ rfl))
          have w554 : Xi T24 904 72 = Xi T2 904 72 := (show Xi T24 904 72 = Xi T23 904 72 from w547.x _ _ rfl).trans ((show Xi T23 904 72 = Xi T2 904 72 from w534.x _ _ rfl))
          have w555 : Xi T24 904 75 = Xi T2 904 75 := (show Xi T24 904 75 = Xi T23 904 75 from w547.x _ _ rfl).trans ((show Xi T23 904 75 = Xi T2 904 75 from w534.x _ _ rfl))
          have w556 : Xi T24 904 76 = Xi T2 904 76 := (show Xi T24 904 76 = Xi T23 904 76 from w547.x _ _ rfl).trans ((show Xi T23 904 76 = Xi T2 904 76 from w534.x _ _ rfl))
          have w557 : Xi T24 904 77 = Xi T2 904 77 := (show Xi T24 904 77 = Xi T23 904 77 from w547.x _ _ rfl).trans ((show Xi T23 904 77 = Xi T2 904 77 from w534.x _ _ rfl))
          have w558 : Xi T24 904 78 = Xi T2 904 78 := (show Xi T24 904 78 = Xi T23 904 78 from w547.x _ _ rfl).trans ((show Xi T23 904 78 = Xi T2 904 78 from w534.x _ _ rfl))
          exact ⟨hHT24, hFT24, rfl, (by first | (have t := K354; exact R354) | (have t := K417; exact R417) | (have a := p432.o; have b := q432; exact ⟨fun q => absurd q b, fun q => absurd q b, fun _ n => ⟨by omega, N432.o.2 (by by_cases y : v5 = 1; exact absurd (a.1 y) n; omega)⟩, fun _ y => ⟨by omega, by by_cases w : v5 = 1; (have t := N432.o.1 w; rw [show v7 = Xi S 904 72 by omega] at t; exact t); exact absurd y (a.2 (by omega))⟩⟩))⟩
      refine y_aload_n rfl rfl ?_
      refine y_gfi rfl rfl rfl rfl rfl ?_
      refine y_if_le rfl rfl (by unfold rg; omega) (fun w559 => ?_) (fun w560 => ?_)
      · refine y_iconst rfl ?_
        refine y_istore rfl rfl rfl ?_
        have q319 : Hid (((0 : Int) = 1 → 0 < rd5 S) ∧ ((0 : Int) = 0 → ¬ 0 < rd5 S)) := by first | exact ⟨fun _ => by omega, fun q => absurd q (by omega)⟩ | exact ⟨fun q => absurd q (by omega), fun _ => by omega⟩
        refine y_aload_n rfl rfl ?_
        refine y_iload rfl rfl ?_
        refine y_if_eq rfl rfl (by unfold rg; omega) (fun w561 => ?_) (fun w562 => absurd w562 (by omega))
        · refine y_iconst rfl ?_
          refine y_pfi rfl rfl rfl rfl ?_
          obtain ⟨U25, eU25⟩ : ∃ T : sS, T = uI T1 904 142 (Int32.ofInt 4) := ⟨_, rfl⟩
          rw [← eU25]
          have hHU25 : RI U25 := by rw [eU25]; exact RI_w hHT1
          have hFU25 : FR md_mo_askFifteen__4 S U25 := by rw [eU25]; exact FR.wI hFT1 (mdf_i (r := (904, 905, 142, 143)) (List.mem_of_getElem? (i := 9) rfl) (inR_i (by omega) (by omega) (by omega) (by omega)))
          have w563 : Xi U25 904 142 = 4 := by rw [eU25]; exact Xi_same (by unfold rg; omega)
          have ee337 := eU25
          have t337 : NT3 U25 = NT3 S := by rw [← N307]; unfold NT3; rw [eU25]; repeat rw [Xi_ne (by omega)]
          have h337 : Xi U25 904 142 = (if (0 : Int) = 1 ∧ v5 = 0 then 3 else 4) := by first | (rw [if_pos ⟨by omega, by omega⟩, eU25]; exact Xi_same (by unfold rg; omega)) | (rw [if_neg (fun q => by have q1 := q.1; have q2 := q.2; omega), eU25]; exact Xi_same (by unfold rg; omega))
          have D337 : Hid (∃ A : sS, (DSX S A ∧ FR lX4 S A ∧ NT3 A = NT3 S) ∧ U25 = uI A 904 142 (Int32.ofInt (if (0 : Int) = 1 ∧ v5 = 0 then 3 else 4))) := ⟨_, ⟨D307.o, by assumption, N307⟩, by first | (rw [if_pos ⟨by omega, by omega⟩]; exact eU25) | (rw [if_neg (fun q => by have q1 := q.1; have q2 := q.2; omega)]; exact eU25)⟩
          have w564 : Xi U25 904 106 = Xi T1 904 106 := (show Xi U25 904 106 = Xi T1 904 106 from by rw [eU25]; exact Xi_ne (by omega))
          have w565 : Xi U25 904 108 = Xi T1 904 108 := (show Xi U25 904 108 = Xi T1 904 108 from by rw [eU25]; exact Xi_ne (by omega))
          have w566 : Xi U25 904 109 = Xi T1 904 109 := (show Xi U25 904 109 = Xi T1 904 109 from by rw [eU25]; exact Xi_ne (by omega))
          have w567 : Xi U25 904 15 = Xi T1 904 15 := (show Xi U25 904 15 = Xi T1 904 15 from by rw [eU25]; exact Xi_ne (by omega))
          have w568 : Xi U25 904 19 = Xi T1 904 19 := (show Xi U25 904 19 = Xi T1 904 19 from by rw [eU25]; exact Xi_ne (by omega))
          have w569 : Xi U25 904 32 = Xi T1 904 32 := (show Xi U25 904 32 = Xi T1 904 32 from by rw [eU25]; exact Xi_ne (by omega))
          have w570 : Xi U25 904 70 = Xi T1 904 70 := (show Xi U25 904 70 = Xi T1 904 70 from by rw [eU25]; exact Xi_ne (by omega))
          have w571 : Xi U25 904 71 = Xi T1 904 71 := (show Xi U25 904 71 = Xi T1 904 71 from by rw [eU25]; exact Xi_ne (by omega))
          have w572 : Xi U25 904 72 = Xi T1 904 72 := (show Xi U25 904 72 = Xi T1 904 72 from by rw [eU25]; exact Xi_ne (by omega))
          have w573 : Xi U25 904 75 = Xi T1 904 75 := (show Xi U25 904 75 = Xi T1 904 75 from by rw [eU25]; exact Xi_ne (by omega))
          have w574 : Xi U25 904 76 = Xi T1 904 76 := (show Xi U25 904 76 = Xi T1 904 76 from by rw [eU25]; exact Xi_ne (by omega))
          have w575 : Xi U25 904 77 = Xi T1 904 77 := (show Xi U25 904 77 = Xi T1 904 77 from by rw [eU25]; exact Xi_ne (by omega))
          have w576 : Xi U25 904 78 = Xi T1 904 78 := (show Xi U25 904 78 = Xi T1 904 78 from by rw [eU25]; exact Xi_ne (by omega))
          exact Pl_weak (C340 U25 hHU25 hFU25 (v1) (v2) (v5) (0) (by omega) (by omega) (by omega) (by omega) (i307a) (i307b) (by omega) (p307) (by omega) (q319) (D337) (t337) (by rw [ee337, Xi_ne (by omega)]; exact R307) (h337) (by omega) (by omega) (by omega) (by omega) (by omega) (by omega) (by omega)) (by omega) (And.intro rfl (And.intro rfl (And.intro rfl (And.intro rfl (And.intro rfl (True.intro))))))
      · refine y_iconst rfl ?_
        refine y_goto rfl rfl ?_
        refine y_istore rfl rfl rfl ?_
        have q319 : Hid (((1 : Int) = 1 → 0 < rd5 S) ∧ ((1 : Int) = 0 → ¬ 0 < rd5 S)) := by first | exact ⟨fun _ => by omega, fun q => absurd q (by omega)⟩ | exact ⟨fun q => absurd q (by omega), fun _ => by omega⟩
        refine y_aload_n rfl rfl ?_
        refine y_iload rfl rfl ?_
        refine y_if_eq rfl rfl (by unfold rg; omega) (fun w577 => absurd w577 (by omega)) (fun w578 => ?_)
        · refine y_iload rfl rfl ?_
          refine y_if_ne rfl rfl (by unfold rg; omega) (fun w579 => ?_) (fun w580 => ?_)
          · refine y_iconst rfl ?_
            refine y_pfi rfl rfl rfl rfl ?_
            obtain ⟨U26, eU26⟩ : ∃ T : sS, T = uI T1 904 142 (Int32.ofInt 4) := ⟨_, rfl⟩
            rw [← eU26]
            have hHU26 : RI U26 := by rw [eU26]; exact RI_w hHT1
            have hFU26 : FR md_mo_askFifteen__4 S U26 := by rw [eU26]; exact FR.wI hFT1 (mdf_i (r := (904, 905, 142, 143)) (List.mem_of_getElem? (i := 9) rfl) (inR_i (by omega) (by omega) (by omega) (by omega)))
            have w581 : Xi U26 904 142 = 4 := by rw [eU26]; exact Xi_same (by unfold rg; omega)
            have ee337 := eU26
            have t337 : NT3 U26 = NT3 S := by rw [← N307]; unfold NT3; rw [eU26]; repeat rw [Xi_ne (by omega)]
            have h337 : Xi U26 904 142 = (if (1 : Int) = 1 ∧ v5 = 0 then 3 else 4) := by first | (rw [if_pos ⟨by omega, by omega⟩, eU26]; exact Xi_same (by unfold rg; omega)) | (rw [if_neg (fun q => by have q1 := q.1; have q2 := q.2; omega), eU26]; exact Xi_same (by unfold rg; omega))
            have D337 : Hid (∃ A : sS, (DSX S A ∧ FR lX4 S A ∧ NT3 A = NT3 S) ∧ U26 = uI A 904 142 (Int32.ofInt (if (1 : Int) = 1 ∧ v5 = 0 then 3 else 4))) := ⟨_, ⟨D307.o, by assumption, N307⟩, by first | (rw [if_pos ⟨by omega, by omega⟩]; exact eU26) | (rw [if_neg (fun q => by have q1 := q.1; have q2 := q.2; omega)]; exact eU26)⟩
            have w582 : Xi U26 904 106 = Xi T1 904 106 := (show Xi U26 904 106 = Xi T1 904 106 from by rw [eU26]; exact Xi_ne (by omega))
            have w583 : Xi U26 904 108 = Xi T1 904 108 := (show Xi U26 904 108 = Xi T1 904 108 from by rw [eU26]; exact Xi_ne (by omega))
            have w584 : Xi U26 904 109 = Xi T1 904 109 := (show Xi U26 904 109 = Xi T1 904 109 from by rw [eU26]; exact Xi_ne (by omega))
            have w585 : Xi U26 904 15 = Xi T1 904 15 := (show Xi U26 904 15 = Xi T1 904 15 from by rw [eU26]; exact Xi_ne (by omega))
            have w586 : Xi U26 904 19 = Xi T1 904 19 := (show Xi U26 904 19 = Xi T1 904 19 from by rw [eU26]; exact Xi_ne (by omega))
            have w587 : Xi U26 904 32 = Xi T1 904 32 := (show Xi U26 904 32 = Xi T1 904 32 from by rw [eU26]; exact Xi_ne (by omega))
            have w588 : Xi U26 904 70 = Xi T1 904 70 := (show Xi U26 904 70 = Xi T1 904 70 from by rw [eU26]; exact Xi_ne (by omega))
            have w589 : Xi U26 904 71 = Xi T1 904 71 := (show Xi U26 904 71 = Xi T1 904 71 from by rw [eU26]; exact Xi_ne (by omega))
            have w590 : Xi U26 904 72 = Xi T1 904 72 := (show Xi U26 904 72 = Xi T1 904 72 from by rw [eU26]; exact Xi_ne (by omega))
            have w591 : Xi U26 904 75 = Xi T1 904 75 := (show Xi U26 904 75 = Xi T1 904 75 from by rw [eU26]; exact Xi_ne (by omega))
            have w592 : Xi U26 904 76 = Xi T1 904 76 := (show Xi U26 904 76 = Xi T1 904 76 from by rw [eU26]; exact Xi_ne (by omega))
            have w593 : Xi U26 904 77 = Xi T1 904 77 := (show Xi U26 904 77 = Xi T1 904 77 from by rw [eU26]; exact Xi_ne (by omega))
            have w594 : Xi U26 904 78 = Xi T1 904 78 := (show Xi U26 904 78 = Xi T1 904 78 from by rw [eU26]; exact Xi_ne (by omega))
            exact Pl_weak (C340 U26 hHU26 hFU26 (v1) (v2) (v5) (1) (by omega) (by omega) (by omega) (by omega) (i307a) (i307b) (by omega) (p307) (by omega) (q319) (D337) (t337) (by rw [ee337, Xi_ne (by omega)]; exact R307) (h337) (by omega) (by omega) (by omega) (by omega) (by omega) (by omega) (by omega)) (by omega) (And.intro rfl (And.intro rfl (And.intro rfl (And.intro rfl (And.intro rfl (True.intro))))))
          · refine y_iconst rfl ?_
            refine y_goto rfl rfl ?_
            refine y_pfi rfl rfl rfl rfl ?_
            obtain ⟨U27, eU27⟩ : ∃ T : sS, T = uI T1 904 142 (Int32.ofInt 3) := ⟨_, rfl⟩
            rw [← eU27]
            have hHU27 : RI U27 := by rw [eU27]; exact RI_w hHT1
            have hFU27 : FR md_mo_askFifteen__4 S U27 := by rw [eU27]; exact FR.wI hFT1 (mdf_i (r := (904, 905, 142, 143)) (List.mem_of_getElem? (i := 9) rfl) (inR_i (by omega) (by omega) (by omega) (by omega)))
            have w595 : Xi U27 904 142 = 3 := by rw [eU27]; exact Xi_same (by unfold rg; omega)
            have ee337 := eU27
            have t337 : NT3 U27 = NT3 S := by rw [← N307]; unfold NT3; rw [eU27]; repeat rw [Xi_ne (by omega)]
            have h337 : Xi U27 904 142 = (if (1 : Int) = 1 ∧ v5 = 0 then 3 else 4) := by first | (rw [if_pos ⟨by omega, by omega⟩, eU27]; exact Xi_same (by unfold rg; omega)) | (rw [if_neg (fun q => by have q1 := q.1; have q2 := q.2; omega), eU27]; exact Xi_same (by unfold rg; omega))
            have D337 : Hid (∃ A : sS, (DSX S A ∧ FR lX4 S A ∧ NT3 A = NT3 S) ∧ U27 = uI A 904 142 (Int32.ofInt (if (1 : Int) = 1 ∧ v5 = 0 then 3 else 4))) := ⟨_, ⟨D307.o, by assumption, N307⟩, by first | (rw [if_pos ⟨by omega, by omega⟩]; exact eU27) | (rw [if_neg (fun q => by have q1 := q.1; have q2 := q.2; omega)]; exact eU27)⟩
            have w596 : Xi U27 904 106 = Xi T1 904 106 := (show Xi U27 904 106 = Xi T1 904 106 from by rw [eU27]; exact Xi_ne (by omega))
            have w597 : Xi U27 904 108 = Xi T1 904 108 := (show Xi U27 904 108 = Xi T1 904 108 from by rw [eU27]; exact Xi_ne (by omega))
            have w598 : Xi U27 904 109 = Xi T1 904 109 := (show Xi U27 904 109 = Xi T1 904 109 from by rw [eU27]; exact Xi_ne (by omega))
            have w599 : Xi U27 904 15 = Xi T1 904 15 := (show Xi U27 904 15 = Xi T1 904 15 from by rw [eU27]; exact Xi_ne (by omega))
            have w600 : Xi U27 904 19 = Xi T1 904 19 := (show Xi U27 904 19 = Xi T1 904 19 from by rw [eU27]; exact Xi_ne (by omega))
            have w601 : Xi U27 904 32 = Xi T1 904 32 := (show Xi U27 904 32 = Xi T1 904 32 from by rw [eU27]; exact Xi_ne (by omega))
            have w602 : Xi U27 904 70 = Xi T1 904 70 := (show Xi U27 904 70 = Xi T1 904 70 from by rw [eU27]; exact Xi_ne (by omega))
            have w603 : Xi U27 904 71 = Xi T1 904 71 := (show Xi U27 904 71 = Xi T1 904 71 from by rw [eU27]; exact Xi_ne (by omega))
            have w604 : Xi U27 904 72 = Xi T1 904 72 := (show Xi U27 904 72 = Xi T1 904 72 from by rw [eU27]; exact Xi_ne (by omega))
            have w605 : Xi U27 904 75 = Xi T1 904 75 := (show Xi U27 904 75 = Xi T1 904 75 from by rw [eU27]; exact Xi_ne (by omega))
            have w606 : Xi U27 904 76 = Xi T1 904 76 := (show Xi U27 904 76 = Xi T1 904 76 from by rw [eU27]; exact Xi_ne (by omega))
            have w607 : Xi U27 904 77 = Xi T1 904 77 := (show Xi U27 904 77 = Xi T1 904 77 from by rw [eU27]; exact Xi_ne (by omega))
            have w608 : Xi U27 904 78 = Xi T1 904 78 := (show Xi U27 904 78 = Xi T1 904 78 from by rw [eU27]; exact Xi_ne (by omega))
            exact Pl_weak (C340 U27 hHU27 hFU27 (v1) (v2) (v5) (1) (by omega) (by omega) (by omega) (by omega) (i307a) (i307b) (by omega) (p307) (by omega) (q319) (D337) (t337) (by rw [ee337, Xi_ne (by omega)]; exact R307) (h337) (by omega) (by omega) (by omega) (by omega) (by omega) (by omega) (by omega)) (by omega) (And.intro rfl (And.intro rfl (And.intro rfl (And.intro rfl (And.intro rfl (True.intro))))))
    refine y_aload_n rfl rfl ?_
    refine y_iconst rfl ?_
    refine y_pfi rfl rfl rfl rfl ?_
    obtain ⟨U28, eU28⟩ : ∃ T : sS, T = uI S 904 109 (Int32.ofInt 0) := ⟨_, rfl⟩
    rw [← eU28]
    have hHU28 : RI U28 := by rw [eU28]; exact RI_w hH
    have hFU28 : FR md_mo_askFifteen__4 S U28 := by rw [eU28]; exact FR.wI hF (mdf_i (r := (904, 905, 109, 110)) (List.mem_of_getElem? (i := 5) rfl) (inR_i (by omega) (by omega) (by omega) (by omega)))
    have w609 : Xi U28 904 109 = 0 := by rw [eU28]; exact Xi_same (by unfold rg; omega)
    have e273 : U28 = z9S S := by rw [eU28, e271]; rfl
    have k273 : Hid (AMR S U28) := by rw [e273]; exact z9_am
    have t273 : NT3 U28 = NT3 S := by rw [e273]; unfold NT3 z9S; repeat rw [Xi_ne (by omega)]
    refine y_aload_n rfl rfl ?_
    refine y_gfi rfl rfl rfl rfl rfl ?_
    have w610 : (Xi U28 904 77) = (Xi S 904 77) := (show Xi U28 904 77 = Xi S 904 77 from by rw [eU28]; exact Xi_ne (by omega))
    rw [w610]
    refine y_if_eq rfl rfl (by unfold rg; omega) (fun w611 => ?_) (fun w612 => ?_)
    · have w613 : Xi U28 904 106 = Xi S 904 106 := (show Xi U28 904 106 = Xi S 904 106 from by rw [eU28]; exact Xi_ne (by omega))
      have w614 : Xi U28 904 108 = Xi S 904 108 := (show Xi U28 904 108 = Xi S 904 108 from by rw [eU28]; exact Xi_ne (by omega))
      have w615 : Xi U28 904 15 = Xi S 904 15 := (show Xi U28 904 15 = Xi S 904 15 from by rw [eU28]; exact Xi_ne (by omega))
      have w616 : Xi U28 904 19 = Xi S 904 19 := (show Xi U28 904 19 = Xi S 904 19 from by rw [eU28]; exact Xi_ne (by omega))
      have w617 : Xi U28 904 32 = Xi S 904 32 := (show Xi U28 904 32 = Xi S 904 32 from by rw [eU28]; exact Xi_ne (by omega))
      have w618 : Xi U28 904 70 = Xi S 904 70 := (show Xi U28 904 70 = Xi S 904 70 from by rw [eU28]; exact Xi_ne (by omega))
      have w619 : Xi U28 904 71 = Xi S 904 71 := (show Xi U28 904 71 = Xi S 904 71 from by rw [eU28]; exact Xi_ne (by omega))
      have w620 : Xi U28 904 72 = Xi S 904 72 := (show Xi U28 904 72 = Xi S 904 72 from by rw [eU28]; exact Xi_ne (by omega))
      have w621 : Xi U28 904 75 = Xi S 904 75 := (show Xi U28 904 75 = Xi S 904 75 from by rw [eU28]; exact Xi_ne (by omega))
      have w622 : Xi U28 904 76 = Xi S 904 76 := (show Xi U28 904 76 = Xi S 904 76 from by rw [eU28]; exact Xi_ne (by omega))
      have w623 : Xi U28 904 77 = Xi S 904 77 := (show Xi U28 904 77 = Xi S 904 77 from by rw [eU28]; exact Xi_ne (by omega))
      have w624 : Xi U28 904 78 = Xi S 904 78 := (show Xi U28 904 78 = Xi S 904 78 from by rw [eU28]; exact Xi_ne (by omega))
      exact Pl_weak (C307 U28 hHU28 hFU28 (v1) (v2) (v5) (by omega) (by omega) (by omega) (i271a) (i271b) (by omega) (p271) (by first | (have t := K304; exact D304) | exact ⟨fun q => absurd q (fun y => by have y1 := y.1; have y2 := y.2; omega), fun _ => e273⟩) (by first | (have t := K304; exact T304) | exact t273) (by first | (have t := K304; exact dsx_r D304.o) | exact dsx_r (A := U28) ⟨fun q => absurd q (fun y => by have y1 := y.1; have y2 := y.2; omega), fun _ => e273⟩) (by omega) (by omega) (by omega) (by omega) (by omega) (by omega) (by omega)) (by omega) (And.intro rfl (And.intro rfl (And.intro rfl (And.intro rfl (True.intro)))))
    · refine y_aload_n rfl rfl ?_
      refine y_gfi rfl rfl rfl rfl rfl ?_
      have w625 : (Xi U28 904 75) = (Xi S 904 75) := (show Xi U28 904 75 = Xi S 904 75 from by rw [eU28]; exact Xi_ne (by omega))
      rw [w625]
      refine y_if_ne rfl rfl (by unfold rg; omega) (fun w626 => ?_) (fun w627 => ?_)
      · have w628 : Xi U28 904 106 = Xi S 904 106 := (show Xi U28 904 106 = Xi S 904 106 from by rw [eU28]; exact Xi_ne (by omega))
        have w629 : Xi U28 904 108 = Xi S 904 108 := (show Xi U28 904 108 = Xi S 904 108 from by rw [eU28]; exact Xi_ne (by omega))
        have w630 : Xi U28 904 15 = Xi S 904 15 := (show Xi U28 904 15 = Xi S 904 15 from by rw [eU28]; exact Xi_ne (by omega))
        have w631 : Xi U28 904 19 = Xi S 904 19 := (show Xi U28 904 19 = Xi S 904 19 from by rw [eU28]; exact Xi_ne (by omega))
        have w632 : Xi U28 904 32 = Xi S 904 32 := (show Xi U28 904 32 = Xi S 904 32 from by rw [eU28]; exact Xi_ne (by omega))
        have w633 : Xi U28 904 70 = Xi S 904 70 := (show Xi U28 904 70 = Xi S 904 70 from by rw [eU28]; exact Xi_ne (by omega))
        have w634 : Xi U28 904 71 = Xi S 904 71 := (show Xi U28 904 71 = Xi S 904 71 from by rw [eU28]; exact Xi_ne (by omega))
        have w635 : Xi U28 904 72 = Xi S 904 72 := (show Xi U28 904 72 = Xi S 904 72 from by rw [eU28]; exact Xi_ne (by omega))
        have w636 : Xi U28 904 75 = Xi S 904 75 := (show Xi U28 904 75 = Xi S 904 75 from by rw [eU28]; exact Xi_ne (by omega))
        have w637 : Xi U28 904 76 = Xi S 904 76 := (show Xi U28 904 76 = Xi S 904 76 from by rw [eU28]; exact Xi_ne (by omega))
        have w638 : Xi U28 904 77 = Xi S 904 77 := (show Xi U28 904 77 = Xi S 904 77 from by rw [eU28]; exact Xi_ne (by omega))
        have w639 : Xi U28 904 78 = Xi S 904 78 := (show Xi U28 904 78 = Xi S 904 78 from by rw [eU28]; exact Xi_ne (by omega))
        exact Pl_weak (C307 U28 hHU28 hFU28 (v1) (v2) (v5) (by omega) (by omega) (by omega) (i271a) (i271b) (by omega) (p271) (by first | (have t := K304; exact D304) | exact ⟨fun q => absurd q (fun y => by have y1 := y.1; have y2 := y.2; omega), fun _ => e273⟩) (by first | (have t := K304; exact T304) | exact t273) (by first | (have t := K304; exact dsx_r D304.o) | exact dsx_r (A := U28) ⟨fun q => absurd q (fun y => by have y1 := y.1; have y2 := y.2; omega), fun _ => e273⟩) (by omega) (by omega) (by omega) (by omega) (by omega) (by omega) (by omega)) (by omega) (And.intro rfl (And.intro rfl (And.intro rfl (And.intro rfl (True.intro)))))
      · refine y_aload_n rfl rfl ?_
        refine y_iload_n rfl rfl ?_
        refine y_aload_n rfl rfl ?_
        refine y_gfr rfl rfl rfl rfl rfl (hHU28.r 904 68 951 rfl) ?_
        refine y_aload_n rfl rfl ?_
        refine y_gfi rfl rfl rfl rfl rfl ?_
        have w640 : (Xi U28 904 78) = (Xi S 904 78) := (show Xi U28 904 78 = Xi S 904 78 from by rw [eU28]; exact Xi_ne (by omega))
        rw [w640]
        refine y_ialoadP (n := 2600) rfl rfl (by unfold rg; omega) (fun w641 w642 => ?_)
        have w643 : -2147483648 ≤ (Xi U28 951 (((Xi S 904 78)).toNat)) ∧ (Xi U28 951 (((Xi S 904 78)).toNat)) ≤ 2147483647 := Xi_rgI
        have e300 : (Xi U28 951 (((Xi S 904 78)).toNat)) = nW S := by rw [nwe, (SMR_FR hFU28 rfl rfl).2.1 951 _ (by omega)]
        refine y_iconst rfl ?_
        refine y_iconst rfl ?_
        refine y_iconst rfl ?_
        have w644 : Xi U28 904 106 = Xi S 904 106 := (show Xi U28 904 106 = Xi S 904 106 from by rw [eU28]; exact Xi_ne (by omega))
        have w645 : Xi U28 904 108 = Xi S 904 108 := (show Xi U28 904 108 = Xi S 904 108 from by rw [eU28]; exact Xi_ne (by omega))
        have w646 : Xi U28 904 15 = Xi S 904 15 := (show Xi U28 904 15 = Xi S 904 15 from by rw [eU28]; exact Xi_ne (by omega))
        have w647 : Xi U28 904 19 = Xi S 904 19 := (show Xi U28 904 19 = Xi S 904 19 from by rw [eU28]; exact Xi_ne (by omega))
        have w648 : Xi U28 904 32 = Xi S 904 32 := (show Xi U28 904 32 = Xi S 904 32 from by rw [eU28]; exact Xi_ne (by omega))
        have w649 : Xi U28 904 70 = Xi S 904 70 := (show Xi U28 904 70 = Xi S 904 70 from by rw [eU28]; exact Xi_ne (by omega))
        have w650 : Xi U28 904 71 = Xi S 904 71 := (show Xi U28 904 71 = Xi S 904 71 from by rw [eU28]; exact Xi_ne (by omega))
        have w651 : Xi U28 904 72 = Xi S 904 72 := (show Xi U28 904 72 = Xi S 904 72 from by rw [eU28]; exact Xi_ne (by omega))
        have w652 : Xi U28 904 75 = Xi S 904 75 := (show Xi U28 904 75 = Xi S 904 75 from by rw [eU28]; exact Xi_ne (by omega))
        have w653 : Xi U28 904 76 = Xi S 904 76 := (show Xi U28 904 76 = Xi S 904 76 from by rw [eU28]; exact Xi_ne (by omega))
        have w654 : Xi U28 904 77 = Xi S 904 77 := (show Xi U28 904 77 = Xi S 904 77 from by rw [eU28]; exact Xi_ne (by omega))
        have w655 : Xi U28 904 78 = Xi S 904 78 := (show Xi U28 904 78 = Xi S 904 78 from by rw [eU28]; exact Xi_ne (by omega))
        refine y_callV rfl rfl rfl (t_mo_describe__p hHU28 v2 (Xi U28 951 (((Xi S 904 78)).toNat)) 1 0 (-1) ⟨by omega, by omega⟩ ⟨by omega, by omega⟩ ⟨by omega, by omega⟩ ⟨by omega, by omega⟩ ⟨by omega, by omega⟩ (by first | assumption | exact (LSP_FR hFU28 rfl rfl (by assumption : LSP S))) (by first | assumption | omega) (by first | assumption | exact (LXR_FR hFU28 rfl rfl (by assumption : LXR S))) (by first | assumption | exact (ABV_FR hFU28 rfl (by assumption : ABV S))) (by first | assumption | omega) (fun k hk h1 => by rw [k273.o.1.1] at hk; rw [k273.o.1.2.1 914 k (by omega)] at h1; rw [k273.o.1.2.1 915 k (by omega)]; exact hkk.o k hk h1) (by rw [e273]; rw [show Xi (z9S S) 904 109 = 0 from Xi_same (by unfold rg; omega)]; omega) _) ?_
        rintro _ T29 ⟨hHT29, w657, rfl, o304⟩
        have hFT29 : FR md_mo_askFifteen__4 S T29 := FR.tr hFU28 w657 rfl
        show Pl _ _ _ _ _ _ [] _ _
        have K304 : True := trivial
        have D304 : Hid (DSX S T29) := ⟨fun _ => ⟨fun w => by have t := o304.1 (by omega); rw [i271b, e300, e273] at t; exact t, fun w => (o304.2 (by omega)).trans e273⟩, fun q => absurd ⟨by omega, by omega⟩ q⟩
        clear o304
        have T304 : NT3 T29 = NT3 S := by have F := (by assumption : FR md_mo_describe__p U28 T29); have t := t273; unfold NT3 at t ⊢; rw [F.x 904 106 rfl, F.x 904 105 rfl, F.x 904 104 rfl]; exact t
        have w658 : Xi T29 904 106 = Xi S 904 106 := (show Xi T29 904 106 = Xi U28 904 106 from w657.x _ _ rfl).trans ((show Xi U28 904 106 = Xi S 904 106 from by rw [eU28]; exact Xi_ne (by omega)))
        have w659 : Xi T29 904 108 = Xi S 904 108 := (show Xi T29 904 108 = Xi U28 904 108 from w657.x _ _ rfl).trans ((show Xi U28 904 108 = Xi S 904 108 from by rw [eU28]; exact Xi_ne (by omega)))
        have w660 : Xi T29 904 15 = Xi S 904 15 := (show Xi T29 904 15 = Xi U28 904 15 from w657.x _ _ rfl).trans ((show Xi U28 904 15 = Xi S 904 15 from by rw [eU28]; exact Xi_ne (by omega)))
        have w661 : Xi T29 904 19 = Xi S 904 19 := (show Xi T29 904 19 = Xi U28 904 19 from w657.x _ _ rfl).trans ((show Xi U28 904 19 = Xi S 904 19 from by rw [eU28]; exact Xi_ne (by omega)))
        have w662 : Xi T29 904 32 = Xi S 904 32 := (show Xi T29 904 32 = Xi U28 904 32 from w657.x _ _ rfl).trans ((show Xi U28 904 32 = Xi S 904 32 from by rw [eU28]; exact Xi_ne (by omega)))
        have w663 : Xi T29 904 70 = Xi S 904 70 := (show Xi T29 904 70 = Xi U28 904 70 from w657.x _ _ rfl).trans ((show Xi U28 904 70 = Xi S 904 70 from by rw [eU28]; exact Xi_ne (by omega)))
        have w664 : Xi T29 904 71 = Xi S 904 71 := (show Xi T29 904 71 = Xi U28 904 71 from w657.x _ _ rfl).trans ((show Xi U28 904 71 = Xi S 904 71 from by rw [eU28]; exact Xi_ne (by omega)))
        have w665 : Xi T29 904 72 = Xi S 904 72 := (show Xi T29 904 72 = Xi U28 904 72 from w657.x _ _ rfl).trans ((show Xi U28 904 72 = Xi S 904 72 from by rw [eU28]; exact Xi_ne (by omega)))
        have w666 : Xi T29 904 75 = Xi S 904 75 := (show Xi T29 904 75 = Xi U28 904 75 from w657.x _ _ rfl).trans ((show Xi U28 904 75 = Xi S 904 75 from by rw [eU28]; exact Xi_ne (by omega)))
        have w667 : Xi T29 904 76 = Xi S 904 76 := (show Xi T29 904 76 = Xi U28 904 76 from w657.x _ _ rfl).trans ((show Xi U28 904 76 = Xi S 904 76 from by rw [eU28]; exact Xi_ne (by omega)))
        have w668 : Xi T29 904 77 = Xi S 904 77 := (show Xi T29 904 77 = Xi U28 904 77 from w657.x _ _ rfl).trans ((show Xi U28 904 77 = Xi S 904 77 from by rw [eU28]; exact Xi_ne (by omega)))
        have w669 : Xi T29 904 78 = Xi S 904 78 := (show Xi T29 904 78 = Xi U28 904 78 from w657.x _ _ rfl).trans ((show Xi U28 904 78 = Xi S 904 78 from by rw [eU28]; exact Xi_ne (by omega)))
        exact Pl_weak (C307 T29 hHT29 hFT29 (v1) (v2) (v5) (by omega) (by omega) (by omega) (i271a) (i271b) (by omega) (p271) (by first | (have t := K304; exact D304) | exact ⟨fun q => absurd q (fun y => by have y1 := y.1; have y2 := y.2; omega), fun _ => e273⟩) (by first | (have t := K304; exact T304) | exact t273) (by first | (have t := K304; exact dsx_r D304.o) | exact dsx_r (A := T29) ⟨fun q => absurd q (fun y => by have y1 := y.1; have y2 := y.2; omega), fun _ => e273⟩) (by omega) (by omega) (by omega) (by omega) (by omega) (by omega) (by omega)) (by omega) (And.intro rfl (And.intro rfl (And.intro rfl (And.intro rfl (True.intro)))))
  refine y_aload_n rfl rfl ?_
  refine y_gfi rfl rfl rfl rfl rfl ?_
  refine y_istore_n rfl rfl rfl ?_
  refine y_aload_n rfl rfl ?_
  refine y_gfr rfl rfl rfl rfl rfl (hH.r 904 67 950 rfl) ?_
  refine y_aload_n rfl rfl ?_
  refine y_gfi rfl rfl rfl rfl rfl ?_
  refine y_ialoadP (n := 2600) rfl rfl (by unfold rg; omega) (fun w670 w671 => ?_)
  have w672 : -2147483648 ≤ (Xi S 950 (((Xi S 904 78)).toNat)) ∧ (Xi S 950 (((Xi S 904 78)).toNat)) ≤ 2147483647 := Xi_rgI
  refine y_istore_n rfl rfl rfl ?_
  refine y_aload_n rfl rfl ?_
  refine y_gfi rfl rfl rfl rfl rfl ?_
  refine y_if_eq rfl rfl (by unfold rg; omega) (fun w673 => ?_) (fun w674 => ?_)
  · refine y_aload_n rfl rfl ?_
    refine y_gfi rfl rfl rfl rfl rfl ?_
    refine y_iconst rfl ?_
    refine y_icmp_ne rfl rfl (by unfold rg; omega) (by unfold rg; omega) (fun w675 => ?_) (fun w676 => ?_)
    · refine y_iconst rfl ?_
      refine y_istore_n rfl rfl rfl ?_
      have e140 : (-1) = tU5 S := by unfold tU5; first | (rw [if_pos (by omega)]; exact f133) | (rw [if_neg (by omega)])
      refine y_aload_n rfl rfl ?_
      refine y_gfi rfl rfl rfl rfl rfl ?_
      refine y_bipush rfl rfl ?_
      refine y_icmp_eq rfl rfl (by unfold rg; omega) (by unfold rg; omega) (fun w677 => ?_) (fun w678 => ?_)
      · exfalso; omega
      · refine y_iload_n rfl rfl ?_
        refine y_iconst rfl ?_
        refine y_icmp_le rfl rfl (by unfold rg; omega) (by unfold rg; omega) (fun w679 => ?_) (fun w680 => absurd w680 (by omega))
        · refine y_aload_n rfl rfl ?_
          refine y_iload_n rfl rfl ?_
          refine y_aload_n rfl rfl ?_
          refine y_gfr rfl rfl rfl rfl rfl (hH.r 904 68 951 rfl) ?_
          refine y_aload_n rfl rfl ?_
          refine y_gfi rfl rfl rfl rfl rfl ?_
          refine y_ialoadP (n := 2600) rfl rfl (by unfold rg; omega) (fun w681 w682 => ?_)
          have w683 : -2147483648 ≤ (Xi S 951 (((Xi S 904 78)).toNat)) ∧ (Xi S 951 (((Xi S 904 78)).toNat)) ≤ 2147483647 := Xi_rgI
          refine y_callV rfl rfl rfl (t_mo_mean__p hH (Xi S 950 (((Xi S 904 78)).toNat)) (Xi S 951 (((Xi S 904 78)).toNat)) ⟨by omega, by omega⟩ ⟨by omega, by omega⟩ (by first | assumption | exact (LSP_FR hF rfl rfl (by assumption : LSP S))) (by first | assumption | omega) _) ?_
          rintro _ _ ⟨rfl, z684, rfl, w684, f230⟩
          show Pl _ _ _ _ _ _ [iv z684] _ _
          have e230 : z684 = nmR S (fW S) (nW S) := f230
          have b230 := nmR_rg (S := S) (t := fW S) (n := nW S) h15
          refine y_istore rfl rfl rfl ?_
          refine y_iload rfl rfl ?_
          refine y_iconst rfl ?_
          refine y_icmp_eq rfl rfl (by unfold rg; omega) (by unfold rg; omega) (fun w685 => ?_) (fun w686 => ?_)
          · refine y_iconst rfl ?_
            refine y_istore rfl rfl rfl ?_
            have P269 : Hid (((0 : Int) = 1 → vA5 S) ∧ ((0 : Int) = 0 → ¬ vA5 S)) := by first | exact ⟨fun _ => ⟨by omega, by omega⟩, fun q => absurd q (by omega)⟩ | exact ⟨fun q => absurd q (by omega), fun _ q => by have q1 := q.1; have q2 := q.2; omega⟩
            exact Pl_weak (C271 ((Xi S 904 71)) ((Xi S 950 (((Xi S 904 78)).toNat))) (0) (by omega) (by omega) (by omega) (rfl) (rfl) (rfl) (by omega) (P269)) (by omega) (And.intro rfl (And.intro rfl (And.intro rfl (And.intro rfl (True.intro)))))
          · refine y_aload_n rfl rfl ?_
            refine y_gfr rfl rfl rfl rfl rfl (hH.r 904 12 914 rfl) ?_
            refine y_iload rfl rfl ?_
            refine y_ialoadP (n := 300) rfl rfl (by unfold rg; omega) (fun w687 w688 => ?_)
            have w689 : -2147483648 ≤ (Xi S 914 ((z684).toNat)) ∧ (Xi S 914 ((z684).toNat)) ≤ 2147483647 := Xi_rgI
            have e247 : (Xi S 914 ((z684).toNat)) = Xi S 914 (nmR S (fW S) (nW S)).toNat := by rw [← e230]
            refine y_iconst rfl ?_
            refine y_icmp_eq rfl rfl (by unfold rg; omega) (by unfold rg; omega) (fun w690 => ?_) (fun w691 => ?_)
            · refine y_iconst rfl ?_
              refine y_goto rfl rfl ?_
              refine y_istore rfl rfl rfl ?_
              have P269 : Hid (((1 : Int) = 1 → vA5 S) ∧ ((1 : Int) = 0 → ¬ vA5 S)) := by first | exact ⟨fun _ => ⟨by omega, by omega⟩, fun q => absurd q (by omega)⟩ | exact ⟨fun q => absurd q (by omega), fun _ q => by have q1 := q.1; have q2 := q.2; omega⟩
              exact Pl_weak (C271 ((Xi S 904 71)) ((Xi S 950 (((Xi S 904 78)).toNat))) (1) (by omega) (by omega) (by omega) (rfl) (rfl) (rfl) (by omega) (P269)) (by omega) (And.intro rfl (And.intro rfl (And.intro rfl (And.intro rfl (True.intro)))))
            · refine y_aload_n rfl rfl ?_
              refine y_gfr rfl rfl rfl rfl rfl (hH.r 904 12 914 rfl) ?_
              refine y_iload rfl rfl ?_
              refine y_ialoadP (n := 300) rfl rfl (by unfold rg; omega) (fun w692 w693 => ?_)
              have e258 : (Xi S 914 ((z684).toNat)) = Xi S 914 (nmR S (fW S) (nW S)).toNat := by rw [← e230]
              refine y_bipush rfl rfl ?_
              refine y_icmp_ne rfl rfl (by unfold rg; omega) (by unfold rg; omega) (fun w694 => ?_) (fun w695 => ?_)
              · refine y_iconst rfl ?_
                refine y_istore rfl rfl rfl ?_
                have P269 : Hid (((0 : Int) = 1 → vA5 S) ∧ ((0 : Int) = 0 → ¬ vA5 S)) := by first | exact ⟨fun _ => ⟨by omega, by omega⟩, fun q => absurd q (by omega)⟩ | exact ⟨fun q => absurd q (by omega), fun _ q => by have q1 := q.1; have q2 := q.2; omega⟩
                exact Pl_weak (C271 ((Xi S 904 71)) ((Xi S 950 (((Xi S 904 78)).toNat))) (0) (by omega) (by omega) (by omega) (rfl) (rfl) (rfl) (by omega) (P269)) (by omega) (And.intro rfl (And.intro rfl (And.intro rfl (And.intro rfl (True.intro)))))
              · refine y_iconst rfl ?_
                refine y_goto rfl rfl ?_
                refine y_istore rfl rfl rfl ?_
                have P269 : Hid (((1 : Int) = 1 → vA5 S) ∧ ((1 : Int) = 0 → ¬ vA5 S)) := by first | exact ⟨fun _ => ⟨by omega, by omega⟩, fun q => absurd q (by omega)⟩ | exact ⟨fun q => absurd q (by omega), fun _ q => by have q1 := q.1; have q2 := q.2; omega⟩
                exact Pl_weak (C271 ((Xi S 904 71)) ((Xi S 950 (((Xi S 904 78)).toNat))) (1) (by omega) (by omega) (by omega) (rfl) (rfl) (rfl) (by omega) (P269)) (by omega) (And.intro rfl (And.intro rfl (And.intro rfl (And.intro rfl (True.intro)))))
    · refine y_aload_n rfl rfl ?_
      refine y_iload_n rfl rfl ?_
      refine y_callV rfl rfl rfl (t_mo_typeOrPlural__p hH (Xi S 904 71) ⟨by omega, by omega⟩ (by first | assumption | exact (LSP_FR hF rfl rfl (by assumption : LSP S))) (by first | assumption | omega) (by first | assumption | exact (RBD_FR hF rfl (by assumption : RBD S))) _) ?_
      rintro _ _ ⟨rfl, z696, rfl, w696, f133⟩
      show Pl _ _ _ _ _ _ [iv z696] _ _
      refine y_goto rfl rfl ?_
      refine y_istore_n rfl rfl rfl ?_
      have e140 : z696 = tU5 S := by unfold tU5; first | (rw [if_pos (by omega)]; exact f133) | (rw [if_neg (by omega)])
      refine y_aload_n rfl rfl ?_
      refine y_gfi rfl rfl rfl rfl rfl ?_
      refine y_bipush rfl rfl ?_
      refine y_icmp_eq rfl rfl (by unfold rg; omega) (by unfold rg; omega) (fun w697 => ?_) (fun w698 => ?_)
      · exfalso; omega
      · refine y_iload_n rfl rfl ?_
        refine y_iconst rfl ?_
        refine y_icmp_le rfl rfl (by unfold rg; omega) (by unfold rg; omega) (fun w699 => ?_) (fun w700 => ?_)
        · refine y_aload_n rfl rfl ?_
          refine y_iload_n rfl rfl ?_
          refine y_aload_n rfl rfl ?_
          refine y_gfr rfl rfl rfl rfl rfl (hH.r 904 68 951 rfl) ?_
          refine y_aload_n rfl rfl ?_
          refine y_gfi rfl rfl rfl rfl rfl ?_
          refine y_ialoadP (n := 2600) rfl rfl (by unfold rg; omega) (fun w701 w702 => ?_)
          have w703 : -2147483648 ≤ (Xi S 951 (((Xi S 904 78)).toNat)) ∧ (Xi S 951 (((Xi S 904 78)).toNat)) ≤ 2147483647 := Xi_rgI
          refine y_callV rfl rfl rfl (t_mo_mean__p hH (Xi S 950 (((Xi S 904 78)).toNat)) (Xi S 951 (((Xi S 904 78)).toNat)) ⟨by omega, by omega⟩ ⟨by omega, by omega⟩ (by first | assumption | exact (LSP_FR hF rfl rfl (by assumption : LSP S))) (by first | assumption | omega) _) ?_
          rintro _ _ ⟨rfl, z704, rfl, w704, f230⟩
          show Pl _ _ _ _ _ _ [iv z704] _ _
          have e230 : z704 = nmR S (fW S) (nW S) := f230
          have b230 := nmR_rg (S := S) (t := fW S) (n := nW S) h15
          refine y_istore rfl rfl rfl ?_
          refine y_iload rfl rfl ?_
          refine y_iconst rfl ?_
          refine y_icmp_eq rfl rfl (by unfold rg; omega) (by unfold rg; omega) (fun w705 => ?_) (fun w706 => ?_)
          · refine y_iconst rfl ?_
            refine y_istore rfl rfl rfl ?_
            have P269 : Hid (((0 : Int) = 1 → vA5 S) ∧ ((0 : Int) = 0 → ¬ vA5 S)) := by first | exact ⟨fun _ => ⟨by omega, by omega⟩, fun q => absurd q (by omega)⟩ | exact ⟨fun q => absurd q (by omega), fun _ q => by have q1 := q.1; have q2 := q.2; omega⟩
            exact Pl_weak (C271 ((Xi S 904 71)) ((Xi S 950 (((Xi S 904 78)).toNat))) (0) (by omega) (by omega) (by omega) (rfl) (rfl) (rfl) (by omega) (P269)) (by omega) (And.intro rfl (And.intro rfl (And.intro rfl (And.intro rfl (True.intro)))))
          · refine y_aload_n rfl rfl ?_
            refine y_gfr rfl rfl rfl rfl rfl (hH.r 904 12 914 rfl) ?_
            refine y_iload rfl rfl ?_
            refine y_ialoadP (n := 300) rfl rfl (by unfold rg; omega) (fun w707 w708 => ?_)
            have w709 : -2147483648 ≤ (Xi S 914 ((z704).toNat)) ∧ (Xi S 914 ((z704).toNat)) ≤ 2147483647 := Xi_rgI
            have e247 : (Xi S 914 ((z704).toNat)) = Xi S 914 (nmR S (fW S) (nW S)).toNat := by rw [← e230]
            refine y_iconst rfl ?_
            refine y_icmp_eq rfl rfl (by unfold rg; omega) (by unfold rg; omega) (fun w710 => ?_) (fun w711 => ?_)
            · refine y_iconst rfl ?_
              refine y_goto rfl rfl ?_
              refine y_istore rfl rfl rfl ?_
              have P269 : Hid (((1 : Int) = 1 → vA5 S) ∧ ((1 : Int) = 0 → ¬ vA5 S)) := by first | exact ⟨fun _ => ⟨by omega, by omega⟩, fun q => absurd q (by omega)⟩ | exact ⟨fun q => absurd q (by omega), fun _ q => by have q1 := q.1; have q2 := q.2; omega⟩
              exact Pl_weak (C271 ((Xi S 904 71)) ((Xi S 950 (((Xi S 904 78)).toNat))) (1) (by omega) (by omega) (by omega) (rfl) (rfl) (rfl) (by omega) (P269)) (by omega) (And.intro rfl (And.intro rfl (And.intro rfl (And.intro rfl (True.intro)))))
            · refine y_aload_n rfl rfl ?_
              refine y_gfr rfl rfl rfl rfl rfl (hH.r 904 12 914 rfl) ?_
              refine y_iload rfl rfl ?_
              refine y_ialoadP (n := 300) rfl rfl (by unfold rg; omega) (fun w712 w713 => ?_)
              have e258 : (Xi S 914 ((z704).toNat)) = Xi S 914 (nmR S (fW S) (nW S)).toNat := by rw [← e230]
              refine y_bipush rfl rfl ?_
              refine y_icmp_ne rfl rfl (by unfold rg; omega) (by unfold rg; omega) (fun w714 => ?_) (fun w715 => ?_)
              · refine y_iconst rfl ?_
                refine y_istore rfl rfl rfl ?_
                have P269 : Hid (((0 : Int) = 1 → vA5 S) ∧ ((0 : Int) = 0 → ¬ vA5 S)) := by first | exact ⟨fun _ => ⟨by omega, by omega⟩, fun q => absurd q (by omega)⟩ | exact ⟨fun q => absurd q (by omega), fun _ q => by have q1 := q.1; have q2 := q.2; omega⟩
                exact Pl_weak (C271 ((Xi S 904 71)) ((Xi S 950 (((Xi S 904 78)).toNat))) (0) (by omega) (by omega) (by omega) (rfl) (rfl) (rfl) (by omega) (P269)) (by omega) (And.intro rfl (And.intro rfl (And.intro rfl (And.intro rfl (True.intro)))))
              · refine y_iconst rfl ?_
                refine y_goto rfl rfl ?_
                refine y_istore rfl rfl rfl ?_
                have P269 : Hid (((1 : Int) = 1 → vA5 S) ∧ ((1 : Int) = 0 → ¬ vA5 S)) := by first | exact ⟨fun _ => ⟨by omega, by omega⟩, fun q => absurd q (by omega)⟩ | exact ⟨fun q => absurd q (by omega), fun _ q => by have q1 := q.1; have q2 := q.2; omega⟩
                exact Pl_weak (C271 ((Xi S 904 71)) ((Xi S 950 (((Xi S 904 78)).toNat))) (1) (by omega) (by omega) (by omega) (rfl) (rfl) (rfl) (by omega) (P269)) (by omega) (And.intro rfl (And.intro rfl (And.intro rfl (And.intro rfl (True.intro)))))
        · refine y_aload_n rfl rfl ?_
          have z155 : Xi S 904 75 ≠ 0 := hnv.o (by omega)
          refine y_gfi rfl rfl rfl rfl rfl ?_
          refine y_if_ne rfl rfl (by unfold rg; omega) (fun w716 => ?_) (fun w717 => ?_)
          · refine y_aload_n rfl rfl ?_
            refine y_iload_n rfl rfl ?_
            refine y_aload_n rfl rfl ?_
            refine y_gfr rfl rfl rfl rfl rfl (hH.r 904 68 951 rfl) ?_
            refine y_aload_n rfl rfl ?_
            refine y_gfi rfl rfl rfl rfl rfl ?_
            refine y_ialoadP (n := 2600) rfl rfl (by unfold rg; omega) (fun w718 w719 => ?_)
            have w720 : -2147483648 ≤ (Xi S 951 (((Xi S 904 78)).toNat)) ∧ (Xi S 951 (((Xi S 904 78)).toNat)) ≤ 2147483647 := Xi_rgI
            refine y_callV rfl rfl rfl (t_mo_mean__p hH (Xi S 950 (((Xi S 904 78)).toNat)) (Xi S 951 (((Xi S 904 78)).toNat)) ⟨by omega, by omega⟩ ⟨by omega, by omega⟩ (by first | assumption | exact (LSP_FR hF rfl rfl (by assumption : LSP S))) (by first | assumption | omega) _) ?_
            rintro _ _ ⟨rfl, z721, rfl, w721, f230⟩
            show Pl _ _ _ _ _ _ [iv z721] _ _
            have e230 : z721 = nmR S (fW S) (nW S) := f230
            have b230 := nmR_rg (S := S) (t := fW S) (n := nW S) h15
            refine y_istore rfl rfl rfl ?_
            refine y_iload rfl rfl ?_
            refine y_iconst rfl ?_
            refine y_icmp_eq rfl rfl (by unfold rg; omega) (by unfold rg; omega) (fun w722 => ?_) (fun w723 => ?_)
            · refine y_iconst rfl ?_
              refine y_istore rfl rfl rfl ?_
              have P269 : Hid (((0 : Int) = 1 → vA5 S) ∧ ((0 : Int) = 0 → ¬ vA5 S)) := by first | exact ⟨fun _ => ⟨by omega, by omega⟩, fun q => absurd q (by omega)⟩ | exact ⟨fun q => absurd q (by omega), fun _ q => by have q1 := q.1; have q2 := q.2; omega⟩
              exact Pl_weak (C271 ((Xi S 904 71)) ((Xi S 950 (((Xi S 904 78)).toNat))) (0) (by omega) (by omega) (by omega) (rfl) (rfl) (rfl) (by omega) (P269)) (by omega) (And.intro rfl (And.intro rfl (And.intro rfl (And.intro rfl (True.intro)))))
            · refine y_aload_n rfl rfl ?_
              refine y_gfr rfl rfl rfl rfl rfl (hH.r 904 12 914 rfl) ?_
              refine y_iload rfl rfl ?_
              refine y_ialoadP (n := 300) rfl rfl (by unfold rg; omega) (fun w724 w725 => ?_)
              have w726 : -2147483648 ≤ (Xi S 914 ((z721).toNat)) ∧ (Xi S 914 ((z721).toNat)) ≤ 2147483647 := Xi_rgI
              have e247 : (Xi S 914 ((z721).toNat)) = Xi S 914 (nmR S (fW S) (nW S)).toNat := by rw [← e230]
              refine y_iconst rfl ?_
              refine y_icmp_eq rfl rfl (by unfold rg; omega) (by unfold rg; omega) (fun w727 => ?_) (fun w728 => ?_)
              · refine y_iconst rfl ?_
                refine y_goto rfl rfl ?_
                refine y_istore rfl rfl rfl ?_
                have P269 : Hid (((1 : Int) = 1 → vA5 S) ∧ ((1 : Int) = 0 → ¬ vA5 S)) := by first | exact ⟨fun _ => ⟨by omega, by omega⟩, fun q => absurd q (by omega)⟩ | exact ⟨fun q => absurd q (by omega), fun _ q => by have q1 := q.1; have q2 := q.2; omega⟩
                exact Pl_weak (C271 ((Xi S 904 71)) ((Xi S 950 (((Xi S 904 78)).toNat))) (1) (by omega) (by omega) (by omega) (rfl) (rfl) (rfl) (by omega) (P269)) (by omega) (And.intro rfl (And.intro rfl (And.intro rfl (And.intro rfl (True.intro)))))
              · refine y_aload_n rfl rfl ?_
                refine y_gfr rfl rfl rfl rfl rfl (hH.r 904 12 914 rfl) ?_
                refine y_iload rfl rfl ?_
                refine y_ialoadP (n := 300) rfl rfl (by unfold rg; omega) (fun w729 w730 => ?_)
                have e258 : (Xi S 914 ((z721).toNat)) = Xi S 914 (nmR S (fW S) (nW S)).toNat := by rw [← e230]
                refine y_bipush rfl rfl ?_
                refine y_icmp_ne rfl rfl (by unfold rg; omega) (by unfold rg; omega) (fun w731 => ?_) (fun w732 => ?_)
                · refine y_iconst rfl ?_
                  refine y_istore rfl rfl rfl ?_
                  have P269 : Hid (((0 : Int) = 1 → vA5 S) ∧ ((0 : Int) = 0 → ¬ vA5 S)) := by first | exact ⟨fun _ => ⟨by omega, by omega⟩, fun q => absurd q (by omega)⟩ | exact ⟨fun q => absurd q (by omega), fun _ q => by have q1 := q.1; have q2 := q.2; omega⟩
                  exact Pl_weak (C271 ((Xi S 904 71)) ((Xi S 950 (((Xi S 904 78)).toNat))) (0) (by omega) (by omega) (by omega) (rfl) (rfl) (rfl) (by omega) (P269)) (by omega) (And.intro rfl (And.intro rfl (And.intro rfl (And.intro rfl (True.intro)))))
                · refine y_iconst rfl ?_
                  refine y_goto rfl rfl ?_
                  refine y_istore rfl rfl rfl ?_
                  have P269 : Hid (((1 : Int) = 1 → vA5 S) ∧ ((1 : Int) = 0 → ¬ vA5 S)) := by first | exact ⟨fun _ => ⟨by omega, by omega⟩, fun q => absurd q (by omega)⟩ | exact ⟨fun q => absurd q (by omega), fun _ q => by have q1 := q.1; have q2 := q.2; omega⟩
                  exact Pl_weak (C271 ((Xi S 904 71)) ((Xi S 950 (((Xi S 904 78)).toNat))) (1) (by omega) (by omega) (by omega) (rfl) (rfl) (rfl) (by omega) (P269)) (by omega) (And.intro rfl (And.intro rfl (And.intro rfl (And.intro rfl (True.intro)))))
          · exfalso; omega
  · exfalso; omega
end
