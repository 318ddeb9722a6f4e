section
/-! tests of the reference: all of a sentence's tests -/
theorem TRK_F {l : List rec} {S P : sS} {i : Int} (h : FR l S P) (g : SMR S P) (e1 : kdis l [(907, 911)] = true) (e2 : kdis l [(950, 963)] = true) (t : TRK S i) : TRK P i := by
  have k := h.smk e2
  have m := h.smk e1
  have x : ∀ c j, c = 950 ∨ c = 952 ∨ c = 953 ∨ c = 954 ∨ c = 956 ∨ c = 957 ∨ c = 959 ∨ c = 961 ∨ c = 962 → Xi P c j = Xi S c j := fun c j w => by
    rcases w with w | w | w | w | w | w | w | w | w <;> (subst w; exact k.x _ rfl j)
  have r : rT3 P i = rT3 S i := by unfold rT3; exact x 956 _ (by omega)
  unfold TRK
  rw [x 952 _ (by omega), x 953 _ (by omega), x 961 _ (by omega), x 962 _ (by omega), x 954 _ (by omega), x 959 _ (by omega), r, x 950 _ (by omega), x 956 _ (by omega), x 957 _ (by omega), rnR_sm g, m.x 907 rfl, m.x 908 rfl, SMK_j m 910 rfl]
  exact t
def TSR (lN lT : List rec) (S : sS) : Nat → sS → Prop
  | 0, T => T = S
  | n + 1, T => ∃ W A : sS, TSR lN lT S n W ∧ FR lN W A ∧ NT3 A = (if (n : Int) < 6 then NT3 W else ntF (NT3 W) 9 (Xi S 908 (Xi S 961 n).toNat)) ∧ FR lT A T ∧ TMX A T n (Xi S 904 117 + n) 0

def md_mo_testsMeant__p : List rec := [(904, 905, 64, 65), (904, 905, 104, 105), (904, 905, 105, 106), (904, 905, 106, 107), (904, 905, 113, 114), (969, 970, 0, 100000), (970, 971, 0, 100000), (971, 972, 0, 100000), (972, 973, 0, 100000), (973, 974, 0, 100000), (974, 975, 0, 100000), (975, 976, 0, 100000)]
abbrev Q_mo_testsMeant__p (S : sS) : pst := fun r S1 => RI S1 ∧ FR md_mo_testsMeant__p S S1 ∧ (r = none ∧ (TSR md_mo_need__p md_mo_testMeant__p S (Xi S 904 94).toNat S1))
set_option maxRecDepth 100000 in
theorem t_mo_testsMeant__p {S : sS} (hH : RI S) (hLS : LSP S) (h15 : 0 ≤ Xi S 904 15) (hRB : RBD S) (hB : ABV S) (hkx : Hid (∀ j : Nat, -1 ≤ Xi S 918 j ∧ Xi S 918 j ≤ 15)) (hit : (-1 ≤ Xi S 904 115 ∧ Xi S 904 115 ≤ 15) ∧ (-1 ≤ Xi S 904 116 ∧ Xi S 904 116 ≤ 15)) (hLX : LXR S) (hp32 : 0 ≤ Xi S 904 32 ∧ Xi S 904 32 ≤ 12) (h94 : 0 ≤ Xi S 904 94 ∧ Xi S 904 94 ≤ 1700) (h117 : 0 ≤ Xi S 904 117 ∧ Xi S 904 117 + Xi S 904 94 ≤ 2400) (htk : Hid (∀ k : Nat, (k : Int) < Xi S 904 94 → TRK S k)) (d : Nat) : Mp lay0 (d + 8) m_mo_testsMeant [.ref 904] S (Q_mo_testsMeant__p S) := by
  refine Mp_R rfl rfl (fun fu => ?_)
  have hF : FR md_mo_testsMeant__p S S := FR.rf
  have w1 : -2147483648 ≤ Xi S 904 115 ∧ Xi S 904 115 ≤ 2147483647 := Xi_rgI
  have w2 : -2147483648 ≤ Xi S 904 116 ∧ Xi S 904 116 ≤ 2147483647 := Xi_rgI
  have w3 : -2147483648 ≤ Xi S 904 117 ∧ Xi S 904 117 ≤ 2147483647 := Xi_rgI
  have w4 : -2147483648 ≤ Xi S 904 15 ∧ Xi S 904 15 ≤ 2147483647 := Xi_rgI
  have w5 : -2147483648 ≤ Xi S 904 32 ∧ Xi S 904 32 ≤ 2147483647 := Xi_rgI
  have w6 : -2147483648 ≤ Xi S 904 94 ∧ Xi S 904 94 ≤ 2147483647 := Xi_rgI
  have C2 : ∀ (n2 : Nat) (_ : n2 ≤ fu) (T1 : sS) (_ : RI T1) (_ : FR md_mo_testsMeant__p S T1) (v1 : Int), (0 ≤ v1 ∧ v1 ≤ 1700) → (0 ≤ v1 ∧ v1 ≤ Xi S 904 94) → (Hid (TSR md_mo_need__p md_mo_testMeant__p S (v1).toNat T1)) → Pl n2 lay0 (d + 7) m_mo_testsMeant 2 [(0, .ref 904), (1, iv v1)] [] T1 (Q_mo_testsMeant__p S) := by
    intro n2
    induction n2 with
    | zero => intros; exact Pl_0
    | succ n2 ih2 =>
      intro hm2 T1 hHT1 hFT1 v1 w7 w8 Tc2
      have w9 : Xi T1 904 115 = Xi S 904 115 := hFT1.x _ _ rfl
      have w10 : Xi T1 904 116 = Xi S 904 116 := hFT1.x _ _ rfl
      have w11 : Xi T1 904 117 = Xi S 904 117 := hFT1.x _ _ rfl
      have w12 : Xi T1 904 15 = Xi S 904 15 := hFT1.x _ _ rfl
      have w13 : Xi T1 904 32 = Xi S 904 32 := hFT1.x _ _ rfl
      have w14 : Xi T1 904 94 = Xi S 904 94 := hFT1.x _ _ rfl
      have w15 : -2147483648 ≤ Xi T1 904 115 ∧ Xi T1 904 115 ≤ 2147483647 := Xi_rgI
      have w16 : -2147483648 ≤ Xi T1 904 116 ∧ Xi T1 904 116 ≤ 2147483647 := Xi_rgI
      have w17 : -2147483648 ≤ Xi T1 904 117 ∧ Xi T1 904 117 ≤ 2147483647 := Xi_rgI
      have w18 : -2147483648 ≤ Xi T1 904 15 ∧ Xi T1 904 15 ≤ 2147483647 := Xi_rgI
      have w19 : -2147483648 ≤ Xi T1 904 32 ∧ Xi T1 904 32 ≤ 2147483647 := Xi_rgI
      have w20 : -2147483648 ≤ Xi T1 904 94 ∧ Xi T1 904 94 ≤ 2147483647 := Xi_rgI
      refine ys_iload_n rfl rfl ?_
      refine y_aload_n rfl rfl ?_
      refine y_gfi rfl rfl rfl rfl rfl ?_
      refine y_icmp_ge rfl rfl (by unfold rg; omega) (by unfold rg; omega) (fun w21 => ?_) (fun w22 => ?_)
      · refine y_return rfl rfl ?_
        exact ⟨hHT1, hFT1, rfl, (by have u := Tc2.o; rw [show v1 = Xi S 904 94 by omega] at u; exact u)⟩
      · refine y_aload_n rfl rfl ?_
        refine y_iload_n rfl rfl ?_
        refine y_bipush rfl rfl ?_
        refine y_icmp_ge rfl rfl (by unfold rg; omega) (by unfold rg; omega) (fun w23 => ?_) (fun w24 => ?_)
        · refine y_iconst rfl ?_
          refine y_bipush rfl rfl ?_
          refine y_aload_n rfl rfl ?_
          refine y_gfr rfl rfl rfl rfl rfl (hHT1.r 904 91 961 rfl) ?_
          refine y_iload_n rfl rfl ?_
          refine y_ialoadP (n := 1700) rfl rfl (by unfold rg; omega) (fun w25 w26 => ?_)
          have w27 : -2147483648 ≤ (Xi T1 961 ((v1).toNat)) ∧ (Xi T1 961 ((v1).toNat)) ≤ 2147483647 := Xi_rgI
          have f29 : (Xi T1 961 ((v1).toNat)) = Xi S 961 (v1).toNat := (hFT1.cx 961 rfl _).1
          refine y_callV rfl rfl rfl (t_mo_need__p hHT1 0 9 (Xi T1 961 ((v1).toNat)) ⟨by omega, by omega⟩ ⟨by omega, by omega⟩ ⟨by omega, by omega⟩ _) ?_
          rintro _ T2 ⟨hHT2, w29, rfl, nt30⟩
          have hFT2 : FR md_mo_testsMeant__p S T2 := FR.tr hFT1 w29 rfl
          show Pl _ _ _ _ _ _ [] _ _
          have F30 := (by assumption : FR md_mo_need__p T1 T2)
          have N30 : NT3 T2 = (if (((v1).toNat : Nat) : Int) < 6 then NT3 T1 else ntF (NT3 T1) 9 (Xi S 908 (Xi S 961 (v1).toNat).toNat)) := by have t := nt30; rw [(hFT1.cx 908 rfl _).1, f29] at t; first | (rw [if_pos (by omega)]; rw [if_neg (show ¬ (1 : Int) = 0 by decide)] at t; exact t) | (rw [if_neg (by omega)]; rw [if_pos (show (0 : Int) = 0 from rfl)] at t; exact t)
          have c30 : (((v1).toNat : Nat) : Int) = v1 := by omega
          refine y_aload_n rfl rfl ?_
          refine y_iload_n rfl rfl ?_
          refine y_aload_n rfl rfl ?_
          refine y_gfi rfl rfl rfl rfl rfl ?_
          have w30 : (Xi T2 904 117) = (Xi T1 904 117) := (show Xi T2 904 117 = Xi T1 904 117 from w29.x _ _ rfl)
          rw [w30]
          refine y_iload_n rfl rfl ?_
          refine y_iadd rfl ?_
          refine y_iconst rfl ?_
          have w31 : Xi T2 904 115 = Xi T1 904 115 := (show Xi T2 904 115 = Xi T1 904 115 from w29.x _ _ rfl)
          have w32 : Xi T2 904 116 = Xi T1 904 116 := (show Xi T2 904 116 = Xi T1 904 116 from w29.x _ _ rfl)
          have w33 : Xi T2 904 117 = Xi T1 904 117 := (show Xi T2 904 117 = Xi T1 904 117 from w29.x _ _ rfl)
          have w34 : Xi T2 904 15 = Xi T1 904 15 := (show Xi T2 904 15 = Xi T1 904 15 from w29.x _ _ rfl)
          have w35 : Xi T2 904 32 = Xi T1 904 32 := (show Xi T2 904 32 = Xi T1 904 32 from w29.x _ _ rfl)
          refine y_callV rfl rfl rfl (t_mo_testMeant__p hHT2 v1 ((Xi T1 904 117) + v1) 0 ⟨by omega, by omega⟩ ⟨by omega, by omega⟩ ⟨by omega, by omega⟩ (by first | assumption | exact (LSP_FR hFT2 rfl rfl (by assumption : LSP S))) (by first | assumption | omega) (by first | assumption | exact (RBD_FR hFT2 rfl (by assumption : RBD S))) (by first | assumption | exact (ABV_FR hFT2 rfl (by assumption : ABV S))) (fun j => by rw [hFT2.x 918 j rfl]; exact hkx.o j) (by first | assumption | omega) (LXR_FR hFT2 rfl rfl hLX) (by first | assumption | omega) (TRK_F hFT2 (SMR_FR hFT2 rfl rfl) rfl rfl (by have u := htk.o (v1).toNat (by omega); rw [c30] at u; exact u)) _) ?_
          rintro _ T3 ⟨hHT3, w38, rfl, o42⟩
          have hFT3 : FR md_mo_testsMeant__p S T3 := FR.tr hFT2 w38 rfl
          show Pl _ _ _ _ _ _ [] _ _
          have F42 := (by assumption : FR md_mo_testMeant__p T2 T3)
          have T42 : Hid (TSR md_mo_need__p md_mo_testMeant__p S (v1 + 1).toNat T3) := by rw [show (v1 + 1).toNat = (v1).toNat + 1 by omega]; exact ⟨_, _, Tc2.o, F30, N30, F42, by rw [c30]; first | (rw [show Xi S 904 117 = Xi T1 904 117 from (hFT1.x 904 117 rfl).symm]; exact o42) | (rw [show Xi S 904 117 = Xi T2 904 117 from (hFT2.x 904 117 rfl).symm]; exact o42)⟩
          refine y_iinc rfl rfl rfl rfl ?_
          refine y_goto rfl rfl ?_
          have w39 : Xi T3 904 115 = Xi T1 904 115 := (show Xi T3 904 115 = Xi T2 904 115 from w38.x _ _ rfl).trans ((show Xi T2 904 115 = Xi T1 904 115 from w29.x _ _ rfl))
          have w40 : Xi T3 904 116 = Xi T1 904 116 := (show Xi T3 904 116 = Xi T2 904 116 from w38.x _ _ rfl).trans ((show Xi T2 904 116 = Xi T1 904 116 from w29.x _ _ rfl))
          have w41 : Xi T3 904 117 = Xi T1 904 117 := (show Xi T3 904 117 = Xi T2 904 117 from w38.x _ _ rfl).trans ((show Xi T2 904 117 = Xi T1 904 117 from w29.x _ _ rfl))
          have w42 : Xi T3 904 15 = Xi T1 904 15 := (show Xi T3 904 15 = Xi T2 904 15 from w38.x _ _ rfl).trans ((show Xi T2 904 15 = Xi T1 904 15 from w29.x _ _ rfl))
          have w43 : Xi T3 904 32 = Xi T1 904 32 := (show Xi T3 904 32 = Xi T2 904 32 from w38.x _ _ rfl).trans ((show Xi T2 904 32 = Xi T1 904 32 from w29.x _ _ rfl))
          have w44 : Xi T3 904 94 = Xi T1 904 94 := (show Xi T3 904 94 = Xi T2 904 94 from w38.x _ _ rfl).trans ((show Xi T2 904 94 = Xi T1 904 94 from w29.x _ _ rfl))
          exact Pl_weak (ih2 (by omega) T3 hHT3 hFT3 ((v1 + 1)) (by omega) (by omega) (by first | exact T42 | exact rfl)) (by omega) (And.intro rfl (And.intro rfl (True.intro)))
        · refine y_iconst rfl ?_
          refine y_goto rfl rfl ?_
          refine y_bipush rfl rfl ?_
          refine y_aload_n rfl rfl ?_
          refine y_gfr rfl rfl rfl rfl rfl (hHT1.r 904 91 961 rfl) ?_
          refine y_iload_n rfl rfl ?_
          refine y_ialoadP (n := 1700) rfl rfl (by unfold rg; omega) (fun w45 w46 => ?_)
          have w47 : -2147483648 ≤ (Xi T1 961 ((v1).toNat)) ∧ (Xi T1 961 ((v1).toNat)) ≤ 2147483647 := Xi_rgI
          have f29 : (Xi T1 961 ((v1).toNat)) = Xi S 961 (v1).toNat := (hFT1.cx 961 rfl _).1
          refine y_callV rfl rfl rfl (t_mo_need__p hHT1 1 9 (Xi T1 961 ((v1).toNat)) ⟨by omega, by omega⟩ ⟨by omega, by omega⟩ ⟨by omega, by omega⟩ _) ?_
          rintro _ T4 ⟨hHT4, w49, rfl, nt30⟩
          have hFT4 : FR md_mo_testsMeant__p S T4 := FR.tr hFT1 w49 rfl
          show Pl _ _ _ _ _ _ [] _ _
          have F30 := (by assumption : FR md_mo_need__p T1 T4)
          have N30 : NT3 T4 = (if (((v1).toNat : Nat) : Int) < 6 then NT3 T1 else ntF (NT3 T1) 9 (Xi S 908 (Xi S 961 (v1).toNat).toNat)) := by have t := nt30; rw [(hFT1.cx 908 rfl _).1, f29] at t; first | (rw [if_pos (by omega)]; rw [if_neg (show ¬ (1 : Int) = 0 by decide)] at t; exact t) | (rw [if_neg (by omega)]; rw [if_pos (show (0 : Int) = 0 from rfl)] at t; exact t)
          have c30 : (((v1).toNat : Nat) : Int) = v1 := by omega
          refine y_aload_n rfl rfl ?_
          refine y_iload_n rfl rfl ?_
          refine y_aload_n rfl rfl ?_
          refine y_gfi rfl rfl rfl rfl rfl ?_
          have w50 : (Xi T4 904 117) = (Xi T1 904 117) := (show Xi T4 904 117 = Xi T1 904 117 from w49.x _ _ rfl)
          rw [w50]
          refine y_iload_n rfl rfl ?_
          refine y_iadd rfl ?_
          refine y_iconst rfl ?_
          have w51 : Xi T4 904 115 = Xi T1 904 115 := (show Xi T4 904 115 = Xi T1 904 115 from w49.x _ _ rfl)
          have w52 : Xi T4 904 116 = Xi T1 904 116 := (show Xi T4 904 116 = Xi T1 904 116 from w49.x _ _ rfl)
          have w53 : Xi T4 904 117 = Xi T1 904 117 := (show Xi T4 904 117 = Xi T1 904 117 from w49.x _ _ rfl)
          have w54 : Xi T4 904 15 = Xi T1 904 15 := (show Xi T4 904 15 = Xi T1 904 15 from w49.x _ _ rfl)
          have w55 : Xi T4 904 32 = Xi T1 904 32 := (show Xi T4 904 32 = Xi T1 904 32 from w49.x _ _ rfl)
          refine y_callV rfl rfl rfl (t_mo_testMeant__p hHT4 v1 ((Xi T1 904 117) + v1) 0 ⟨by omega, by omega⟩ ⟨by omega, by omega⟩ ⟨by omega, by omega⟩ (by first | assumption | exact (LSP_FR hFT4 rfl rfl (by assumption : LSP S))) (by first | assumption | omega) (by first | assumption | exact (RBD_FR hFT4 rfl (by assumption : RBD S))) (by first | assumption | exact (ABV_FR hFT4 rfl (by assumption : ABV S))) (fun j => by rw [hFT4.x 918 j rfl]; exact hkx.o j) (by first | assumption | omega) (LXR_FR hFT4 rfl rfl hLX) (by first | assumption | omega) (TRK_F hFT4 (SMR_FR hFT4 rfl rfl) rfl rfl (by have u := htk.o (v1).toNat (by omega); rw [c30] at u; exact u)) _) ?_
          rintro _ T5 ⟨hHT5, w58, rfl, o42⟩
          have hFT5 : FR md_mo_testsMeant__p S T5 := FR.tr hFT4 w58 rfl
          show Pl _ _ _ _ _ _ [] _ _
          have F42 := (by assumption : FR md_mo_testMeant__p T4 T5)
          have T42 : Hid (TSR md_mo_need__p md_mo_testMeant__p S (v1 + 1).toNat T5) := by rw [show (v1 + 1).toNat = (v1).toNat + 1 by omega]; exact ⟨_, _, Tc2.o, F30, N30, F42, by rw [c30]; first | (rw [show Xi S 904 117 = Xi T1 904 117 from (hFT1.x 904 117 rfl).symm]; exact o42) | (rw [show Xi S 904 117 = Xi T4 904 117 from (hFT4.x 904 117 rfl).symm]; exact o42)⟩
          refine y_iinc rfl rfl rfl rfl ?_
          refine y_goto rfl rfl ?_
          have w59 : Xi T5 904 115 = Xi T1 904 115 := (show Xi T5 904 115 = Xi T4 904 115 from w58.x _ _ rfl).trans ((show Xi T4 904 115 = Xi T1 904 115 from w49.x _ _ rfl))
          have w60 : Xi T5 904 116 = Xi T1 904 116 := (show Xi T5 904 116 = Xi T4 904 116 from w58.x _ _ rfl).trans ((show Xi T4 904 116 = Xi T1 904 116 from w49.x _ _ rfl))
          have w61 : Xi T5 904 117 = Xi T1 904 117 := (show Xi T5 904 117 = Xi T4 904 117 from w58.x _ _ rfl).trans ((show Xi T4 904 117 = Xi T1 904 117 from w49.x _ _ rfl))
          have w62 : Xi T5 904 15 = Xi T1 904 15 := (show Xi T5 904 15 = Xi T4 904 15 from w58.x _ _ rfl).trans ((show Xi T4 904 15 = Xi T1 904 15 from w49.x _ _ rfl))
          have w63 : Xi T5 904 32 = Xi T1 904 32 := (show Xi T5 904 32 = Xi T4 904 32 from w58.x _ _ rfl).trans ((show Xi T4 904 32 = Xi T1 904 32 from w49.x _ _ rfl))
          have w64 : Xi T5 904 94 = Xi T1 904 94 := (show Xi T5 904 94 = Xi T4 904 94 from w58.x _ _ rfl).trans ((show Xi T4 904 94 = Xi T1 904 94 from w49.x _ _ rfl))
          exact Pl_weak (ih2 (by omega) T5 hHT5 hFT5 ((v1 + 1)) (by omega) (by omega) (by first | exact T42 | exact rfl)) (by omega) (And.intro rfl (And.intro rfl (True.intro)))
  refine y_iconst rfl ?_
  refine y_istore_n rfl rfl rfl ?_
  exact Pl_weak (C2 fu (by omega) S hH hF (0) (by omega) (by omega) (by first | exact T42 | exact rfl)) (by omega) (And.intro rfl (And.intro rfl (True.intro)))
end
section
/-! 2: the reference asks and does -/
def RA2 (lK lM lN lT : List rec) (P S1 : sS) : Prop := ∃ A C : sS, FR lK P A ∧ NT3 A = (if rnR P 0 0 = -1 then ntF (NT3 P) 4 (pR P 0) else NT3 P) ∧ FR lM (uI A 904 115 (Int32.ofInt (rnR P 0 0))) C ∧ MBN (uI A 904 115 (Int32.ofInt (rnR P 0 0))) C 1 (Xi P 904 23) 24 ∧ TSR lN lT C (Xi P 904 94).toNat S1
def RD2 (lA : List rec) (S S1 : sS) : Prop := ∃ A B : sS, FR lA S A ∧ ADJ S A (rnR S 0 0) (-1) ∧ B = uI (uI (uI A 923 (Xi S 904 23).toNat (Int32.ofInt (Xi S 904 117))) 924 (Xi S 904 23).toNat (Int32.ofInt (Xi S 904 94))) 904 117 (Int32.ofInt (Xi S 904 117 + Xi S 904 94)) ∧ TLR B S1 5 (Xi S 904 23) (Xj B 910 (Xi B 950 1).toNat) (if 1 < Xi B 951 1 then Xj B 910 (Xi B 950 1 + 1).toNat else 0) (if 2 < Xi B 951 1 then Xj B 910 (Xi B 950 1 + 2).toNat else 0) (Xi B 951 1) ∧ FR md_mo_tellRun__p B S1

def md_mo_doDefined__p : List rec := [(904, 905, 15, 16), (904, 905, 23, 24), (904, 905, 117, 118), (912, 913, 0, 100000), (913, 914, 0, 100000), (914, 915, 0, 100000), (915, 916, 0, 100000), (916, 917, 0, 100000), (921, 922, 0, 100000), (922, 923, 0, 100000), (923, 924, 0, 100000), (924, 925, 0, 100000)]
abbrev Q_mo_doDefined__p (S : sS) : pst := fun r S1 => RI S1 ∧ FR md_mo_doDefined__p S S1 ∧ (r = none ∧ (RD2 md_mo_addAdjective__p S S1))
set_option maxRecDepth 100000 in
theorem t_mo_doDefined__p {S : sS} (hH : RI S) (hLS : LSP S) (h15 : 0 ≤ Xi S 904 15) (hRB : RBD S) (ha : 0 ≤ Xi S 904 23 ∧ Xi S 904 23 ≤ 30) (h94 : 0 ≤ Xi S 904 94 ∧ Xi S 904 94 ≤ 1700) (h117 : 0 ≤ Xi S 904 117 ∧ Xi S 904 117 ≤ 2400) (d : Nat) : Mp lay0 (d + 5) m_mo_doDefined [.ref 904] S (Q_mo_doDefined__p S) := by
  refine Mp_R rfl rfl (fun fu => ?_)
  have hF : FR md_mo_doDefined__p S S := FR.rf
  have w1 : -2147483648 ≤ Xi S 904 117 ∧ Xi S 904 117 ≤ 2147483647 := Xi_rgI
  have w2 : -2147483648 ≤ Xi S 904 15 ∧ Xi S 904 15 ≤ 2147483647 := Xi_rgI
  have w3 : -2147483648 ≤ Xi S 904 23 ∧ Xi S 904 23 ≤ 2147483647 := Xi_rgI
  have w4 : -2147483648 ≤ Xi S 904 94 ∧ Xi S 904 94 ≤ 2147483647 := Xi_rgI
  refine y_aload_n rfl rfl ?_
  refine y_aload_n rfl rfl ?_
  refine y_iconst rfl ?_
  refine y_iconst rfl ?_
  refine y_callV rfl rfl rfl (t_mo_meansRun__p hH 0 0 ⟨by omega, by omega⟩ ⟨by omega, by omega⟩ (by first | assumption | exact (by assumption : LSP S)) (by first | assumption | omega) (by first | assumption | exact (RBD_FR hF rfl (by assumption : RBD S))) _) ?_
  rintro _ _ ⟨rfl, z5, rfl, w5, f4⟩
  show Pl _ _ _ _ _ _ [iv z5, .ref 904] _ _
  refine y_iconst rfl ?_
  refine y_callV rfl rfl rfl (t_mo_addAdjective__p hH z5 (-1) ⟨by omega, by omega⟩ ⟨by omega, by omega⟩ (by first | assumption | omega) _) ?_
  rintro _ T1 ⟨hHT1, w7, z6, rfl, w6, z8, x8⟩
  have hFT1 : FR md_mo_doDefined__p S T1 := FR.tr hF w7 rfl
  show Pl _ _ _ _ _ _ [iv z6] _ _
  have F8 := (by assumption : FR md_mo_addAdjective__p S T1)
  have X8 : ADJ S T1 (rnR S 0 0) (-1) := by have u := x8; rw [f4] at u; exact u
  refine y_istore_n rfl rfl rfl ?_
  refine y_aload_n rfl rfl ?_
  refine y_gfr rfl rfl rfl rfl rfl (hHT1.r 904 26 923 rfl) ?_
  refine y_iload_n rfl rfl ?_
  refine y_aload_n rfl rfl ?_
  refine y_gfi rfl rfl rfl rfl rfl ?_
  have w8 : (Xi T1 904 117) = (Xi S 904 117) := (show Xi T1 904 117 = Xi S 904 117 from w7.x _ _ rfl)
  rw [w8]
  refine y_iastoreP (n := 24) rfl rfl (by unfold rg; omega) (fun w9 w10 => ?_)
  obtain ⟨U2, eU2⟩ : ∃ T : sS, T = uI T1 923 ((z6).toNat) (Int32.ofInt (Xi S 904 117)) := ⟨_, rfl⟩
  rw [← eU2]
  have hHU2 : RI U2 := by rw [eU2]; exact RI_w hHT1
  have hFU2 : FR md_mo_doDefined__p S U2 := by rw [eU2]; exact FR.wI hFT1 (mdf_i (r := (923, 924, 0, 100000)) (List.mem_of_getElem? (i := 10) rfl) (inR_i (by omega) (by omega) (by omega) (by omega)))
  have w11 : Xi U2 923 ((z6).toNat) = (Xi S 904 117) := by rw [eU2]; exact Xi_same (by unfold rg; omega)
  have e21 := eU2
  refine y_aload_n rfl rfl ?_
  refine y_gfr rfl rfl rfl rfl rfl (hHU2.r 904 27 924 rfl) ?_
  refine y_iload_n rfl rfl ?_
  refine y_aload_n rfl rfl ?_
  refine y_gfi rfl rfl rfl rfl rfl ?_
  have w12 : (Xi U2 904 94) = (Xi S 904 94) := (show Xi U2 904 94 = Xi T1 904 94 from by rw [eU2]; exact Xi_ne (by omega)).trans ((show Xi T1 904 94 = Xi S 904 94 from w7.x _ _ rfl))
  rw [w12]
  refine y_iastoreP (n := 24) rfl rfl (by unfold rg; omega) (fun w13 w14 => ?_)
  obtain ⟨U3, eU3⟩ : ∃ T : sS, T = uI U2 924 ((z6).toNat) (Int32.ofInt (Xi S 904 94)) := ⟨_, rfl⟩
  rw [← eU3]
  have hHU3 : RI U3 := by rw [eU3]; exact RI_w hHU2
  have hFU3 : FR md_mo_doDefined__p S U3 := by rw [eU3]; exact FR.wI hFU2 (mdf_i (r := (924, 925, 0, 100000)) (List.mem_of_getElem? (i := 11) rfl) (inR_i (by omega) (by omega) (by omega) (by omega)))
  have w15 : Xi U3 924 ((z6).toNat) = (Xi S 904 94) := by rw [eU3]; exact Xi_same (by unfold rg; omega)
  have e31 := eU3
  refine y_aload_n rfl rfl ?_
  refine y_dup rfl rfl ?_
  refine y_gfi rfl rfl rfl rfl rfl ?_
  have w16 : (Xi U3 904 117) = (Xi S 904 117) := (show Xi U3 904 117 = Xi U2 904 117 from by rw [eU3]; exact Xi_ne (by omega)).trans ( (show Xi U2 904 117 = Xi T1 904 117 from by rw [eU2]; exact Xi_ne (by omega)).trans ((show Xi T1 904 117 = Xi S 904 117 from w7.x _ _ rfl)))
  rw [w16]
  refine y_aload_n rfl rfl ?_
  refine y_gfi rfl rfl rfl rfl rfl ?_
  have w17 : (Xi U3 904 94) = (Xi S 904 94) := (show Xi U3 904 94 = Xi U2 904 94 from by rw [eU3]; exact Xi_ne (by omega)).trans ( (show Xi U2 904 94 = Xi T1 904 94 from by rw [eU2]; exact Xi_ne (by omega)).trans ((show Xi T1 904 94 = Xi S 904 94 from w7.x _ _ rfl)))
  rw [w17]
  refine y_iadd rfl ?_
  refine y_pfi rfl rfl rfl rfl ?_
  obtain ⟨U4, eU4⟩ : ∃ T : sS, T = uI U3 904 117 (Int32.ofInt ((Xi S 904 117) + (Xi S 904 94))) := ⟨_, rfl⟩
  rw [← eU4]
  have hHU4 : RI U4 := by rw [eU4]; exact RI_w hHU3
  have hFU4 : FR md_mo_doDefined__p S U4 := by rw [eU4]; exact FR.wI hFU3 (mdf_i (r := (904, 905, 117, 118)) (List.mem_of_getElem? (i := 2) rfl) (inR_i (by omega) (by omega) (by omega) (by omega)))
  have w18 : Xi U4 904 117 = ((Xi S 904 117) + (Xi S 904 94)) := by rw [eU4]; exact Xi_same (by unfold rg; omega)
  have e42 := eU4
  have E42 := e42
  rw [e31, e21, z8] at E42
  refine y_aload_n rfl rfl ?_
  refine y_iconst rfl ?_
  refine y_iload_n rfl rfl ?_
  refine y_iconst rfl ?_
  refine y_callV rfl rfl rfl (t_mo_tellRun__p hHU4 5 z6 1 ⟨by omega, by omega⟩ ⟨by omega, by omega⟩ ⟨by omega, by omega⟩ (by first | assumption | exact (RBD_FR hFU4 rfl (by assumption : RBD S))) _) ?_
  rintro _ T5 ⟨hHT5, w22, rfl, o49⟩
  have hFT5 : FR md_mo_doDefined__p S T5 := FR.tr hFU4 w22 rfl
  show Pl _ _ _ _ _ _ [] _ _
  have F49 := (by assumption : FR md_mo_tellRun__p U4 T5)
  refine y_return rfl rfl ?_
  exact ⟨hHT5, hFT5, rfl, (⟨_, _, F8, X8, E42, by have u := o49; rw [z8] at u; exact u, F49⟩)⟩
def md_mo_does__2 : List rec := [(904, 905, 15, 16), (904, 905, 16, 17), (904, 905, 18, 19), (904, 905, 19, 20), (904, 905, 23, 24), (904, 905, 30, 31), (904, 905, 32, 33), (904, 905, 41, 42), (904, 905, 47, 48), (904, 905, 49, 50), (904, 905, 51, 52), (904, 905, 55, 56), (904, 905, 60, 61), (904, 905, 64, 65), (904, 905, 73, 74), (904, 905, 105, 106), (904, 905, 106, 107), (904, 905, 113, 114), (904, 905, 117, 118), (912, 913, 0, 100000), (913, 914, 0, 100000), (914, 915, 0, 100000), (915, 916, 0, 100000), (916, 917, 0, 100000), (917, 918, 0, 100000), (918, 919, 0, 100000), (919, 920, 0, 100000), (920, 921, 0, 100000), (921, 922, 0, 100000), (922, 923, 0, 100000), (923, 924, 0, 100000), (924, 925, 0, 100000), (925, 926, 0, 100000), (926, 927, 0, 100000), (927, 928, 0, 100000), (928, 929, 0, 100000), (929, 930, 0, 100000), (930, 931, 0, 100000), (931, 932, 0, 100000), (932, 933, 0, 100000), (933, 934, 0, 100000), (934, 935, 0, 100000), (935, 936, 0, 100000), (936, 937, 0, 100000), (937, 938, 0, 100000), (938, 939, 0, 100000), (939, 940, 0, 100000), (940, 941, 0, 100000), (941, 942, 0, 100000), (942, 943, 0, 100000), (943, 944, 0, 100000), (944, 945, 0, 100000), (945, 946, 0, 100000), (946, 947, 0, 100000), (947, 948, 0, 100000), (948, 949, 0, 100000), (949, 950, 0, 100000)]
abbrev Q_mo_does__2 (S : sS) (first : Int) : pst := fun r S1 => RI S1 ∧ FR md_mo_does__2 S S1 ∧ (r = none ∧ (RD2 md_mo_addAdjective__p S S1))
set_option maxRecDepth 100000 in
theorem t_mo_does__2 {S : sS} (hH : RI S) (first : Int) (hfirst : 0 ≤ first ∧ first ≤ 5001) (hLS : LSP S) (h15 : 0 ≤ Xi S 904 15) (hRB : RBD S) (ha : 0 ≤ Xi S 904 23 ∧ Xi S 904 23 ≤ 30) (h94 : 0 ≤ Xi S 904 94 ∧ Xi S 904 94 ≤ 1700) (h117 : 0 ≤ Xi S 904 117 ∧ Xi S 904 117 ≤ 2400) (hs : Xi S 904 70 = 2) (d : Nat) : Mp lay0 (d + 8) m_mo_does [.ref 904, iv first] S (Q_mo_does__2 S first) := by
  refine Mp_R rfl rfl (fun fu => ?_)
  have hF : FR md_mo_does__2 S S := FR.rf
  have w1 : -2147483648 ≤ Xi S 904 106 ∧ Xi S 904 106 ≤ 2147483647 := Xi_rgI
  have w2 : -2147483648 ≤ Xi S 904 117 ∧ Xi S 904 117 ≤ 2147483647 := Xi_rgI
  have w3 : -2147483648 ≤ Xi S 904 15 ∧ Xi S 904 15 ≤ 2147483647 := Xi_rgI
  have w4 : -2147483648 ≤ Xi S 904 23 ∧ Xi S 904 23 ≤ 2147483647 := Xi_rgI
  have w5 : -2147483648 ≤ Xi S 904 70 ∧ Xi S 904 70 ≤ 2147483647 := Xi_rgI
  have w6 : -2147483648 ≤ Xi S 904 94 ∧ Xi S 904 94 ≤ 2147483647 := Xi_rgI
  have C300 : ∀ (n300 : Nat) (_ : n300 ≤ fu) (T1 : sS) (_ : RI T1) (_ : FR md_mo_does__2 S T1) (v2 : Int), (-2147483648 ≤ v2 ∧ v2 ≤ 2147483647) → ((1 : Int) = 0) → Pl n300 lay0 (d + 7) m_mo_does 300 [(0, .ref 904), (2, iv v2)] [] T1 (Q_mo_does__2 S first) := by
    intro n300
    induction n300 with
    | zero => intros; exact Pl_0
    | succ n300 ih300 =>
      intro hm300 T1 hHT1 hFT1 v2 w7 w8
      have w9 : Xi T1 904 110 = Xi S 904 110 := hFT1.x _ _ rfl
      have w10 : Xi T1 904 112 = Xi S 904 112 := hFT1.x _ _ rfl
      have w11 : Xi T1 904 142 = Xi S 904 142 := hFT1.x _ _ rfl
      have w12 : Xi T1 904 69 = Xi S 904 69 := hFT1.x _ _ rfl
      have w13 : Xi T1 904 70 = Xi S 904 70 := hFT1.x _ _ rfl
      have w14 : Xi T1 904 71 = Xi S 904 71 := hFT1.x _ _ rfl
      have w15 : Xi T1 904 72 = Xi S 904 72 := hFT1.x _ _ rfl
      have w16 : Xi T1 904 74 = Xi S 904 74 := hFT1.x _ _ rfl
      have w17 : Xi T1 904 78 = Xi S 904 78 := hFT1.x _ _ rfl
      have w18 : Xi T1 904 94 = Xi S 904 94 := hFT1.x _ _ rfl
      have w19 : Xi T1 951 1 = Xi S 951 1 := hFT1.x _ _ rfl
      have w20 : Xi T1 951 2 = Xi S 951 2 := hFT1.x _ _ rfl
      have w21 : Xi T1 967 0 = Xi S 967 0 := hFT1.x _ _ rfl
      have w22 : -2147483648 ≤ Xi T1 904 106 ∧ Xi T1 904 106 ≤ 2147483647 := Xi_rgI
      have w23 : -2147483648 ≤ Xi T1 904 117 ∧ Xi T1 904 117 ≤ 2147483647 := Xi_rgI
      have w24 : -2147483648 ≤ Xi T1 904 15 ∧ Xi T1 904 15 ≤ 2147483647 := Xi_rgI
      have w25 : -2147483648 ≤ Xi T1 904 23 ∧ Xi T1 904 23 ≤ 2147483647 := Xi_rgI
      have w26 : -2147483648 ≤ Xi T1 904 70 ∧ Xi T1 904 70 ≤ 2147483647 := Xi_rgI
      have w27 : -2147483648 ≤ Xi T1 904 94 ∧ Xi T1 904 94 ≤ 2147483647 := Xi_rgI
      exfalso; omega
  refine y_aload_n rfl rfl ?_
  refine y_gfi rfl rfl rfl rfl rfl ?_
  refine y_tsw rfl rfl rfl rfl (by unfold rg; omega) (fun w28 => ?_) (fun ii tt hii w28 => ?_)
  · refine y_return rfl rfl ?_
    exact ⟨hH, hF, rfl, (by first | (have t := K153; exact o153) | (exfalso; omega))⟩
  · match ii, hii with
    | 0, hii =>
      cases hii
      have w29 : (Xi S 904 70) = 0 := by simpa using w28
      exfalso; omega
    | 1, hii =>
      cases hii
      have w30 : (Xi S 904 70) = 1 := by simpa using w28
      exfalso; omega
    | 2, hii =>
      cases hii
      have w31 : (Xi S 904 70) = 2 := by simpa using w28
      refine y_aload_n rfl rfl ?_
      refine y_callV rfl rfl rfl (t_mo_doDefined__p hH (by first | assumption | exact (by assumption : LSP S)) (by first | assumption | omega) (by first | assumption | exact (RBD_FR hF rfl (by assumption : RBD S))) (by first | assumption | omega) (by first | assumption | omega) (by first | assumption | omega) _) ?_
      rintro _ T2 ⟨hHT2, w33, rfl, o153⟩
      have hFT2 : FR md_mo_does__2 S T2 := FR.tr hF w33 rfl
      show Pl _ _ _ _ _ _ [] _ _
      have K153 : True := trivial
      refine y_goto rfl rfl ?_
      refine y_return rfl rfl ?_
      exact ⟨hHT2, hFT2, rfl, (by first | (have t := K153; exact o153) | (exfalso; omega))⟩
    | 3, hii =>
      cases hii
      have w37 : (Xi S 904 70) = 3 := by simpa using w28
      refine y_return rfl rfl ?_
      exact ⟨hH, hF, rfl, (by first | (have t := K153; exact o153) | (exfalso; omega))⟩
    | 4, hii =>
      cases hii
      have w38 : (Xi S 904 70) = 4 := by simpa using w28
      refine y_return rfl rfl ?_
      exact ⟨hH, hF, rfl, (by first | (have t := K153; exact o153) | (exfalso; omega))⟩
    | 5, hii =>
      cases hii
      have w39 : (Xi S 904 70) = 5 := by simpa using w28
      refine y_return rfl rfl ?_
      exact ⟨hH, hF, rfl, (by first | (have t := K153; exact o153) | (exfalso; omega))⟩
    | 6, hii =>
      cases hii
      have w40 : (Xi S 904 70) = 6 := by simpa using w28
      refine y_return rfl rfl ?_
      exact ⟨hH, hF, rfl, (by first | (have t := K153; exact o153) | (exfalso; omega))⟩
    | 7, hii =>
      cases hii
      have w41 : (Xi S 904 70) = 7 := by simpa using w28
      exfalso; omega
    | 8, hii =>
      cases hii
      have w42 : (Xi S 904 70) = 8 := by simpa using w28
      exfalso; omega
    | 9, hii =>
      cases hii
      have w43 : (Xi S 904 70) = 9 := by simpa using w28
      exfalso; omega
    | 10, hii =>
      cases hii
      have w44 : (Xi S 904 70) = 10 := by simpa using w28
      exfalso; omega
    | 11, hii =>
      cases hii
      have w45 : (Xi S 904 70) = 11 := by simpa using w28
      exfalso; omega
    | 12, hii =>
      cases hii
      have w46 : (Xi S 904 70) = 12 := by simpa using w28
      exfalso; omega
    | 13, hii =>
      cases hii
      have w47 : (Xi S 904 70) = 13 := by simpa using w28
      exfalso; omega
    | 14, hii =>
      cases hii
      have w48 : (Xi S 904 70) = 14 := by simpa using w28
      exfalso; omega
    | 15, hii =>
      cases hii
      have w49 : (Xi S 904 70) = 15 := by simpa using w28
      exfalso; omega
    | 16, hii =>
      cases hii
      have w50 : (Xi S 904 70) = 16 := by simpa using w28
      exfalso; omega
    | 17, hii =>
      cases hii
      have w51 : (Xi S 904 70) = 17 := by simpa using w28
      exfalso; omega
    | 18, hii =>
      cases hii
      have w52 : (Xi S 904 70) = 18 := by simpa using w28
      exfalso; omega
    | 19, hii =>
      cases hii
      have w53 : (Xi S 904 70) = 19 := by simpa using w28
      exfalso; omega
    | 20, hii =>
      cases hii
      have w54 : (Xi S 904 70) = 20 := by simpa using w28
      exfalso; omega
    | n + 21, hii => exact absurd hii (by simp)
def md_mo_asked__2 : List rec := [(904, 905, 64, 65), (904, 905, 104, 105), (904, 905, 105, 106), (904, 905, 106, 107), (904, 905, 108, 109), (904, 905, 109, 110), (904, 905, 110, 111), (904, 905, 112, 113), (904, 905, 113, 114), (904, 905, 115, 116), (904, 905, 116, 117), (904, 905, 117, 118), (904, 905, 125, 126), (904, 905, 128, 129), (904, 905, 129, 130), (904, 905, 130, 131), (904, 905, 142, 143), (904, 905, 144, 145), (904, 905, 146, 147), (904, 905, 147, 148), (904, 905, 150, 151), (904, 905, 151, 152), (904, 905, 153, 154), (904, 905, 154, 155), (904, 905, 156, 157), (904, 905, 157, 158), (904, 905, 158, 159), (904, 905, 160, 161), (966, 967, 0, 100000), (967, 968, 0, 100000), (968, 969, 0, 100000), (969, 970, 0, 100000), (970, 971, 0, 100000), (971, 972, 0, 100000), (972, 973, 0, 100000), (973, 974, 0, 100000), (974, 975, 0, 100000), (975, 976, 0, 100000), (976, 977, 0, 100000), (977, 978, 0, 100000), (978, 979, 0, 100000), (979, 980, 0, 100000), (980, 981, 0, 100000), (981, 982, 0, 100000), (982, 983, 0, 100000), (983, 984, 0, 100000), (984, 985, 0, 100000), (985, 986, 0, 100000), (986, 987, 0, 100000), (987, 988, 0, 100000), (988, 989, 0, 100000), (989, 990, 0, 100000), (990, 991, 0, 100000), (991, 992, 0, 100000), (992, 993, 0, 100000), (993, 994, 0, 100000), (994, 995, 0, 100000)]
abbrev Q_mo_asked__2 (S : sS) (first : Int) : pst := fun r S1 => RI S1 ∧ FR md_mo_asked__2 S S1 ∧ (r = none ∧ (∃ P : sS, FR lA S P ∧ (Xi P 904 106 = 0 ∧ Xi P 904 108 = 0 ∧ Xi P 904 116 = -1) ∧ RA2 md_mo_kindOfRun__p md_mo_mustBeNew__p md_mo_need__p md_mo_testMeant__p P S1))
set_option maxRecDepth 100000 in
theorem t_mo_asked__2 {S : sS} (hH : RI S) (first : Int) (hfirst : 0 ≤ first ∧ first ≤ 5001) (hLS : LSP S) (h15 : 0 ≤ Xi S 904 15) (hRB : RBD S) (hB : ABV S) (hkx : Hid (∀ j : Nat, -1 ≤ Xi S 918 j ∧ Xi S 918 j ≤ 15)) (hLX : LXR S) (hp32 : 0 ≤ Xi S 904 32 ∧ Xi S 904 32 ≤ 12) (h94 : 0 ≤ Xi S 904 94 ∧ Xi S 904 94 ≤ 1700) (h117 : 0 ≤ Xi S 904 117 ∧ Xi S 904 117 + Xi S 904 94 ≤ 2400) (htk : Hid (∀ k : Nat, (k : Int) < Xi S 904 94 → TRK S k)) (hs : Xi S 904 70 = 2) (hk0 : -1 ≤ rnR S 0 0 ∧ rnR S 0 0 ≤ 15) (d : Nat) : Mp lay0 (d + 13) m_mo_asked [.ref 904, iv first] S (Q_mo_asked__2 S first) := by
  refine Mp_R rfl rfl (fun fu => ?_)
  have hF : FR md_mo_asked__2 S S := FR.rf
  have w1 : -2147483648 ≤ Xi S 904 106 ∧ Xi S 904 106 ≤ 2147483647 := Xi_rgI
  have w2 : -2147483648 ≤ Xi S 904 108 ∧ Xi S 904 108 ≤ 2147483647 := Xi_rgI
  have w3 : -2147483648 ≤ Xi S 904 115 ∧ Xi S 904 115 ≤ 2147483647 := Xi_rgI
  have w4 : -2147483648 ≤ Xi S 904 116 ∧ Xi S 904 116 ≤ 2147483647 := Xi_rgI
  have w5 : -2147483648 ≤ Xi S 904 117 ∧ Xi S 904 117 ≤ 2147483647 := Xi_rgI
  have w6 : -2147483648 ≤ Xi S 904 15 ∧ Xi S 904 15 ≤ 2147483647 := Xi_rgI
  have w7 : -2147483648 ≤ Xi S 904 23 ∧ Xi S 904 23 ≤ 2147483647 := Xi_rgI
  have w8 : -2147483648 ≤ Xi S 904 32 ∧ Xi S 904 32 ≤ 2147483647 := Xi_rgI
  have w9 : -2147483648 ≤ Xi S 904 70 ∧ Xi S 904 70 ≤ 2147483647 := Xi_rgI
  have w10 : -2147483648 ≤ Xi S 904 94 ∧ Xi S 904 94 ≤ 2147483647 := Xi_rgI
  refine y_aload_n rfl rfl ?_
  refine y_iconst rfl ?_
  refine y_pfi rfl rfl rfl rfl ?_
  obtain ⟨U1, eU1⟩ : ∃ T : sS, T = uI S 904 106 (Int32.ofInt 0) := ⟨_, rfl⟩
  rw [← eU1]
  have hHU1 : RI U1 := by rw [eU1]; exact RI_w hH
  have hFU1 : FR md_mo_asked__2 S U1 := by rw [eU1]; exact FR.wI hF (mdf_i (r := (904, 905, 106, 107)) (List.mem_of_getElem? (i := 3) rfl) (inR_i (by omega) (by omega) (by omega) (by omega)))
  have w11 : Xi U1 904 106 = 0 := by rw [eU1]; exact Xi_same (by unfold rg; omega)
  have FA2 : FR lA S U1 := by rw [eU1]; exact FR.wI FR.rf (mdf_i (r := (904, 905, 106, 107)) (List.mem_of_getElem? (i := 0) rfl) (inR_i (by omega) (by omega) (by omega) (by omega)))
  refine y_aload_n rfl rfl ?_
  refine y_iconst rfl ?_
  refine y_pfi rfl rfl rfl rfl ?_
  obtain ⟨U2, eU2⟩ : ∃ T : sS, T = uI U1 904 108 (Int32.ofInt 0) := ⟨_, rfl⟩
  rw [← eU2]
  have hHU2 : RI U2 := by rw [eU2]; exact RI_w hHU1
  have hFU2 : FR md_mo_asked__2 S U2 := by rw [eU2]; exact FR.wI hFU1 (mdf_i (r := (904, 905, 108, 109)) (List.mem_of_getElem? (i := 4) rfl) (inR_i (by omega) (by omega) (by omega) (by omega)))
  have w12 : Xi U2 904 108 = 0 := by rw [eU2]; exact Xi_same (by unfold rg; omega)
  have FA7 : FR lA S U2 := by rw [eU2]; exact FR.wI FA2 (mdf_i (r := (904, 905, 108, 109)) (List.mem_of_getElem? (i := 1) rfl) (inR_i (by omega) (by omega) (by omega) (by omega)))
  refine y_aload_n rfl rfl ?_
  refine y_iconst rfl ?_
  refine y_pfi rfl rfl rfl rfl ?_
  obtain ⟨U3, eU3⟩ : ∃ T : sS, T = uI U2 904 115 (Int32.ofInt (-1)) := ⟨_, rfl⟩
  rw [← eU3]
  have hHU3 : RI U3 := by rw [eU3]; exact RI_w hHU2
  have hFU3 : FR md_mo_asked__2 S U3 := by rw [eU3]; exact FR.wI hFU2 (mdf_i (r := (904, 905, 115, 116)) (List.mem_of_getElem? (i := 9) rfl) (inR_i (by omega) (by omega) (by omega) (by omega)))
  have w13 : Xi U3 904 115 = (-1) := by rw [eU3]; exact Xi_same (by unfold rg; omega)
  have FA12 : FR lA S U3 := by rw [eU3]; exact FR.wI FA7 (mdf_i (r := (904, 905, 115, 116)) (List.mem_of_getElem? (i := 2) rfl) (inR_i (by omega) (by omega) (by omega) (by omega)))
  refine y_aload_n rfl rfl ?_
  refine y_iconst rfl ?_
  refine y_pfi rfl rfl rfl rfl ?_
  obtain ⟨U4, eU4⟩ : ∃ T : sS, T = uI U3 904 116 (Int32.ofInt (-1)) := ⟨_, rfl⟩
  rw [← eU4]
  have hHU4 : RI U4 := by rw [eU4]; exact RI_w hHU3
  have hFU4 : FR md_mo_asked__2 S U4 := by rw [eU4]; exact FR.wI hFU3 (mdf_i (r := (904, 905, 116, 117)) (List.mem_of_getElem? (i := 10) rfl) (inR_i (by omega) (by omega) (by omega) (by omega)))
  have w14 : Xi U4 904 116 = (-1) := by rw [eU4]; exact Xi_same (by unfold rg; omega)
  have FA17 : FR lA S U4 := by rw [eU4]; exact FR.wI FA12 (mdf_i (r := (904, 905, 116, 117)) (List.mem_of_getElem? (i := 3) rfl) (inR_i (by omega) (by omega) (by omega) (by omega)))
  refine y_aload_n rfl rfl ?_
  refine y_gfi rfl rfl rfl rfl rfl ?_
  have w15 : (Xi U4 904 70) = (Xi S 904 70) := (show Xi U4 904 70 = Xi U3 904 70 from by rw [eU4]; exact Xi_ne (by omega)).trans ( (show Xi U3 904 70 = Xi U2 904 70 from by rw [eU3]; exact Xi_ne (by omega)).trans ( (show Xi U2 904 70 = Xi U1 904 70 from by rw [eU2]; exact Xi_ne (by omega)).trans ((show Xi U1 904 70 = Xi S 904 70 from by rw [eU1]; exact Xi_ne (by omega)))))
  rw [w15]
  refine y_tsw rfl rfl rfl rfl (by unfold rg; omega) (fun w16 => ?_) (fun ii tt hii w16 => ?_)
  · exfalso; omega
  · match ii, hii with
    | 0, hii =>
      cases hii
      have w17 : (Xi S 904 70) = 0 := by simpa using w16
      exfalso; omega
    | 1, hii =>
      cases hii
      have w18 : (Xi S 904 70) = 1 := by simpa using w16
      exfalso; omega
    | 2, hii =>
      cases hii
      have w19 : (Xi S 904 70) = 2 := by simpa using w16
      refine y_aload_n rfl rfl ?_
      refine y_aload_n rfl rfl ?_
      refine y_iconst rfl ?_
      have w20 : Xi U4 904 106 = Xi U1 904 106 := (show Xi U4 904 106 = Xi U3 904 106 from by rw [eU4]; exact Xi_ne (by omega)).trans ( (show Xi U3 904 106 = Xi U2 904 106 from by rw [eU3]; exact Xi_ne (by omega)).trans ((show Xi U2 904 106 = Xi U1 904 106 from by rw [eU2]; exact Xi_ne (by omega))))
      have w21 : Xi U4 904 108 = Xi U2 904 108 := (show Xi U4 904 108 = Xi U3 904 108 from by rw [eU4]; exact Xi_ne (by omega)).trans ((show Xi U3 904 108 = Xi U2 904 108 from by rw [eU3]; exact Xi_ne (by omega)))
      have w22 : Xi U4 904 115 = Xi U3 904 115 := (show Xi U4 904 115 = Xi U3 904 115 from by rw [eU4]; exact Xi_ne (by omega))
      have w23 : Xi U4 904 117 = Xi S 904 117 := (show Xi U4 904 117 = Xi U3 904 117 from by rw [eU4]; exact Xi_ne (by omega)).trans ( (show Xi U3 904 117 = Xi U2 904 117 from by rw [eU3]; exact Xi_ne (by omega)).trans ( (show Xi U2 904 117 = Xi U1 904 117 from by rw [eU2]; exact Xi_ne (by omega)).trans ((show Xi U1 904 117 = Xi S 904 117 from by rw [eU1]; exact Xi_ne (by omega)))))
      have w24 : Xi U4 904 15 = Xi S 904 15 := (show Xi U4 904 15 = Xi U3 904 15 from by rw [eU4]; exact Xi_ne (by omega)).trans ( (show Xi U3 904 15 = Xi U2 904 15 from by rw [eU3]; exact Xi_ne (by omega)).trans ( (show Xi U2 904 15 = Xi U1 904 15 from by rw [eU2]; exact Xi_ne (by omega)).trans ((show Xi U1 904 15 = Xi S 904 15 from by rw [eU1]; exact Xi_ne (by omega)))))
      have w25 : Xi U4 904 23 = Xi S 904 23 := (show Xi U4 904 23 = Xi U3 904 23 from by rw [eU4]; exact Xi_ne (by omega)).trans ( (show Xi U3 904 23 = Xi U2 904 23 from by rw [eU3]; exact Xi_ne (by omega)).trans ( (show Xi U2 904 23 = Xi U1 904 23 from by rw [eU2]; exact Xi_ne (by omega)).trans ((show Xi U1 904 23 = Xi S 904 23 from by rw [eU1]; exact Xi_ne (by omega)))))
      have w26 : Xi U4 904 32 = Xi S 904 32 := (show Xi U4 904 32 = Xi U3 904 32 from by rw [eU4]; exact Xi_ne (by omega)).trans ( (show Xi U3 904 32 = Xi U2 904 32 from by rw [eU3]; exact Xi_ne (by omega)).trans ( (show Xi U2 904 32 = Xi U1 904 32 from by rw [eU2]; exact Xi_ne (by omega)).trans ((show Xi U1 904 32 = Xi S 904 32 from by rw [eU1]; exact Xi_ne (by omega)))))
      have w27 : Xi U4 904 70 = Xi S 904 70 := (show Xi U4 904 70 = Xi U3 904 70 from by rw [eU4]; exact Xi_ne (by omega)).trans ( (show Xi U3 904 70 = Xi U2 904 70 from by rw [eU3]; exact Xi_ne (by omega)).trans ( (show Xi U2 904 70 = Xi U1 904 70 from by rw [eU2]; exact Xi_ne (by omega)).trans ((show Xi U1 904 70 = Xi S 904 70 from by rw [eU1]; exact Xi_ne (by omega)))))
      have w28 : Xi U4 904 94 = Xi S 904 94 := (show Xi U4 904 94 = Xi U3 904 94 from by rw [eU4]; exact Xi_ne (by omega)).trans ( (show Xi U3 904 94 = Xi U2 904 94 from by rw [eU3]; exact Xi_ne (by omega)).trans ( (show Xi U2 904 94 = Xi U1 904 94 from by rw [eU2]; exact Xi_ne (by omega)).trans ((show Xi U1 904 94 = Xi S 904 94 from by rw [eU1]; exact Xi_ne (by omega)))))
      refine y_callV rfl rfl rfl (t_mo_kindOfRun__p hHU4 0 ⟨by omega, by omega⟩ (by first | assumption | exact (LSP_FR hFU4 rfl rfl (by assumption : LSP S))) (by first | assumption | omega) (by first | assumption | exact (RBD_FR hFU4 rfl (by assumption : RBD S))) _) ?_
      rintro _ T5 ⟨hHT5, w30, z29, rfl, w29, f159, n159⟩
      have hFT5 : FR md_mo_asked__2 S T5 := FR.tr hFU4 w30 rfl
      show Pl _ _ _ _ _ _ [iv z29, .ref 904] _ _
      have F159 := (by assumption : FR md_mo_kindOfRun__p U4 T5)
      have z159 : Xi U4 904 106 = 0 ∧ Xi U4 904 108 = 0 ∧ Xi U4 904 116 = -1 := ⟨by omega, by omega, by omega⟩
      have r159 : rnR U4 0 0 = rnR S 0 0 := rnR_sm (SMR_FR FA17 rfl rfl)
      refine y_pfi rfl rfl rfl rfl ?_
      obtain ⟨U6, eU6⟩ : ∃ T : sS, T = uI T5 904 115 (Int32.ofInt z29) := ⟨_, rfl⟩
      rw [← eU6]
      have hHU6 : RI U6 := by rw [eU6]; exact RI_w hHT5
      have hFU6 : FR md_mo_asked__2 S U6 := by rw [eU6]; exact FR.wI hFT5 (mdf_i (r := (904, 905, 115, 116)) (List.mem_of_getElem? (i := 9) rfl) (inR_i (by omega) (by omega) (by omega) (by omega)))
      have w31 : Xi U6 904 115 = z29 := by rw [eU6]; exact Xi_same (by unfold rg; omega)
      have e162 := eU6
      refine y_aload_n rfl rfl ?_
      refine y_iconst rfl ?_
      refine y_aload_n rfl rfl ?_
      refine y_gfi rfl rfl rfl rfl rfl ?_
      have w32 : (Xi U6 904 23) = (Xi S 904 23) := (show Xi U6 904 23 = Xi T5 904 23 from by rw [eU6]; exact Xi_ne (by omega)).trans ( (show Xi T5 904 23 = Xi U4 904 23 from w30.x _ _ rfl).trans ( (show Xi U4 904 23 = Xi U3 904 23 from by rw [eU4]; exact Xi_ne (by omega)).trans ( (show Xi U3 904 23 = Xi U2 904 23 from by rw [eU3]; exact Xi_ne (by omega)).trans ( (show Xi U2 904 23 = Xi U1 904 23 from by rw [eU2]; exact Xi_ne (by omega)).trans ((show Xi U1 904 23 = Xi S 904 23 from by rw [eU1]; exact Xi_ne (by omega)))))))
      rw [w32]
      refine y_bipush rfl rfl ?_
      have w33 : Xi U6 904 106 = Xi T5 904 106 := (show Xi U6 904 106 = Xi T5 904 106 from by rw [eU6]; exact Xi_ne (by omega))
      have w34 : Xi U6 904 108 = Xi U2 904 108 := (show Xi U6 904 108 = Xi T5 904 108 from by rw [eU6]; exact Xi_ne (by omega)).trans ( (show Xi T5 904 108 = Xi U4 904 108 from w30.x _ _ rfl).trans ( (show Xi U4 904 108 = Xi U3 904 108 from by rw [eU4]; exact Xi_ne (by omega)).trans ((show Xi U3 904 108 = Xi U2 904 108 from by rw [eU3]; exact Xi_ne (by omega)))))
      have w35 : Xi U6 904 116 = Xi U4 904 116 := (show Xi U6 904 116 = Xi T5 904 116 from by rw [eU6]; exact Xi_ne (by omega)).trans ((show Xi T5 904 116 = Xi U4 904 116 from w30.x _ _ rfl))
      have w36 : Xi U6 904 117 = Xi S 904 117 := (show Xi U6 904 117 = Xi T5 904 117 from by rw [eU6]; exact Xi_ne (by omega)).trans ( (show Xi T5 904 117 = Xi U4 904 117 from w30.x _ _ rfl).trans ( (show Xi U4 904 117 = Xi U3 904 117 from by rw [eU4]; exact Xi_ne (by omega)).trans ( (show Xi U3 904 117 = Xi U2 904 117 from by rw [eU3]; exact Xi_ne (by omega)).trans ( (show Xi U2 904 117 = Xi U1 904 117 from by rw [eU2]; exact Xi_ne (by omega)).trans ((show Xi U1 904 117 = Xi S 904 117 from by rw [eU1]; exact Xi_ne (by omega)))))))
      have w37 : Xi U6 904 15 = Xi S 904 15 := (show Xi U6 904 15 = Xi T5 904 15 from by rw [eU6]; exact Xi_ne (by omega)).trans ( (show Xi T5 904 15 = Xi U4 904 15 from w30.x _ _ rfl).trans ( (show Xi U4 904 15 = Xi U3 904 15 from by rw [eU4]; exact Xi_ne (by omega)).trans ( (show Xi U3 904 15 = Xi U2 904 15 from by rw [eU3]; exact Xi_ne (by omega)).trans ( (show Xi U2 904 15 = Xi U1 904 15 from by rw [eU2]; exact Xi_ne (by omega)).trans ((show Xi U1 904 15 = Xi S 904 15 from by rw [eU1]; exact Xi_ne (by omega)))))))
      have w38 : Xi U6 904 23 = Xi S 904 23 := (show Xi U6 904 23 = Xi T5 904 23 from by rw [eU6]; exact Xi_ne (by omega)).trans ( (show Xi T5 904 23 = Xi U4 904 23 from w30.x _ _ rfl).trans ( (show Xi U4 904 23 = Xi U3 904 23 from by rw [eU4]; exact Xi_ne (by omega)).trans ( (show Xi U3 904 23 = Xi U2 904 23 from by rw [eU3]; exact Xi_ne (by omega)).trans ( (show Xi U2 904 23 = Xi U1 904 23 from by rw [eU2]; exact Xi_ne (by omega)).trans ((show Xi U1 904 23 = Xi S 904 23 from by rw [eU1]; exact Xi_ne (by omega)))))))
      have w39 : Xi U6 904 32 = Xi S 904 32 := (show Xi U6 904 32 = Xi T5 904 32 from by rw [eU6]; exact Xi_ne (by omega)).trans ( (show Xi T5 904 32 = Xi U4 904 32 from w30.x _ _ rfl).trans ( (show Xi U4 904 32 = Xi U3 904 32 from by rw [eU4]; exact Xi_ne (by omega)).trans ( (show Xi U3 904 32 = Xi U2 904 32 from by rw [eU3]; exact Xi_ne (by omega)).trans ( (show Xi U2 904 32 = Xi U1 904 32 from by rw [eU2]; exact Xi_ne (by omega)).trans ((show Xi U1 904 32 = Xi S 904 32 from by rw [eU1]; exact Xi_ne (by omega)))))))
      have w40 : Xi U6 904 70 = Xi S 904 70 := (show Xi U6 904 70 = Xi T5 904 70 from by rw [eU6]; exact Xi_ne (by omega)).trans ( (show Xi T5 904 70 = Xi U4 904 70 from w30.x _ _ rfl).trans ( (show Xi U4 904 70 = Xi U3 904 70 from by rw [eU4]; exact Xi_ne (by omega)).trans ( (show Xi U3 904 70 = Xi U2 904 70 from by rw [eU3]; exact Xi_ne (by omega)).trans ( (show Xi U2 904 70 = Xi U1 904 70 from by rw [eU2]; exact Xi_ne (by omega)).trans ((show Xi U1 904 70 = Xi S 904 70 from by rw [eU1]; exact Xi_ne (by omega)))))))
      have w41 : Xi U6 904 94 = Xi S 904 94 := (show Xi U6 904 94 = Xi T5 904 94 from by rw [eU6]; exact Xi_ne (by omega)).trans ( (show Xi T5 904 94 = Xi U4 904 94 from w30.x _ _ rfl).trans ( (show Xi U4 904 94 = Xi U3 904 94 from by rw [eU4]; exact Xi_ne (by omega)).trans ( (show Xi U3 904 94 = Xi U2 904 94 from by rw [eU3]; exact Xi_ne (by omega)).trans ( (show Xi U2 904 94 = Xi U1 904 94 from by rw [eU2]; exact Xi_ne (by omega)).trans ((show Xi U1 904 94 = Xi S 904 94 from by rw [eU1]; exact Xi_ne (by omega)))))))
      refine y_callV rfl rfl rfl (t_mo_mustBeNew__p hHU6 1 (Xi S 904 23) 24 ⟨by omega, by omega⟩ ⟨by omega, by omega⟩ ⟨by omega, by omega⟩ (by first | assumption | exact (LSP_FR hFU6 rfl rfl (by assumption : LSP S))) (by first | assumption | omega) (by first | assumption | exact (RBD_FR hFU6 rfl (by assumption : RBD S))) (by first | assumption | omega) _) ?_
      rintro _ T7 ⟨hHT7, w43, rfl, y173, n173⟩
      have hFT7 : FR md_mo_asked__2 S T7 := FR.tr hFU6 w43 rfl
      show Pl _ _ _ _ _ _ [] _ _
      have E173 : U6 = uI T5 904 115 (Int32.ofInt (rnR U4 0 0)) := by have u := e162; rw [f159] at u; exact u
      have F173 : FR md_mo_mustBeNew__p (uI T5 904 115 (Int32.ofInt (rnR U4 0 0))) T7 := by rw [← E173]; assumption
      have M173 : MBN (uI T5 904 115 (Int32.ofInt (rnR U4 0 0))) T7 1 (Xi U4 904 23) 24 := by rw [← E173]; first | exact ⟨y173, n173⟩ | (have u : Xi U4 904 23 = Xi S 904 23 := (by omega); rw [u]; exact ⟨y173, n173⟩)
      clear y173 n173
      refine y_aload_n rfl rfl ?_
      have w44 : Xi T7 904 115 = Xi U6 904 115 := (show Xi T7 904 115 = Xi U6 904 115 from w43.x _ _ rfl)
      have w45 : Xi T7 904 116 = Xi U4 904 116 := (show Xi T7 904 116 = Xi U6 904 116 from w43.x _ _ rfl).trans ( (show Xi U6 904 116 = Xi T5 904 116 from by rw [eU6]; exact Xi_ne (by omega)).trans ((show Xi T5 904 116 = Xi U4 904 116 from w30.x _ _ rfl)))
      have w46 : Xi T7 904 117 = Xi S 904 117 := (show Xi T7 904 117 = Xi U6 904 117 from w43.x _ _ rfl).trans ( (show Xi U6 904 117 = Xi T5 904 117 from by rw [eU6]; exact Xi_ne (by omega)).trans ( (show Xi T5 904 117 = Xi U4 904 117 from w30.x _ _ rfl).trans ( (show Xi U4 904 117 = Xi U3 904 117 from by rw [eU4]; exact Xi_ne (by omega)).trans ( (show Xi U3 904 117 = Xi U2 904 117 from by rw [eU3]; exact Xi_ne (by omega)).trans ( (show Xi U2 904 117 = Xi U1 904 117 from by rw [eU2]; exact Xi_ne (by omega)).trans ((show Xi U1 904 117 = Xi S 904 117 from by rw [eU1]; exact Xi_ne (by omega))))))))
      have w47 : Xi T7 904 15 = Xi S 904 15 := (show Xi T7 904 15 = Xi U6 904 15 from w43.x _ _ rfl).trans ( (show Xi U6 904 15 = Xi T5 904 15 from by rw [eU6]; exact Xi_ne (by omega)).trans ( (show Xi T5 904 15 = Xi U4 904 15 from w30.x _ _ rfl).trans ( (show Xi U4 904 15 = Xi U3 904 15 from by rw [eU4]; exact Xi_ne (by omega)).trans ( (show Xi U3 904 15 = Xi U2 904 15 from by rw [eU3]; exact Xi_ne (by omega)).trans ( (show Xi U2 904 15 = Xi U1 904 15 from by rw [eU2]; exact Xi_ne (by omega)).trans ((show Xi U1 904 15 = Xi S 904 15 from by rw [eU1]; exact Xi_ne (by omega))))))))
      have w48 : Xi T7 904 23 = Xi S 904 23 := (show Xi T7 904 23 = Xi U6 904 23 from w43.x _ _ rfl).trans ( (show Xi U6 904 23 = Xi T5 904 23 from by rw [eU6]; exact Xi_ne (by omega)).trans ( (show Xi T5 904 23 = Xi U4 904 23 from w30.x _ _ rfl).trans ( (show Xi U4 904 23 = Xi U3 904 23 from by rw [eU4]; exact Xi_ne (by omega)).trans ( (show Xi U3 904 23 = Xi U2 904 23 from by rw [eU3]; exact Xi_ne (by omega)).trans ( (show Xi U2 904 23 = Xi U1 904 23 from by rw [eU2]; exact Xi_ne (by omega)).trans ((show Xi U1 904 23 = Xi S 904 23 from by rw [eU1]; exact Xi_ne (by omega))))))))
      have w49 : Xi T7 904 32 = Xi S 904 32 := (show Xi T7 904 32 = Xi U6 904 32 from w43.x _ _ rfl).trans ( (show Xi U6 904 32 = Xi T5 904 32 from by rw [eU6]; exact Xi_ne (by omega)).trans ( (show Xi T5 904 32 = Xi U4 904 32 from w30.x _ _ rfl).trans ( (show Xi U4 904 32 = Xi U3 904 32 from by rw [eU4]; exact Xi_ne (by omega)).trans ( (show Xi U3 904 32 = Xi U2 904 32 from by rw [eU3]; exact Xi_ne (by omega)).trans ( (show Xi U2 904 32 = Xi U1 904 32 from by rw [eU2]; exact Xi_ne (by omega)).trans ((show Xi U1 904 32 = Xi S 904 32 from by rw [eU1]; exact Xi_ne (by omega))))))))
      have w50 : Xi T7 904 70 = Xi S 904 70 := (show Xi T7 904 70 = Xi U6 904 70 from w43.x _ _ rfl).trans ( (show Xi U6 904 70 = Xi T5 904 70 from by rw [eU6]; exact Xi_ne (by omega)).trans ( (show Xi T5 904 70 = Xi U4 904 70 from w30.x _ _ rfl).trans ( (show Xi U4 904 70 = Xi U3 904 70 from by rw [eU4]; exact Xi_ne (by omega)).trans ( (show Xi U3 904 70 = Xi U2 904 70 from by rw [eU3]; exact Xi_ne (by omega)).trans ( (show Xi U2 904 70 = Xi U1 904 70 from by rw [eU2]; exact Xi_ne (by omega)).trans ((show Xi U1 904 70 = Xi S 904 70 from by rw [eU1]; exact Xi_ne (by omega))))))))
      have w51 : Xi T7 904 94 = Xi S 904 94 := (show Xi T7 904 94 = Xi U6 904 94 from w43.x _ _ rfl).trans ( (show Xi U6 904 94 = Xi T5 904 94 from by rw [eU6]; exact Xi_ne (by omega)).trans ( (show Xi T5 904 94 = Xi U4 904 94 from w30.x _ _ rfl).trans ( (show Xi U4 904 94 = Xi U3 904 94 from by rw [eU4]; exact Xi_ne (by omega)).trans ( (show Xi U3 904 94 = Xi U2 904 94 from by rw [eU3]; exact Xi_ne (by omega)).trans ( (show Xi U2 904 94 = Xi U1 904 94 from by rw [eU2]; exact Xi_ne (by omega)).trans ((show Xi U1 904 94 = Xi S 904 94 from by rw [eU1]; exact Xi_ne (by omega))))))))
      refine y_callV rfl rfl rfl (t_mo_testsMeant__p hHT7 (by first | assumption | exact (LSP_FR hFT7 rfl rfl (by assumption : LSP S))) (by first | assumption | omega) (by first | assumption | exact (RBD_FR hFT7 rfl (by assumption : RBD S))) (by first | assumption | exact (ABV_FR hFT7 rfl (by assumption : ABV S))) (fun j => by rw [hFT7.x 918 j rfl]; exact hkx.o j) (by first | assumption | omega) (LXR_FR hFT7 rfl rfl hLX) (by first | assumption | omega) (by first | assumption | omega) (by first | assumption | omega) (fun k hk => TRK_F hFT7 (SMR_FR hFT7 rfl rfl) rfl rfl (htk.o k (by omega))) _) ?_
      rintro _ T8 ⟨hHT8, w53, rfl, o177⟩
      have hFT8 : FR md_mo_asked__2 S T8 := FR.tr hFT7 w53 rfl
      show Pl _ _ _ _ _ _ [] _ _
      have K177 : True := trivial
      have o177_ : TSR md_mo_need__p md_mo_testMeant__p T7 (Xi U4 904 94).toNat T8 := by have u := o177; rw [show Xi T7 904 94 = Xi U4 904 94 by omega] at u; exact u
      refine y_goto rfl rfl ?_
      refine y_return rfl rfl ?_
      have w54 : Xi T8 904 108 = Xi T7 904 108 := (show Xi T8 904 108 = Xi T7 904 108 from w53.x _ _ rfl)
      have w55 : Xi T8 904 115 = Xi U6 904 115 := (show Xi T8 904 115 = Xi T7 904 115 from w53.x _ _ rfl).trans ((show Xi T7 904 115 = Xi U6 904 115 from w43.x _ _ rfl))
      have w56 : Xi T8 904 116 = Xi U4 904 116 := (show Xi T8 904 116 = Xi T7 904 116 from w53.x _ _ rfl).trans ( (show Xi T7 904 116 = Xi U6 904 116 from w43.x _ _ rfl).trans ( (show Xi U6 904 116 = Xi T5 904 116 from by rw [eU6]; exact Xi_ne (by omega)).trans ((show Xi T5 904 116 = Xi U4 904 116 from w30.x _ _ rfl))))
      have w57 : Xi T8 904 117 = Xi S 904 117 := (show Xi T8 904 117 = Xi T7 904 117 from w53.x _ _ rfl).trans ( (show Xi T7 904 117 = Xi U6 904 117 from w43.x _ _ rfl).trans ( (show Xi U6 904 117 = Xi T5 904 117 from by rw [eU6]; exact Xi_ne (by omega)).trans ( (show Xi T5 904 117 = Xi U4 904 117 from w30.x _ _ rfl).trans ( (show Xi U4 904 117 = Xi U3 904 117 from by rw [eU4]; exact Xi_ne (by omega)).trans ( (show Xi U3 904 117 = Xi U2 904 117 from by rw [eU3]; exact Xi_ne (by omega)).trans ( (show Xi U2 904 117 = Xi U1 904 117 from by rw [eU2]; exact Xi_ne (by omega)).trans ((show Xi U1 904 117 = Xi S 904 117 from by rw [eU1]; exact Xi_ne (by omega)))))))))
      have w58 : Xi T8 904 15 = Xi S 904 15 := (show Xi T8 904 15 = Xi T7 904 15 from w53.x _ _ rfl).trans ( (show Xi T7 904 15 = Xi U6 904 15 from w43.x _ _ rfl).trans ( (show Xi U6 904 15 = Xi T5 904 15 from by rw [eU6]; exact Xi_ne (by omega)).trans ( (show Xi T5 904 15 = Xi U4 904 15 from w30.x _ _ rfl).trans ( (show Xi U4 904 15 = Xi U3 904 15 from by rw [eU4]; exact Xi_ne (by omega)).trans ( (show Xi U3 904 15 = Xi U2 904 15 from by rw [eU3]; exact Xi_ne (by omega)).trans ( (show Xi U2 904 15 = Xi U1 904 15 from by rw [eU2]; exact Xi_ne (by omega)).trans ((show Xi U1 904 15 = Xi S 904 15 from by rw [eU1]; exact Xi_ne (by omega)))))))))
      have w59 : Xi T8 904 23 = Xi S 904 23 := (show Xi T8 904 23 = Xi T7 904 23 from w53.x _ _ rfl).trans ( (show Xi T7 904 23 = Xi U6 904 23 from w43.x _ _ rfl).trans ( (show Xi U6 904 23 = Xi T5 904 23 from by rw [eU6]; exact Xi_ne (by omega)).trans ( (show Xi T5 904 23 = Xi U4 904 23 from w30.x _ _ rfl).trans ( (show Xi U4 904 23 = Xi U3 904 23 from by rw [eU4]; exact Xi_ne (by omega)).trans ( (show Xi U3 904 23 = Xi U2 904 23 from by rw [eU3]; exact Xi_ne (by omega)).trans ( (show Xi U2 904 23 = Xi U1 904 23 from by rw [eU2]; exact Xi_ne (by omega)).trans ((show Xi U1 904 23 = Xi S 904 23 from by rw [eU1]; exact Xi_ne (by omega)))))))))
      have w60 : Xi T8 904 32 = Xi S 904 32 := (show Xi T8 904 32 = Xi T7 904 32 from w53.x _ _ rfl).trans ( (show Xi T7 904 32 = Xi U6 904 32 from w43.x _ _ rfl).trans ( (show Xi U6 904 32 = Xi T5 904 32 from by rw [eU6]; exact Xi_ne (by omega)).trans ( (show Xi T5 904 32 = Xi U4 904 32 from w30.x _ _ rfl).trans ( (show Xi U4 904 32 = Xi U3 904 32 from by rw [eU4]; exact Xi_ne (by omega)).trans ( (show Xi U3 904 32 = Xi U2 904 32 from by rw [eU3]; exact Xi_ne (by omega)).trans ( (show Xi U2 904 32 = Xi U1 904 32 from by rw [eU2]; exact Xi_ne (by omega)).trans ((show Xi U1 904 32 = Xi S 904 32 from by rw [eU1]; exact Xi_ne (by omega)))))))))
      have w61 : Xi T8 904 70 = Xi S 904 70 := (show Xi T8 904 70 = Xi T7 904 70 from w53.x _ _ rfl).trans ( (show Xi T7 904 70 = Xi U6 904 70 from w43.x _ _ rfl).trans ( (show Xi U6 904 70 = Xi T5 904 70 from by rw [eU6]; exact Xi_ne (by omega)).trans ( (show Xi T5 904 70 = Xi U4 904 70 from w30.x _ _ rfl).trans ( (show Xi U4 904 70 = Xi U3 904 70 from by rw [eU4]; exact Xi_ne (by omega)).trans ( (show Xi U3 904 70 = Xi U2 904 70 from by rw [eU3]; exact Xi_ne (by omega)).trans ( (show Xi U2 904 70 = Xi U1 904 70 from by rw [eU2]; exact Xi_ne (by omega)).trans ((show Xi U1 904 70 = Xi S 904 70 from by rw [eU1]; exact Xi_ne (by omega)))))))))
      have w62 : Xi T8 904 94 = Xi S 904 94 := (show Xi T8 904 94 = Xi T7 904 94 from w53.x _ _ rfl).trans ( (show Xi T7 904 94 = Xi U6 904 94 from w43.x _ _ rfl).trans ( (show Xi U6 904 94 = Xi T5 904 94 from by rw [eU6]; exact Xi_ne (by omega)).trans ( (show Xi T5 904 94 = Xi U4 904 94 from w30.x _ _ rfl).trans ( (show Xi U4 904 94 = Xi U3 904 94 from by rw [eU4]; exact Xi_ne (by omega)).trans ( (show Xi U3 904 94 = Xi U2 904 94 from by rw [eU3]; exact Xi_ne (by omega)).trans ( (show Xi U2 904 94 = Xi U1 904 94 from by rw [eU2]; exact Xi_ne (by omega)).trans ((show Xi U1 904 94 = Xi S 904 94 from by rw [eU1]; exact Xi_ne (by omega)))))))))
      exact ⟨hHT8, hFT8, rfl, (by first | (have t := K177; exact ⟨_, FA17, z159, _, _, F159, n159, F173, M173, o177_⟩) | (exfalso; omega))⟩
    | 3, hii =>
      cases hii
      have w63 : (Xi S 904 70) = 3 := by simpa using w16
      exfalso; omega
    | 4, hii =>
      cases hii
      have w64 : (Xi S 904 70) = 4 := by simpa using w16
      exfalso; omega
    | 5, hii =>
      cases hii
      have w65 : (Xi S 904 70) = 5 := by simpa using w16
      exfalso; omega
    | 6, hii =>
      cases hii
      have w66 : (Xi S 904 70) = 6 := by simpa using w16
      exfalso; omega
    | 7, hii =>
      cases hii
      have w67 : (Xi S 904 70) = 7 := by simpa using w16
      exfalso; omega
    | 8, hii =>
      cases hii
      have w68 : (Xi S 904 70) = 8 := by simpa using w16
      exfalso; omega
    | 9, hii =>
      cases hii
      have w69 : (Xi S 904 70) = 9 := by simpa using w16
      exfalso; omega
    | 10, hii =>
      cases hii
      have w70 : (Xi S 904 70) = 10 := by simpa using w16
      exfalso; omega
    | 11, hii =>
      cases hii
      have w71 : (Xi S 904 70) = 11 := by simpa using w16
      exfalso; omega
    | 12, hii =>
      cases hii
      have w72 : (Xi S 904 70) = 12 := by simpa using w16
      exfalso; omega
    | 13, hii =>
      cases hii
      have w73 : (Xi S 904 70) = 13 := by simpa using w16
      exfalso; omega
    | 14, hii =>
      cases hii
      have w74 : (Xi S 904 70) = 14 := by simpa using w16
      exfalso; omega
    | 15, hii =>
      cases hii
      have w75 : (Xi S 904 70) = 15 := by simpa using w16
      exfalso; omega
    | 16, hii =>
      cases hii
      have w76 : (Xi S 904 70) = 16 := by simpa using w16
      exfalso; omega
    | 17, hii =>
      cases hii
      have w77 : (Xi S 904 70) = 17 := by simpa using w16
      exfalso; omega
    | 18, hii =>
      cases hii
      have w78 : (Xi S 904 70) = 18 := by simpa using w16
      exfalso; omega
    | 19, hii =>
      cases hii
      have w79 : (Xi S 904 70) = 19 := by simpa using w16
      exfalso; omega
    | 20, hii =>
      cases hii
      have w80 : (Xi S 904 70) = 20 := by simpa using w16
      exfalso; omega
    | n + 21, hii => exact absurd hii (by simp)
end
section
/-! rules of the class: the head's parts -/
def RLM (T : sS) (ru : Nat) (s a o k n tc pc f : Int) : Prop := Xi T (248 + ru) 0 = s ∧ Xi T (248 + ru) 1 = a ∧ Xi T (248 + ru) 2 = o ∧ Xi T (248 + ru) 3 = k ∧ Xi T (248 + ru) 4 = n ∧ Xi T (248 + ru) 5 = tc ∧ Xi T (248 + ru) 6 = pc ∧ Xi T (248 + ru) 7 = f
def nnD (k : Int) : Int := if k = -2 then -1 else k
def nnK (S : sS) (ru : Nat) : Int := nnD (if Xi S (248 + ru) 2 ≠ -1 then Xi S 21 (Xi S (248 + ru) 2).toNat else if Xi S (248 + ru) 3 ≠ -1 then Xi S (248 + ru) 3 else Xi S 19 (Xi S (248 + ru) 1).toNat)
theorem nnK_o {S : sS} {ru : Nat} (h : Xi S (248 + ru) 2 ≠ -1) : nnK S ru = nnD (Xi S 21 (Xi S (248 + ru) 2).toNat) := by unfold nnK; rw [if_pos h]
theorem nnK_k {S : sS} {ru : Nat} (g : Xi S (248 + ru) 2 = -1) (h : Xi S (248 + ru) 3 ≠ -1) : nnK S ru = nnD (Xi S (248 + ru) 3) := by unfold nnK; rw [if_neg (fun q => q g), if_pos h]
theorem nnK_a {S : sS} {ru : Nat} (g : Xi S (248 + ru) 2 = -1) (h : Xi S (248 + ru) 3 = -1) : nnK S ru = nnD (Xi S 19 (Xi S (248 + ru) 1).toNat) := by unfold nnK; rw [if_neg (fun q => q g), if_neg (fun q => q h)]
def aaQ (S : sS) (a b i : Int) : Prop := fnd S 8 a i ≠ -1 ∧ fnd S 2 i b ≠ -1 ∧ isK S (Xi S 21 (fnd S 2 i b).toNat) (Xi S 19 (fnd S 8 a i).toNat) ≠ 0
noncomputable def aaF (S : sS) (a b : Int) : Nat → Int × Int × Int
  | 0 => (fnd S 8 a b, -1, if fnd S 8 a b = -1 then 0 else 1)
  | n + 1 => @ite (Int × Int × Int) (aaQ S a b (a + 1 + n)) (Classical.propDecidable _) (fnd S 8 a (a + 1 + n), fnd S 2 (a + 1 + n) b, (aaF S a b n).2.2 + 1) (aaF S a b n)
theorem aa_y {S : sS} {a b i x y c : Int} (h : aaF S a b (i - a - 1).toNat = (x, y, c)) (hi : a + 1 ≤ i) (q : aaQ S a b i) : aaF S a b (i + 1 - a - 1).toNat = (fnd S 8 a i, fnd S 2 i b, c + 1) := by
  have e : a + 1 + (((i - a - 1).toNat : Nat) : Int) = i := by omega
  rw [show (i + 1 - a - 1).toNat = (i - a - 1).toNat + 1 by omega, aaF, e, if_pos q, h]
theorem aa_n {S : sS} {a b i x y c : Int} (h : aaF S a b (i - a - 1).toNat = (x, y, c)) (hi : a + 1 ≤ i) (q : ¬ aaQ S a b i) : aaF S a b (i + 1 - a - 1).toNat = (x, y, c) := by
  have e : a + 1 + (((i - a - 1).toNat : Nat) : Int) = i := by omega
  rw [show (i + 1 - a - 1).toNat = (i - a - 1).toNat + 1 by omega, aaF, e, if_neg q, h]
/-- ACTING without ART RUN -/
def AAO (S S1 : sS) (ru : Nat) (a b z : Int) : Prop := KRU S S1 ru ∧ (∀ j : Nat, j ≠ 1 → j ≠ 2 → Xi S1 (248 + ru) j = Xi S (248 + ru) j) ∧ Xi S1 (248 + ru) 1 = (aaF S a b (b - a - 1).toNat).1 ∧ Xi S1 (248 + ru) 2 = (aaF S a b (b - a - 1).toNat).2.1 ∧
  ((aaF S a b (b - a - 1).toNat).2.2 = 1 → z = 1 ∧ Xi S1 876 8 = 0) ∧ ((aaF S a b (b - a - 1).toNat).2.2 ≠ 1 → z = 0 ∧ FTO S S1 (if (aaF S a b (b - a - 1).toNat).2.2 = 0 then 4 else 7) a)
theorem aao_w {S A B : sS} {ru : Nat} {x y : Int} (hx : rg x) (hy : rg y) (e1 : A = uI S (248 + ru) ((1 : Int).toNat) (Int32.ofInt x)) (e2 : B = uI A (248 + ru) ((2 : Int).toNat) (Int32.ofInt y)) : KRU S B ru ∧ (∀ j : Nat, j ≠ 1 → j ≠ 2 → Xi B (248 + ru) j = Xi S (248 + ru) j) ∧ Xi B (248 + ru) 1 = x ∧ Xi B (248 + ru) 2 = y :=
  ⟨kru_w e2 (kru_w e1 KRU.rf), fun j p q => by rw [e2, Xi_ne (by omega), e1, Xi_ne (by omega)], by rw [e2, Xi_ne (by omega), e1]; exact Xi_same hx, by rw [e2]; exact Xi_same hy⟩

abbrev Q_rr_sortOfRule__p (S : sS) (sort : Int) : pst := fun r S1 => S = S1 ∧ (∃ z : Int, r = some (iv z) ∧ (-2147483648 ≤ z ∧ z ≤ 2147483647) ∧ (z = if sort = 3 then 0 else if sort = 4 then 2 else if sort = 5 then 1 else 3))
set_option maxRecDepth 100000 in
theorem t_rr_sortOfRule__p {S : sS} (hH : RI S) (sort : Int) (hsort : -2147483648 ≤ sort ∧ sort ≤ 2147483647) (d : Nat) : Mp lay0 (d + 1) m_rr_sortOfRule [iv sort] S (Q_rr_sortOfRule__p S sort) := by
  refine Mp_R rfl rfl (fun fu => ?_)
  refine y_iload_n rfl rfl ?_
  refine y_tsw rfl rfl rfl rfl (by unfold rg; omega) (fun w1 => ?_) (fun ii tt hii w1 => ?_)
  · refine y_iconst rfl ?_
    refine y_ireturn rfl rfl ?_
    exact ⟨rfl, _, rfl, ⟨by omega, by omega⟩, (by first | (rw [if_pos (by omega)]) | (rw [if_neg (by omega), if_pos (by omega)]) | (rw [if_neg (by omega), if_neg (by omega), if_pos (by omega)]) | (rw [if_neg (by omega), if_neg (by omega), if_neg (by omega)]))⟩
  · match ii, hii with
    | 0, hii =>
      cases hii
      have w2 : sort = 3 := by simpa using w1
      refine y_iconst rfl ?_
      refine y_ireturn rfl rfl ?_
      exact ⟨rfl, _, rfl, ⟨by omega, by omega⟩, (by first | (rw [if_pos (by omega)]) | (rw [if_neg (by omega), if_pos (by omega)]) | (rw [if_neg (by omega), if_neg (by omega), if_pos (by omega)]) | (rw [if_neg (by omega), if_neg (by omega), if_neg (by omega)]))⟩
    | 1, hii =>
      cases hii
      have w3 : sort = 4 := by simpa using w1
      refine y_iconst rfl ?_
      refine y_ireturn rfl rfl ?_
      exact ⟨rfl, _, rfl, ⟨by omega, by omega⟩, (by first | (rw [if_pos (by omega)]) | (rw [if_neg (by omega), if_pos (by omega)]) | (rw [if_neg (by omega), if_neg (by omega), if_pos (by omega)]) | (rw [if_neg (by omega), if_neg (by omega), if_neg (by omega)]))⟩
    | 2, hii =>
      cases hii
      have w4 : sort = 5 := by simpa using w1
      refine y_iconst rfl ?_
      refine y_ireturn rfl rfl ?_
      exact ⟨rfl, _, rfl, ⟨by omega, by omega⟩, (by first | (rw [if_pos (by omega)]) | (rw [if_neg (by omega), if_pos (by omega)]) | (rw [if_neg (by omega), if_neg (by omega), if_pos (by omega)]) | (rw [if_neg (by omega), if_neg (by omega), if_neg (by omega)]))⟩
    | n + 3, hii => exact absurd hii (by simp)
def md_bo_startRule__p : List rec := [(248, 272, 0, 100000)]
abbrev Q_bo_startRule__p (S : sS) (sort : Int) : pst := fun r S1 => RI S1 ∧ FR md_bo_startRule__p S S1 ∧ (∃ z : Nat, r = some (.ref (248 + z)) ∧ z < 24 ∧ ((z : Int) = Xi S 246 2) ∧ (KRU S S1 z) ∧ (RLM S1 z sort (-1) (-1) (-1) 0 0 0 (Xi S 246 5)))
set_option maxRecDepth 100000 in
theorem t_bo_startRule__p {S : sS} (hH : RI S) (sort : Int) (hsort : 0 ≤ sort ∧ sort ≤ 3) (hr : 0 ≤ Xi S 246 2 ∧ Xi S 246 2 < 24) (d : Nat) : Mp lay0 (d + 1) m_bo_startRule [.ref 246, iv sort] S (Q_bo_startRule__p S sort) := by
  refine Mp_R rfl rfl (fun fu => ?_)
  have hF : FR md_bo_startRule__p S S := FR.rf
  have w1 : -2147483648 ≤ Xi S 246 2 ∧ Xi S 246 2 ≤ 2147483647 := Xi_rgI
  have w2 : -2147483648 ≤ Xi S 246 5 ∧ Xi S 246 5 ≤ 2147483647 := Xi_rgI
  refine y_aload_n rfl rfl ?_
  refine y_gfr rfl rfl rfl rfl rfl (hH.r 246 1 247 rfl) ?_
  refine y_aload_n rfl rfl ?_
  refine y_gfi rfl rfl rfl rfl rfl ?_
  refine y_aaload (n := 24) (a := 248 + ((Xi S 246 2)).toNat) rfl rfl (by decide) (by omega) (by omega) (by unfold rg; omega) (hH.rw 247 248 24 _ (by decide) (by omega)) ?_
  refine y_astore_n rfl rfl rfl ?_
  refine y_aload_n rfl rfl ?_
  refine y_iconst rfl ?_
  refine y_iload_n rfl rfl ?_
  refine y_iastoreP (n := 8) rfl (lay_248 (by omega)) (by unfold rg; omega) (fun w3 w4 => ?_)
  obtain ⟨U1, eU1⟩ : ∃ T : sS, T = uI S (248 + ((Xi S 246 2)).toNat) ((0 : Int).toNat) (Int32.ofInt sort) := ⟨_, rfl⟩
  rw [← eU1]
  have hHU1 : RI U1 := by rw [eU1]; exact RI_w hH
  have hFU1 : FR md_bo_startRule__p S U1 := by rw [eU1]; exact FR.wI hF (mdf_i (r := (248, 272, 0, 100000)) (List.mem_of_getElem? (i := 0) rfl) (inR_i (by omega) (by omega) (by omega) (by omega)))
  have w5 : Xi U1 (248 + ((Xi S 246 2)).toNat) ((0 : Int).toNat) = sort := by rw [eU1]; exact Xi_same (by unfold rg; omega)
  refine y_aload_n rfl rfl ?_
  refine y_iconst rfl ?_
  refine y_iconst rfl ?_
  refine y_iastoreP (n := 8) rfl (lay_248 (by omega)) (by unfold rg; omega) (fun w6 w7 => ?_)
  obtain ⟨U2, eU2⟩ : ∃ T : sS, T = uI U1 (248 + ((Xi S 246 2)).toNat) ((1 : Int).toNat) (Int32.ofInt (-1)) := ⟨_, rfl⟩
  rw [← eU2]
  have hHU2 : RI U2 := by rw [eU2]; exact RI_w hHU1
  have hFU2 : FR md_bo_startRule__p S U2 := by rw [eU2]; exact FR.wI hFU1 (mdf_i (r := (248, 272, 0, 100000)) (List.mem_of_getElem? (i := 0) rfl) (inR_i (by omega) (by omega) (by omega) (by omega)))
  have w8 : Xi U2 (248 + ((Xi S 246 2)).toNat) ((1 : Int).toNat) = (-1) := by rw [eU2]; exact Xi_same (by unfold rg; omega)
  refine y_aload_n rfl rfl ?_
  refine y_iconst rfl ?_
  refine y_iconst rfl ?_
  refine y_iastoreP (n := 8) rfl (lay_248 (by omega)) (by unfold rg; omega) (fun w9 w10 => ?_)
  obtain ⟨U3, eU3⟩ : ∃ T : sS, T = uI U2 (248 + ((Xi S 246 2)).toNat) ((2 : Int).toNat) (Int32.ofInt (-1)) := ⟨_, rfl⟩
  rw [← eU3]
  have hHU3 : RI U3 := by rw [eU3]; exact RI_w hHU2
  have hFU3 : FR md_bo_startRule__p S U3 := by rw [eU3]; exact FR.wI hFU2 (mdf_i (r := (248, 272, 0, 100000)) (List.mem_of_getElem? (i := 0) rfl) (inR_i (by omega) (by omega) (by omega) (by omega)))
  have w11 : Xi U3 (248 + ((Xi S 246 2)).toNat) ((2 : Int).toNat) = (-1) := by rw [eU3]; exact Xi_same (by unfold rg; omega)
  refine y_aload_n rfl rfl ?_
  refine y_iconst rfl ?_
  refine y_iconst rfl ?_
  refine y_iastoreP (n := 8) rfl (lay_248 (by omega)) (by unfold rg; omega) (fun w12 w13 => ?_)
  obtain ⟨U4, eU4⟩ : ∃ T : sS, T = uI U3 (248 + ((Xi S 246 2)).toNat) ((3 : Int).toNat) (Int32.ofInt (-1)) := ⟨_, rfl⟩
  rw [← eU4]
  have hHU4 : RI U4 := by rw [eU4]; exact RI_w hHU3
  have hFU4 : FR md_bo_startRule__p S U4 := by rw [eU4]; exact FR.wI hFU3 (mdf_i (r := (248, 272, 0, 100000)) (List.mem_of_getElem? (i := 0) rfl) (inR_i (by omega) (by omega) (by omega) (by omega)))
  have w14 : Xi U4 (248 + ((Xi S 246 2)).toNat) ((3 : Int).toNat) = (-1) := by rw [eU4]; exact Xi_same (by unfold rg; omega)
  refine y_aload_n rfl rfl ?_
  refine y_iconst rfl ?_
  refine y_iconst rfl ?_
  refine y_iastoreP (n := 8) rfl (lay_248 (by omega)) (by unfold rg; omega) (fun w15 w16 => ?_)
  obtain ⟨U5, eU5⟩ : ∃ T : sS, T = uI U4 (248 + ((Xi S 246 2)).toNat) ((4 : Int).toNat) (Int32.ofInt 0) := ⟨_, rfl⟩
  rw [← eU5]
  have hHU5 : RI U5 := by rw [eU5]; exact RI_w hHU4
  have hFU5 : FR md_bo_startRule__p S U5 := by rw [eU5]; exact FR.wI hFU4 (mdf_i (r := (248, 272, 0, 100000)) (List.mem_of_getElem? (i := 0) rfl) (inR_i (by omega) (by omega) (by omega) (by omega)))
  have w17 : Xi U5 (248 + ((Xi S 246 2)).toNat) ((4 : Int).toNat) = 0 := by rw [eU5]; exact Xi_same (by unfold rg; omega)
  refine y_aload_n rfl rfl ?_
  refine y_iconst rfl ?_
  refine y_iconst rfl ?_
  refine y_iastoreP (n := 8) rfl (lay_248 (by omega)) (by unfold rg; omega) (fun w18 w19 => ?_)
  obtain ⟨U6, eU6⟩ : ∃ T : sS, T = uI U5 (248 + ((Xi S 246 2)).toNat) ((5 : Int).toNat) (Int32.ofInt 0) := ⟨_, rfl⟩
  rw [← eU6]
  have hHU6 : RI U6 := by rw [eU6]; exact RI_w hHU5
  have hFU6 : FR md_bo_startRule__p S U6 := by rw [eU6]; exact FR.wI hFU5 (mdf_i (r := (248, 272, 0, 100000)) (List.mem_of_getElem? (i := 0) rfl) (inR_i (by omega) (by omega) (by omega) (by omega)))
  have w20 : Xi U6 (248 + ((Xi S 246 2)).toNat) ((5 : Int).toNat) = 0 := by rw [eU6]; exact Xi_same (by unfold rg; omega)
  refine y_aload_n rfl rfl ?_
  refine y_bipush rfl rfl ?_
  refine y_iconst rfl ?_
  refine y_iastoreP (n := 8) rfl (lay_248 (by omega)) (by unfold rg; omega) (fun w21 w22 => ?_)
  obtain ⟨U7, eU7⟩ : ∃ T : sS, T = uI U6 (248 + ((Xi S 246 2)).toNat) ((6 : Int).toNat) (Int32.ofInt 0) := ⟨_, rfl⟩
  rw [← eU7]
  have hHU7 : RI U7 := by rw [eU7]; exact RI_w hHU6
  have hFU7 : FR md_bo_startRule__p S U7 := by rw [eU7]; exact FR.wI hFU6 (mdf_i (r := (248, 272, 0, 100000)) (List.mem_of_getElem? (i := 0) rfl) (inR_i (by omega) (by omega) (by omega) (by omega)))
  have w23 : Xi U7 (248 + ((Xi S 246 2)).toNat) ((6 : Int).toNat) = 0 := by rw [eU7]; exact Xi_same (by unfold rg; omega)
  refine y_aload_n rfl rfl ?_
  refine y_bipush rfl rfl ?_
  refine y_aload_n rfl rfl ?_
  refine y_gfi rfl rfl rfl rfl rfl ?_
  have w24 : (Xi U7 246 5) = (Xi S 246 5) := (show Xi U7 246 5 = Xi U6 246 5 from by rw [eU7]; exact Xi_ne (by omega)).trans ( (show Xi U6 246 5 = Xi U5 246 5 from by rw [eU6]; exact Xi_ne (by omega)).trans ( (show Xi U5 246 5 = Xi U4 246 5 from by rw [eU5]; exact Xi_ne (by omega)).trans ( (show Xi U4 246 5 = Xi U3 246 5 from by rw [eU4]; exact Xi_ne (by omega)).trans ( (show Xi U3 246 5 = Xi U2 246 5 from by rw [eU3]; exact Xi_ne (by omega)).trans ( (show Xi U2 246 5 = Xi U1 246 5 from by rw [eU2]; exact Xi_ne (by omega)).trans ((show Xi U1 246 5 = Xi S 246 5 from by rw [eU1]; exact Xi_ne (by omega))))))))
  rw [w24]
  refine y_iastoreP (n := 8) rfl (lay_248 (by omega)) (by unfold rg; omega) (fun w25 w26 => ?_)
  obtain ⟨U8, eU8⟩ : ∃ T : sS, T = uI U7 (248 + ((Xi S 246 2)).toNat) ((7 : Int).toNat) (Int32.ofInt (Xi S 246 5)) := ⟨_, rfl⟩
  rw [← eU8]
  have hHU8 : RI U8 := by rw [eU8]; exact RI_w hHU7
  have hFU8 : FR md_bo_startRule__p S U8 := by rw [eU8]; exact FR.wI hFU7 (mdf_i (r := (248, 272, 0, 100000)) (List.mem_of_getElem? (i := 0) rfl) (inR_i (by omega) (by omega) (by omega) (by omega)))
  have w27 : Xi U8 (248 + ((Xi S 246 2)).toNat) ((7 : Int).toNat) = (Xi S 246 5) := by rw [eU8]; exact Xi_same (by unfold rg; omega)
  refine y_aload_n rfl rfl ?_
  refine y_areturn rfl rfl ?_
  have w28 : Xi U8 246 2 = Xi S 246 2 := (show Xi U8 246 2 = Xi U7 246 2 from by rw [eU8]; exact Xi_ne (by omega)).trans ( (show Xi U7 246 2 = Xi U6 246 2 from by rw [eU7]; exact Xi_ne (by omega)).trans ( (show Xi U6 246 2 = Xi U5 246 2 from by rw [eU6]; exact Xi_ne (by omega)).trans ( (show Xi U5 246 2 = Xi U4 246 2 from by rw [eU5]; exact Xi_ne (by omega)).trans ( (show Xi U4 246 2 = Xi U3 246 2 from by rw [eU4]; exact Xi_ne (by omega)).trans ( (show Xi U3 246 2 = Xi U2 246 2 from by rw [eU3]; exact Xi_ne (by omega)).trans ( (show Xi U2 246 2 = Xi U1 246 2 from by rw [eU2]; exact Xi_ne (by omega)).trans ((show Xi U1 246 2 = Xi S 246 2 from by rw [eU1]; exact Xi_ne (by omega)))))))))
  have w29 : Xi U8 246 5 = Xi S 246 5 := (show Xi U8 246 5 = Xi U7 246 5 from by rw [eU8]; exact Xi_ne (by omega)).trans ( (show Xi U7 246 5 = Xi U6 246 5 from by rw [eU7]; exact Xi_ne (by omega)).trans ( (show Xi U6 246 5 = Xi U5 246 5 from by rw [eU6]; exact Xi_ne (by omega)).trans ( (show Xi U5 246 5 = Xi U4 246 5 from by rw [eU5]; exact Xi_ne (by omega)).trans ( (show Xi U4 246 5 = Xi U3 246 5 from by rw [eU4]; exact Xi_ne (by omega)).trans ( (show Xi U3 246 5 = Xi U2 246 5 from by rw [eU3]; exact Xi_ne (by omega)).trans ( (show Xi U2 246 5 = Xi U1 246 5 from by rw [eU2]; exact Xi_ne (by omega)).trans ((show Xi U1 246 5 = Xi S 246 5 from by rw [eU1]; exact Xi_ne (by omega)))))))))
  exact ⟨hHU8, hFU8, _, rfl, (by omega), (by omega), ((kru_w eU8 (kru_w eU7 (kru_w eU6 (kru_w eU5 (kru_w eU4 (kru_w eU3 (kru_w eU2 (kru_w eU1 KRU.rf))))))))), (⟨by rw [eU8, Xi_ne (by omega), eU7, Xi_ne (by omega), eU6, Xi_ne (by omega), eU5, Xi_ne (by omega), eU4, Xi_ne (by omega), eU3, Xi_ne (by omega), eU2, Xi_ne (by omega), eU1]; exact Xi_same (by unfold rg; omega), by rw [eU8, Xi_ne (by omega), eU7, Xi_ne (by omega), eU6, Xi_ne (by omega), eU5, Xi_ne (by omega), eU4, Xi_ne (by omega), eU3, Xi_ne (by omega), eU2]; exact Xi_same (by unfold rg; omega), by rw [eU8, Xi_ne (by omega), eU7, Xi_ne (by omega), eU6, Xi_ne (by omega), eU5, Xi_ne (by omega), eU4, Xi_ne (by omega), eU3]; exact Xi_same (by unfold rg; omega), by rw [eU8, Xi_ne (by omega), eU7, Xi_ne (by omega), eU6, Xi_ne (by omega), eU5, Xi_ne (by omega), eU4]; exact Xi_same (by unfold rg; omega), by rw [eU8, Xi_ne (by omega), eU7, Xi_ne (by omega), eU6, Xi_ne (by omega), eU5]; exact Xi_same (by unfold rg; omega), by rw [eU8, Xi_ne (by omega), eU7, Xi_ne (by omega), eU6]; exact Xi_same (by unfold rg; omega), by rw [eU8, Xi_ne (by omega), eU7]; exact Xi_same (by unfold rg; omega), by rw [eU8]; exact Xi_same (by unfold rg; omega)⟩)⟩
def md_rr_nameNoun__p : List rec := [(895, 896, 3, 4), (895, 896, 4, 5)]
abbrev Q_rr_nameNoun__p (S : sS) (ru : Nat) : pst := fun r S1 => RI S1 ∧ FR md_rr_nameNoun__p S S1 ∧ (r = none ∧ (S1 = uI (uI S 895 3 (Int32.ofInt 53)) 895 4 (Int32.ofInt (nnK S ru))))
set_option maxRecDepth 100000 in
theorem t_rr_nameNoun__p {S : sS} (hH : RI S) (ru : Nat) (hru : S.2.2 899 4 = some (248 + ru)) (hrk : ru < 24) (d : Nat) : Mp lay0 (d + 2) m_rr_nameNoun [.ref 899] S (Q_rr_nameNoun__p S ru) := by
  refine Mp_R rfl rfl (fun fu => ?_)
  have hF : FR md_rr_nameNoun__p S S := FR.rf
  refine y_aload_n rfl rfl ?_
  refine y_gfr rfl rfl rfl rfl rfl (hH.r 899 1 1 rfl) ?_
  refine y_gfr rfl rfl rfl rfl rfl (hH.r 1 18 19 rfl) ?_
  refine y_aload_n rfl rfl ?_
  refine y_gfr rfl rfl rfl rfl rfl ((hF 899 4 rfl).2.2.trans hru) ?_
  refine y_iconst rfl ?_
  refine y_ialoadP (n := 8) rfl (lay_248 (by omega)) (by unfold rg; omega) (fun w2 w3 => ?_)
  have w4 : -2147483648 ≤ (Xi S (248 + ru) ((1 : Int).toNat)) ∧ (Xi S (248 + ru) ((1 : Int).toNat)) ≤ 2147483647 := Xi_rgI
  have w5 : (Xi S (248 + ru) ((1 : Int).toNat)) = Xi S (248 + ru) 1 := rfl
  refine y_ialoadP (n := 12) rfl rfl (by unfold rg; omega) (fun w6 w7 => ?_)
  have w8 : -2147483648 ≤ (Xi S 19 (((Xi S (248 + ru) ((1 : Int).toNat))).toNat)) ∧ (Xi S 19 (((Xi S (248 + ru) ((1 : Int).toNat))).toNat)) ≤ 2147483647 := Xi_rgI
  have x13 : Xi S 19 (Xi S (248 + ru) 1).toNat = (Xi S 19 (((Xi S (248 + ru) ((1 : Int).toNat))).toNat)) := rfl
  refine y_istore_n rfl rfl rfl ?_
  refine y_aload_n rfl rfl ?_
  refine y_gfr rfl rfl rfl rfl rfl ((hF 899 4 rfl).2.2.trans hru) ?_
  refine y_iconst rfl ?_
  refine y_ialoadP (n := 8) rfl (lay_248 (by omega)) (by unfold rg; omega) (fun w10 w11 => ?_)
  have w12 : -2147483648 ≤ (Xi S (248 + ru) ((2 : Int).toNat)) ∧ (Xi S (248 + ru) ((2 : Int).toNat)) ≤ 2147483647 := Xi_rgI
  have w13 : (Xi S (248 + ru) ((2 : Int).toNat)) = Xi S (248 + ru) 2 := rfl
  have x20 : Xi S (248 + ru) 2 = (Xi S (248 + ru) ((2 : Int).toNat)) := rfl
  refine y_iconst rfl ?_
  refine y_icmp_eq rfl rfl (by unfold rg; omega) (by unfold rg; omega) (fun w14 => ?_) (fun w15 => ?_)
  · refine y_aload_n rfl rfl ?_
    refine y_gfr rfl rfl rfl rfl rfl ((hF 899 4 rfl).2.2.trans hru) ?_
    refine y_iconst rfl ?_
    refine y_ialoadP (n := 8) rfl (lay_248 (by omega)) (by unfold rg; omega) (fun w17 w18 => ?_)
    have w19 : -2147483648 ≤ (Xi S (248 + ru) ((3 : Int).toNat)) ∧ (Xi S (248 + ru) ((3 : Int).toNat)) ≤ 2147483647 := Xi_rgI
    have w20 : (Xi S (248 + ru) ((3 : Int).toNat)) = Xi S (248 + ru) 3 := rfl
    have x51 : Xi S (248 + ru) 3 = (Xi S (248 + ru) ((3 : Int).toNat)) := rfl
    refine y_iconst rfl ?_
    refine y_icmp_eq rfl rfl (by unfold rg; omega) (by unfold rg; omega) (fun w21 => ?_) (fun w22 => ?_)
    · refine y_aload_n rfl rfl ?_
      refine y_gfr rfl rfl rfl rfl rfl (hH.r 899 2 895 rfl) ?_
      refine y_bipush rfl rfl ?_
      refine y_iload_n rfl rfl ?_
      refine y_bipush rfl rfl ?_
      refine y_icmp_ne rfl rfl (by unfold rg; omega) (by unfold rg; omega) (fun w23 => ?_) (fun w24 => ?_)
      · refine y_iload_n rfl rfl ?_
        refine y_callV rfl rfl rfl (t_me_startSelf__p hH 53 (Xi S 19 (((Xi S (248 + ru) ((1 : Int).toNat))).toNat)) ⟨by omega, by omega⟩ ⟨by omega, by omega⟩ _) ?_
        rintro _ T1 ⟨hHT1, w26, rfl, e80⟩
        have hFT1 : FR md_rr_nameNoun__p S T1 := FR.tr hF w26 rfl
        show Pl _ _ _ _ _ _ [] _ _
        refine y_return rfl rfl ?_
        exact ⟨hHT1, hFT1, rfl, (by have u := e80; first | (rw [nnK_o (by omega)]; unfold nnD; first | (rw [if_pos (by omega)]; exact u) | (rw [if_neg (by omega)]; exact u)) | (rw [nnK_k (by omega) (by omega)]; unfold nnD; first | (rw [if_pos (by omega)]; exact u) | (rw [if_neg (by omega)]; exact u)) | (rw [nnK_a (by omega) (by omega)]; unfold nnD; first | (rw [if_pos (by omega)]; exact u) | (rw [if_neg (by omega)]; exact u)))⟩
      · refine y_iconst rfl ?_
        refine y_goto rfl rfl ?_
        refine y_callV rfl rfl rfl (t_me_startSelf__p hH 53 (-1) ⟨by omega, by omega⟩ ⟨by omega, by omega⟩ _) ?_
        rintro _ T2 ⟨hHT2, w28, rfl, e80⟩
        have hFT2 : FR md_rr_nameNoun__p S T2 := FR.tr hF w28 rfl
        show Pl _ _ _ _ _ _ [] _ _
        refine y_return rfl rfl ?_
        exact ⟨hHT2, hFT2, rfl, (by have u := e80; first | (rw [nnK_o (by omega)]; unfold nnD; first | (rw [if_pos (by omega)]; exact u) | (rw [if_neg (by omega)]; exact u)) | (rw [nnK_k (by omega) (by omega)]; unfold nnD; first | (rw [if_pos (by omega)]; exact u) | (rw [if_neg (by omega)]; exact u)) | (rw [nnK_a (by omega) (by omega)]; unfold nnD; first | (rw [if_pos (by omega)]; exact u) | (rw [if_neg (by omega)]; exact u)))⟩
    · refine y_aload_n rfl rfl ?_
      refine y_gfr rfl rfl rfl rfl rfl ((hF 899 4 rfl).2.2.trans hru) ?_
      refine y_iconst rfl ?_
      refine y_ialoadP (n := 8) rfl (lay_248 (by omega)) (by unfold rg; omega) (fun w30 w31 => ?_)
      have x61 : Xi S (248 + ru) 3 = (Xi S (248 + ru) ((3 : Int).toNat)) := rfl
      refine y_istore_n rfl rfl rfl ?_
      refine y_aload_n rfl rfl ?_
      refine y_gfr rfl rfl rfl rfl rfl (hH.r 899 2 895 rfl) ?_
      refine y_bipush rfl rfl ?_
      refine y_iload_n rfl rfl ?_
      refine y_bipush rfl rfl ?_
      refine y_icmp_ne rfl rfl (by unfold rg; omega) (by unfold rg; omega) (fun w32 => ?_) (fun w33 => ?_)
      · refine y_iload_n rfl rfl ?_
        refine y_callV rfl rfl rfl (t_me_startSelf__p hH 53 (Xi S (248 + ru) ((3 : Int).toNat)) ⟨by omega, by omega⟩ ⟨by omega, by omega⟩ _) ?_
        rintro _ T3 ⟨hHT3, w35, rfl, e80⟩
        have hFT3 : FR md_rr_nameNoun__p S T3 := FR.tr hF w35 rfl
        show Pl _ _ _ _ _ _ [] _ _
        refine y_return rfl rfl ?_
        exact ⟨hHT3, hFT3, rfl, (by have u := e80; first | (rw [nnK_o (by omega)]; unfold nnD; first | (rw [if_pos (by omega)]; exact u) | (rw [if_neg (by omega)]; exact u)) | (rw [nnK_k (by omega) (by omega)]; unfold nnD; first | (rw [if_pos (by omega)]; exact u) | (rw [if_neg (by omega)]; exact u)) | (rw [nnK_a (by omega) (by omega)]; unfold nnD; first | (rw [if_pos (by omega)]; exact u) | (rw [if_neg (by omega)]; exact u)))⟩
      · refine y_iconst rfl ?_
        refine y_goto rfl rfl ?_
        refine y_callV rfl rfl rfl (t_me_startSelf__p hH 53 (-1) ⟨by omega, by omega⟩ ⟨by omega, by omega⟩ _) ?_
        rintro _ T4 ⟨hHT4, w37, rfl, e80⟩
        have hFT4 : FR md_rr_nameNoun__p S T4 := FR.tr hF w37 rfl
        show Pl _ _ _ _ _ _ [] _ _
        refine y_return rfl rfl ?_
        exact ⟨hHT4, hFT4, rfl, (by have u := e80; first | (rw [nnK_o (by omega)]; unfold nnD; first | (rw [if_pos (by omega)]; exact u) | (rw [if_neg (by omega)]; exact u)) | (rw [nnK_k (by omega) (by omega)]; unfold nnD; first | (rw [if_pos (by omega)]; exact u) | (rw [if_neg (by omega)]; exact u)) | (rw [nnK_a (by omega) (by omega)]; unfold nnD; first | (rw [if_pos (by omega)]; exact u) | (rw [if_neg (by omega)]; exact u)))⟩
  · refine y_aload_n rfl rfl ?_
    refine y_gfr rfl rfl rfl rfl rfl (hH.r 899 2 895 rfl) ?_
    refine y_gfr rfl rfl rfl rfl rfl (hH.r 895 2 20 rfl) ?_
    refine y_gfr rfl rfl rfl rfl rfl (hH.r 20 2 21 rfl) ?_
    refine y_aload_n rfl rfl ?_
    refine y_gfr rfl rfl rfl rfl rfl ((hF 899 4 rfl).2.2.trans hru) ?_
    refine y_iconst rfl ?_
    refine y_ialoadP (n := 8) rfl (lay_248 (by omega)) (by unfold rg; omega) (fun w39 w40 => ?_)
    refine y_ialoadP (n := 24) rfl rfl (by unfold rg; omega) (fun w41 w42 => ?_)
    have w43 : -2147483648 ≤ (Xi S 21 (((Xi S (248 + ru) ((2 : Int).toNat))).toNat)) ∧ (Xi S 21 (((Xi S (248 + ru) ((2 : Int).toNat))).toNat)) ≤ 2147483647 := Xi_rgI
    have x41 : Xi S 21 (Xi S (248 + ru) 2).toNat = (Xi S 21 (((Xi S (248 + ru) ((2 : Int).toNat))).toNat)) := rfl
    refine y_istore_n rfl rfl rfl ?_
    refine y_goto rfl rfl ?_
    refine y_aload_n rfl rfl ?_
    refine y_gfr rfl rfl rfl rfl rfl (hH.r 899 2 895 rfl) ?_
    refine y_bipush rfl rfl ?_
    refine y_iload_n rfl rfl ?_
    refine y_bipush rfl rfl ?_
    refine y_icmp_ne rfl rfl (by unfold rg; omega) (by unfold rg; omega) (fun w44 => ?_) (fun w45 => ?_)
    · refine y_iload_n rfl rfl ?_
      refine y_callV rfl rfl rfl (t_me_startSelf__p hH 53 (Xi S 21 (((Xi S (248 + ru) ((2 : Int).toNat))).toNat)) ⟨by omega, by omega⟩ ⟨by omega, by omega⟩ _) ?_
      rintro _ T5 ⟨hHT5, w47, rfl, e80⟩
      have hFT5 : FR md_rr_nameNoun__p S T5 := FR.tr hF w47 rfl
      show Pl _ _ _ _ _ _ [] _ _
      refine y_return rfl rfl ?_
      exact ⟨hHT5, hFT5, rfl, (by have u := e80; first | (rw [nnK_o (by omega)]; unfold nnD; first | (rw [if_pos (by omega)]; exact u) | (rw [if_neg (by omega)]; exact u)) | (rw [nnK_k (by omega) (by omega)]; unfold nnD; first | (rw [if_pos (by omega)]; exact u) | (rw [if_neg (by omega)]; exact u)) | (rw [nnK_a (by omega) (by omega)]; unfold nnD; first | (rw [if_pos (by omega)]; exact u) | (rw [if_neg (by omega)]; exact u)))⟩
    · refine y_iconst rfl ?_
      refine y_goto rfl rfl ?_
      refine y_callV rfl rfl rfl (t_me_startSelf__p hH 53 (-1) ⟨by omega, by omega⟩ ⟨by omega, by omega⟩ _) ?_
      rintro _ T6 ⟨hHT6, w49, rfl, e80⟩
      have hFT6 : FR md_rr_nameNoun__p S T6 := FR.tr hF w49 rfl
      show Pl _ _ _ _ _ _ [] _ _
      refine y_return rfl rfl ?_
      exact ⟨hHT6, hFT6, rfl, (by have u := e80; first | (rw [nnK_o (by omega)]; unfold nnD; first | (rw [if_pos (by omega)]; exact u) | (rw [if_neg (by omega)]; exact u)) | (rw [nnK_k (by omega) (by omega)]; unfold nnD; first | (rw [if_pos (by omega)]; exact u) | (rw [if_neg (by omega)]; exact u)) | (rw [nnK_a (by omega) (by omega)]; unfold nnD; first | (rw [if_pos (by omega)]; exact u) | (rw [if_neg (by omega)]; exact u)))⟩
abbrev Q_rr_whenEnd__p (S : sS) : pst := fun r S1 => S = S1 ∧ (∃ z : Int, r = some (iv z) ∧ (-2147483648 ≤ z ∧ z ≤ 2147483647) ∧ (z = if ty7 S (Xi S 899 5) = 37 then Xi S 899 5 + 1 else -1))
set_option maxRecDepth 100000 in
theorem t_rr_whenEnd__p {S : sS} (hH : RI S) (h5 : 0 ≤ Xi S 899 5 ∧ Xi S 899 5 ≤ 5140) (d : Nat) : Mp lay0 (d + 2) m_rr_whenEnd [.ref 899] S (Q_rr_whenEnd__p S) := by
  refine Mp_R rfl rfl (fun fu => ?_)
  have w1 : -2147483648 ≤ Xi S 899 5 ∧ Xi S 899 5 ≤ 2147483647 := Xi_rgI
  refine y_aload_n rfl rfl ?_
  refine y_gfr rfl rfl rfl rfl rfl (hH.r 899 0 876 rfl) ?_
  refine y_aload_n rfl rfl ?_
  refine y_gfi rfl rfl rfl rfl rfl ?_
  refine y_callV rfl rfl rfl (t_to_typeAt__p hH (Xi S 899 5) ⟨by omega, by omega⟩ _) ?_
  rintro _ _ ⟨rfl, z4, rfl, w4, w2, w3⟩
  show Pl _ _ _ _ _ _ [iv z4] _ _
  have gq8 := w2
  clear w2
  refine y_bipush rfl rfl ?_
  refine y_icmp_ne rfl rfl (by unfold rg; omega) (by unfold rg; omega) (fun w5 => ?_) (fun w6 => ?_)
  · refine y_iconst rfl ?_
    refine y_ireturn rfl rfl ?_
    exact ⟨rfl, _, rfl, ⟨by omega, by omega⟩, (by rw [gq8]; first | (rw [if_pos (by omega)]) | (rw [if_neg (by omega)]))⟩
  · refine y_aload_n rfl rfl ?_
    refine y_gfi rfl rfl rfl rfl rfl ?_
    refine y_iconst rfl ?_
    refine y_iadd rfl ?_
    refine y_goto rfl rfl ?_
    refine y_ireturn rfl rfl ?_
    exact ⟨rfl, _, rfl, ⟨by omega, by omega⟩, (by rw [gq8]; first | (rw [if_pos (by omega)]) | (rw [if_neg (by omega)]))⟩
def md_rr_actingAlone__p : List rec := [(248, 272, 0, 100000), (876, 877, 8, 9), (876, 877, 9, 10)]
abbrev Q_rr_actingAlone__p (S : sS) (ru : Nat) (from_ : Int) (to : Int) : pst := fun r S1 => RI S1 ∧ FR md_rr_actingAlone__p S S1 ∧ (∃ z : Int, r = some (iv z) ∧ (0 ≤ z ∧ z ≤ 1) ∧ (AAO S S1 ru from_ to z))
set_option maxRecDepth 100000 in
theorem t_rr_actingAlone__p {S : sS} (hH : RI S) (ru : Nat) (from_ : Int) (to : Int) (hfrom_ : 0 ≤ from_ ∧ from_ ≤ 5130) (hto : 0 ≤ to ∧ to ≤ 5130) (hru : S.2.2 899 4 = some (248 + ru)) (hrk : ru < 24) (h13 : 0 ≤ Xi S 1 3 ∧ Xi S 1 3 ≤ 200) (hCE : CEN S) (hf : Xi S 876 8 = 0) (d : Nat) : Mp lay0 (d + 3) m_rr_actingAlone [.ref 899, iv from_, iv to] S (Q_rr_actingAlone__p S ru from_ to) := by
  refine Mp_R rfl rfl (fun fu => ?_)
  have hF : FR md_rr_actingAlone__p S S := FR.rf
  have w1 : -2147483648 ≤ Xi S 1 3 ∧ Xi S 1 3 ≤ 2147483647 := Xi_rgI
  have w2 : -2147483648 ≤ Xi S 876 8 ∧ Xi S 876 8 ≤ 2147483647 := Xi_rgI
  have C32 : ∀ (n32 : Nat) (_ : n32 ≤ fu) (v3 : Int) (v4 : Int) (v5 : Int) (v6 : Int), (-2147483648 ≤ v3 ∧ v3 ≤ 2147483647) → (-2147483648 ≤ v4 ∧ v4 ≤ 2147483647) → (0 ≤ v5 ∧ v5 ≤ 5131) → (0 ≤ v6 ∧ v6 ≤ 5131) → (from_ + 1 ≤ v6 ∧ (v6 ≤ to ∨ v6 = from_ + 1)) → (0 ≤ v5 ∧ v5 ≤ v6 - from_) → (Hid (aaF S from_ to (v6 - from_ - 1).toNat = (v3, v4, v5))) → Pl n32 lay0 (d + 2) m_rr_actingAlone 32 [(0, .ref 899), (1, iv from_), (2, iv to), (3, iv v3), (4, iv v4), (5, iv v5), (6, iv v6)] [] S (Q_rr_actingAlone__p S ru from_ to) := by
    intro n32
    induction n32 with
    | zero => intros; exact Pl_0
    | succ n32 ih32 =>
      intro hm32 v3 v4 v5 v6 w3 w4 w5 w6 w7 w8 A32
      refine ys_iload rfl rfl ?_
      refine y_iload_n rfl rfl ?_
      refine y_icmp_ge rfl rfl (by unfold rg; omega) (by unfold rg; omega) (fun w9 => ?_) (fun w10 => ?_)
      · refine y_aload_n rfl rfl ?_
        have A118 : aaF S from_ to (to - from_ - 1).toNat = (v3, v4, v5) := by have u := A32.o; rw [show (v6 - from_ - 1).toNat = (to - from_ - 1).toNat by omega] at u; exact u
        refine y_gfr rfl rfl rfl rfl rfl ((hF 899 4 rfl).2.2.trans hru) ?_
        refine y_iconst rfl ?_
        refine y_iload_n rfl rfl ?_
        refine y_iastoreP (n := 8) rfl (lay_248 (by omega)) (by unfold rg; omega) (fun w12 w13 => ?_)
        obtain ⟨U1, eU1⟩ : ∃ T : sS, T = uI S (248 + ru) ((1 : Int).toNat) (Int32.ofInt v3) := ⟨_, rfl⟩
        rw [← eU1]
        have hHU1 : RI U1 := by rw [eU1]; exact RI_w hH
        have hFU1 : FR md_rr_actingAlone__p S U1 := by rw [eU1]; exact FR.wI hF (mdf_i (r := (248, 272, 0, 100000)) (List.mem_of_getElem? (i := 0) rfl) (inR_i (by omega) (by omega) (by omega) (by omega)))
        have w14 : Xi U1 (248 + ru) ((1 : Int).toNat) = v3 := by rw [eU1]; exact Xi_same (by unfold rg; omega)
        have e124 := eU1
        refine y_aload_n rfl rfl ?_
        refine y_gfr rfl rfl rfl rfl rfl ((hFU1 899 4 rfl).2.2.trans hru) ?_
        refine y_iconst rfl ?_
        refine y_iload rfl rfl ?_
        refine y_iastoreP (n := 8) rfl (lay_248 (by omega)) (by unfold rg; omega) (fun w16 w17 => ?_)
        obtain ⟨U2, eU2⟩ : ∃ T : sS, T = uI U1 (248 + ru) ((2 : Int).toNat) (Int32.ofInt v4) := ⟨_, rfl⟩
        rw [← eU2]
        have hHU2 : RI U2 := by rw [eU2]; exact RI_w hHU1
        have hFU2 : FR md_rr_actingAlone__p S U2 := by rw [eU2]; exact FR.wI hFU1 (mdf_i (r := (248, 272, 0, 100000)) (List.mem_of_getElem? (i := 0) rfl) (inR_i (by omega) (by omega) (by omega) (by omega)))
        have w18 : Xi U2 (248 + ru) ((2 : Int).toNat) = v4 := by rw [eU2]; exact Xi_same (by unfold rg; omega)
        have W132 := aao_w (by unfold rg; omega) (by unfold rg; omega) e124 eU2
        have e132 : Xi U2 876 8 = Xi S 876 8 := by rw [eU2, Xi_ne (by omega), e124, Xi_ne (by omega)]
        refine y_iload rfl rfl ?_
        refine y_iconst rfl ?_
        refine y_icmp_eq rfl rfl (by unfold rg; omega) (by unfold rg; omega) (fun w19 => ?_) (fun w20 => ?_)
        · refine y_iconst rfl ?_
          refine y_goto rfl rfl ?_
          refine y_ireturn rfl rfl ?_
          have w21 : Xi U2 876 8 = Xi S 876 8 := (show Xi U2 876 8 = Xi U1 876 8 from by rw [eU2]; exact Xi_ne (by omega)).trans ((show Xi U1 876 8 = Xi S 876 8 from by rw [eU1]; exact Xi_ne (by omega)))
          exact ⟨hHU2, hFU2, _, rfl, ⟨by omega, by omega⟩, (by have u := A118; have w := W132; first | (have t := Y155; exact ⟨kru_f F155 rfl w.1, fun j p q => (FR_ru F155 rfl hrk).trans (w.2.1 j p q), by rw [u]; exact (FR_ru F155 rfl hrk).trans w.2.2.1, by rw [u]; exact (FR_ru F155 rfl hrk).trans w.2.2.2, by rw [u]; exact fun q => absurd q (by omega), by rw [u]; exact fun _ => ⟨by omega, by first | (rw [if_pos (by omega)]; exact Y155) | (rw [if_neg (by omega)]; exact Y155)⟩⟩) | exact ⟨w.1, w.2.1, by rw [u]; exact w.2.2.1, by rw [u]; exact w.2.2.2, by rw [u]; exact fun _ => ⟨rfl, e132.trans hf⟩, by rw [u]; exact fun q => absurd (by omega) q⟩)⟩
        · refine y_aload_n rfl rfl ?_
          refine y_gfr rfl rfl rfl rfl rfl (hHU2.r 899 0 876 rfl) ?_
          refine y_iload rfl rfl ?_
          refine y_if_ne rfl rfl (by unfold rg; omega) (fun w22 => ?_) (fun w23 => ?_)
          · refine y_bipush rfl rfl ?_
            refine y_iload_n rfl rfl ?_
            have w24 : Xi U2 876 8 = Xi S 876 8 := (show Xi U2 876 8 = Xi U1 876 8 from by rw [eU2]; exact Xi_ne (by omega)).trans ((show Xi U1 876 8 = Xi S 876 8 from by rw [eU1]; exact Xi_ne (by omega)))
            have w25 : Xi U2 876 9 = Xi S 876 9 := (show Xi U2 876 9 = Xi U1 876 9 from by rw [eU2]; exact Xi_ne (by omega)).trans ((show Xi U1 876 9 = Xi S 876 9 from by rw [eU1]; exact Xi_ne (by omega)))
            refine y_callV rfl rfl rfl (t_to_wrong__p hHU2 7 from_ ⟨by omega, by omega⟩ ⟨by omega, by omega⟩ _) ?_
            rintro _ T3 ⟨hHT3, w29, z28, rfl, w28, w26, f155, w27⟩
            have hFT3 : FR md_rr_actingAlone__p S T3 := FR.tr hFU2 w29 rfl
            show Pl _ _ _ _ _ _ [iv z28] _ _
            have F155 := (by assumption : FR md_to_wrong__p U2 T3)
            have Y155 : FTO S T3 _ from_ := (by have u := f155 (by omega); exact ⟨u.1, u.2.trans (pc7_FR hFU2 rfl rfl rfl _)⟩)
            refine y_if_eq rfl rfl (by unfold rg; omega) (fun w30 => ?_) (fun w31 => ?_)
            · refine y_iconst rfl ?_
              refine y_ireturn rfl rfl ?_
              exact ⟨hHT3, hFT3, _, rfl, ⟨by omega, by omega⟩, (by have u := A118; have w := W132; first | (have t := Y155; exact ⟨kru_f F155 rfl w.1, fun j p q => (FR_ru F155 rfl hrk).trans (w.2.1 j p q), by rw [u]; exact (FR_ru F155 rfl hrk).trans w.2.2.1, by rw [u]; exact (FR_ru F155 rfl hrk).trans w.2.2.2, by rw [u]; exact fun q => absurd q (by omega), by rw [u]; exact fun _ => ⟨by omega, by first | (rw [if_pos (by omega)]; exact Y155) | (rw [if_neg (by omega)]; exact Y155)⟩⟩) | exact ⟨w.1, w.2.1, by rw [u]; exact w.2.2.1, by rw [u]; exact w.2.2.2, by rw [u]; exact fun _ => ⟨rfl, e132.trans hf⟩, by rw [u]; exact fun q => absurd (by omega) q⟩)⟩
            · refine y_iconst rfl ?_
              refine y_goto rfl rfl ?_
              refine y_ireturn rfl rfl ?_
              exact ⟨hHT3, hFT3, _, rfl, ⟨by omega, by omega⟩, (by have u := A118; have w := W132; first | (have t := Y155; exact ⟨kru_f F155 rfl w.1, fun j p q => (FR_ru F155 rfl hrk).trans (w.2.1 j p q), by rw [u]; exact (FR_ru F155 rfl hrk).trans w.2.2.1, by rw [u]; exact (FR_ru F155 rfl hrk).trans w.2.2.2, by rw [u]; exact fun q => absurd q (by omega), by rw [u]; exact fun _ => ⟨by omega, by first | (rw [if_pos (by omega)]; exact Y155) | (rw [if_neg (by omega)]; exact Y155)⟩⟩) | exact ⟨w.1, w.2.1, by rw [u]; exact w.2.2.1, by rw [u]; exact w.2.2.2, by rw [u]; exact fun _ => ⟨rfl, e132.trans hf⟩, by rw [u]; exact fun q => absurd (by omega) q⟩)⟩
          · refine y_iconst rfl ?_
            refine y_goto rfl rfl ?_
            refine y_iload_n rfl rfl ?_
            have w32 : Xi U2 876 8 = Xi S 876 8 := (show Xi U2 876 8 = Xi U1 876 8 from by rw [eU2]; exact Xi_ne (by omega)).trans ((show Xi U1 876 8 = Xi S 876 8 from by rw [eU1]; exact Xi_ne (by omega)))
            have w33 : Xi U2 876 9 = Xi S 876 9 := (show Xi U2 876 9 = Xi U1 876 9 from by rw [eU2]; exact Xi_ne (by omega)).trans ((show Xi U1 876 9 = Xi S 876 9 from by rw [eU1]; exact Xi_ne (by omega)))
            refine y_callV rfl rfl rfl (t_to_wrong__p hHU2 4 from_ ⟨by omega, by omega⟩ ⟨by omega, by omega⟩ _) ?_
            rintro _ T4 ⟨hHT4, w37, z36, rfl, w36, w34, f155, w35⟩
            have hFT4 : FR md_rr_actingAlone__p S T4 := FR.tr hFU2 w37 rfl
            show Pl _ _ _ _ _ _ [iv z36] _ _
            have F155 := (by assumption : FR md_to_wrong__p U2 T4)
            have Y155 : FTO S T4 _ from_ := (by have u := f155 (by omega); exact ⟨u.1, u.2.trans (pc7_FR hFU2 rfl rfl rfl _)⟩)
            refine y_if_eq rfl rfl (by unfold rg; omega) (fun w38 => ?_) (fun w39 => ?_)
            · refine y_iconst rfl ?_
              refine y_ireturn rfl rfl ?_
              exact ⟨hHT4, hFT4, _, rfl, ⟨by omega, by omega⟩, (by have u := A118; have w := W132; first | (have t := Y155; exact ⟨kru_f F155 rfl w.1, fun j p q => (FR_ru F155 rfl hrk).trans (w.2.1 j p q), by rw [u]; exact (FR_ru F155 rfl hrk).trans w.2.2.1, by rw [u]; exact (FR_ru F155 rfl hrk).trans w.2.2.2, by rw [u]; exact fun q => absurd q (by omega), by rw [u]; exact fun _ => ⟨by omega, by first | (rw [if_pos (by omega)]; exact Y155) | (rw [if_neg (by omega)]; exact Y155)⟩⟩) | exact ⟨w.1, w.2.1, by rw [u]; exact w.2.2.1, by rw [u]; exact w.2.2.2, by rw [u]; exact fun _ => ⟨rfl, e132.trans hf⟩, by rw [u]; exact fun q => absurd (by omega) q⟩)⟩
            · refine y_iconst rfl ?_
              refine y_goto rfl rfl ?_
              refine y_ireturn rfl rfl ?_
              exact ⟨hHT4, hFT4, _, rfl, ⟨by omega, by omega⟩, (by have u := A118; have w := W132; first | (have t := Y155; exact ⟨kru_f F155 rfl w.1, fun j p q => (FR_ru F155 rfl hrk).trans (w.2.1 j p q), by rw [u]; exact (FR_ru F155 rfl hrk).trans w.2.2.1, by rw [u]; exact (FR_ru F155 rfl hrk).trans w.2.2.2, by rw [u]; exact fun q => absurd q (by omega), by rw [u]; exact fun _ => ⟨by omega, by first | (rw [if_pos (by omega)]; exact Y155) | (rw [if_neg (by omega)]; exact Y155)⟩⟩) | exact ⟨w.1, w.2.1, by rw [u]; exact w.2.2.1, by rw [u]; exact w.2.2.2, by rw [u]; exact fun _ => ⟨rfl, e132.trans hf⟩, by rw [u]; exact fun q => absurd (by omega) q⟩)⟩
      · refine y_aload_n rfl rfl ?_
        refine y_gfr rfl rfl rfl rfl rfl (hH.r 899 2 895 rfl) ?_
        refine y_bipush rfl rfl ?_
        refine y_iload_n rfl rfl ?_
        refine y_iload rfl rfl ?_
        refine y_callV rfl rfl rfl (t_me_find__p hH 8 from_ v6 ⟨by omega, by omega⟩ ⟨by omega, by omega⟩ ⟨by omega, by omega⟩ (by first | assumption | omega) (by first | assumption | exact (CEN_FR hF rfl rfl (by assumption : CEN S))) _) ?_
        rintro _ _ ⟨rfl, z40, rfl, w40, v47⟩
        show Pl _ _ _ _ _ _ [iv z40] _ _
        refine y_istore rfl rfl rfl ?_
        refine y_aload_n rfl rfl ?_
        refine y_gfr rfl rfl rfl rfl rfl (hH.r 899 2 895 rfl) ?_
        refine y_iconst rfl ?_
        refine y_iload rfl rfl ?_
        refine y_iload_n rfl rfl ?_
        refine y_callV rfl rfl rfl (t_me_find__p hH 2 v6 to ⟨by omega, by omega⟩ ⟨by omega, by omega⟩ ⟨by omega, by omega⟩ (by first | assumption | omega) (by first | assumption | exact (CEN_FR hF rfl rfl (by assumption : CEN S))) _) ?_
        rintro _ _ ⟨rfl, z41, rfl, w41, v60⟩
        show Pl _ _ _ _ _ _ [iv z41] _ _
        refine y_istore rfl rfl rfl ?_
        refine y_iload rfl rfl ?_
        refine y_iconst rfl ?_
        refine y_icmp_eq rfl rfl (by unfold rg; omega) (by unfold rg; omega) (fun w42 => ?_) (fun w43 => ?_)
        · refine y_iinc rfl rfl rfl rfl ?_
          have A112 : aaF S from_ to (v6 + 1 - from_ - 1).toNat = (v3, v4, v5) := by first | (have t := K109; have u := aa_y A32.o (by omega) K109; rw [← v47, ← v60] at u; exact u) | (have t := K96; exact aa_n A32.o (by omega) (fun q => q.2.2 (by rw [← v47, ← v60, ← q96]; omega))) | exact aa_n A32.o (by omega) (fun q => q.2.1 (by rw [← v60]; omega)) | exact aa_n A32.o (by omega) (fun q => q.1 (by rw [← v47]; omega))
          refine y_goto rfl rfl ?_
          exact Pl_weak (ih32 (by omega) (v3) (v4) (v5) ((v6 + 1)) (by omega) (by omega) (by omega) (by omega) (by omega) (by omega) (by first | exact A112 | (show aaF S from_ to (from_ + 1 - from_ - 1).toNat = _; rw [show (from_ + 1 - from_ - 1).toNat = 0 by omega, aaF, ← v8_]; first | (rw [if_pos (by omega)]) | (rw [if_neg (by omega)])))) (by omega) (And.intro rfl (And.intro rfl (And.intro rfl (And.intro rfl (And.intro rfl (And.intro rfl (And.intro rfl (True.intro))))))))
        · refine y_iload rfl rfl ?_
          refine y_iconst rfl ?_
          refine y_icmp_eq rfl rfl (by unfold rg; omega) (by unfold rg; omega) (fun w44 => ?_) (fun w45 => ?_)
          · refine y_iinc rfl rfl rfl rfl ?_
            have A112 : aaF S from_ to (v6 + 1 - from_ - 1).toNat = (v3, v4, v5) := by first | (have t := K109; have u := aa_y A32.o (by omega) K109; rw [← v47, ← v60] at u; exact u) | (have t := K96; exact aa_n A32.o (by omega) (fun q => q.2.2 (by rw [← v47, ← v60, ← q96]; omega))) | exact aa_n A32.o (by omega) (fun q => q.2.1 (by rw [← v60]; omega)) | exact aa_n A32.o (by omega) (fun q => q.1 (by rw [← v47]; omega))
            refine y_goto rfl rfl ?_
            exact Pl_weak (ih32 (by omega) (v3) (v4) (v5) ((v6 + 1)) (by omega) (by omega) (by omega) (by omega) (by omega) (by omega) (by first | exact A112 | (show aaF S from_ to (from_ + 1 - from_ - 1).toNat = _; rw [show (from_ + 1 - from_ - 1).toNat = 0 by omega, aaF, ← v8_]; first | (rw [if_pos (by omega)]) | (rw [if_neg (by omega)])))) (by omega) (And.intro rfl (And.intro rfl (And.intro rfl (And.intro rfl (And.intro rfl (And.intro rfl (And.intro rfl (True.intro))))))))
          · refine y_aload_n rfl rfl ?_
            refine y_gfr rfl rfl rfl rfl rfl (hH.r 899 2 895 rfl) ?_
            refine y_gfr rfl rfl rfl rfl rfl (hH.r 895 2 20 rfl) ?_
            refine y_iload rfl rfl ?_
            refine y_aload_n rfl rfl ?_
            refine y_gfr rfl rfl rfl rfl rfl (hH.r 899 1 1 rfl) ?_
            refine y_gfr rfl rfl rfl rfl rfl (hH.r 1 18 19 rfl) ?_
            refine y_iload rfl rfl ?_
            refine y_ialoadP (n := 12) rfl rfl (by unfold rg; omega) (fun w46 w47 => ?_)
            have w48 : -2147483648 ≤ (Xi S 19 ((z40).toNat)) ∧ (Xi S 19 ((z40).toNat)) ≤ 2147483647 := Xi_rgI
            refine y_callV rfl rfl rfl (t_wo_isA__p hH z41 (Xi S 19 ((z40).toNat)) ⟨by omega, by omega⟩ ⟨by omega, by omega⟩ _) ?_
            rintro _ _ ⟨rfl, z49, rfl, w49, q96⟩
            show Pl _ _ _ _ _ _ [iv z49] _ _
            have K96 : True := trivial
            refine y_if_eq rfl rfl (by unfold rg; omega) (fun w50 => ?_) (fun w51 => ?_)
            · refine y_iinc rfl rfl rfl rfl ?_
              have A112 : aaF S from_ to (v6 + 1 - from_ - 1).toNat = (v3, v4, v5) := by first | (have t := K109; have u := aa_y A32.o (by omega) K109; rw [← v47, ← v60] at u; exact u) | (have t := K96; exact aa_n A32.o (by omega) (fun q => q.2.2 (by rw [← v47, ← v60, ← q96]; omega))) | exact aa_n A32.o (by omega) (fun q => q.2.1 (by rw [← v60]; omega)) | exact aa_n A32.o (by omega) (fun q => q.1 (by rw [← v47]; omega))
              refine y_goto rfl rfl ?_
              exact Pl_weak (ih32 (by omega) (v3) (v4) (v5) ((v6 + 1)) (by omega) (by omega) (by omega) (by omega) (by omega) (by omega) (by first | exact A112 | (show aaF S from_ to (from_ + 1 - from_ - 1).toNat = _; rw [show (from_ + 1 - from_ - 1).toNat = 0 by omega, aaF, ← v8_]; first | (rw [if_pos (by omega)]) | (rw [if_neg (by omega)])))) (by omega) (And.intro rfl (And.intro rfl (And.intro rfl (And.intro rfl (And.intro rfl (And.intro rfl (And.intro rfl (True.intro))))))))
            · refine y_iload rfl rfl ?_
              refine y_istore_n rfl rfl rfl ?_
              refine y_iload rfl rfl ?_
              refine y_istore rfl rfl rfl ?_
              refine y_iinc rfl rfl rfl rfl ?_
              have K109 : aaQ S from_ to v6 := ⟨by rw [← v47]; omega, by rw [← v60]; omega, by rw [← v47, ← v60, ← q96]; omega⟩
              refine y_iinc rfl rfl rfl rfl ?_
              have A112 : aaF S from_ to (v6 + 1 - from_ - 1).toNat = (z40, z41, (v5 + 1)) := by first | (have t := K109; have u := aa_y A32.o (by omega) K109; rw [← v47, ← v60] at u; exact u) | (have t := K96; exact aa_n A32.o (by omega) (fun q => q.2.2 (by rw [← v47, ← v60, ← q96]; omega))) | exact aa_n A32.o (by omega) (fun q => q.2.1 (by rw [← v60]; omega)) | exact aa_n A32.o (by omega) (fun q => q.1 (by rw [← v47]; omega))
              refine y_goto rfl rfl ?_
              exact Pl_weak (ih32 (by omega) (z40) (z41) ((v5 + 1)) ((v6 + 1)) (by omega) (by omega) (by omega) (by omega) (by omega) (by omega) (by first | exact A112 | (show aaF S from_ to (from_ + 1 - from_ - 1).toNat = _; rw [show (from_ + 1 - from_ - 1).toNat = 0 by omega, aaF, ← v8_]; first | (rw [if_pos (by omega)]) | (rw [if_neg (by omega)])))) (by omega) (And.intro rfl (And.intro rfl (And.intro rfl (And.intro rfl (And.intro rfl (And.intro rfl (And.intro rfl (True.intro))))))))
  refine y_aload_n rfl rfl ?_
  refine y_gfr rfl rfl rfl rfl rfl (hH.r 899 2 895 rfl) ?_
  refine y_bipush rfl rfl ?_
  refine y_iload_n rfl rfl ?_
  refine y_iload_n rfl rfl ?_
  refine y_callV rfl rfl rfl (t_me_find__p hH 8 from_ to ⟨by omega, by omega⟩ ⟨by omega, by omega⟩ ⟨by omega, by omega⟩ (by first | assumption | omega) (by first | assumption | exact (CEN_FR hF rfl rfl (by assumption : CEN S))) _) ?_
  rintro _ _ ⟨rfl, z52, rfl, w52, v8_⟩
  show Pl _ _ _ _ _ _ [iv z52] _ _
  refine y_istore_n rfl rfl rfl ?_
  refine y_iconst rfl ?_
  refine y_istore rfl rfl rfl ?_
  refine y_iload_n rfl rfl ?_
  refine y_iconst rfl ?_
  refine y_icmp_ne rfl rfl (by unfold rg; omega) (by unfold rg; omega) (fun w53 => ?_) (fun w54 => ?_)
  · refine y_iconst rfl ?_
    refine y_istore rfl rfl rfl ?_
    refine y_iload_n rfl rfl ?_
    refine y_iconst rfl ?_
    refine y_iadd rfl ?_
    refine y_istore rfl rfl rfl ?_
    exact Pl_weak (C32 fu (by omega) (z52) ((-1)) (1) ((from_ + 1)) (by omega) (by omega) (by omega) (by omega) (by omega) (by omega) (by first | exact A112 | (show aaF S from_ to (from_ + 1 - from_ - 1).toNat = _; rw [show (from_ + 1 - from_ - 1).toNat = 0 by omega, aaF, ← v8_]; first | (rw [if_pos (by omega)]) | (rw [if_neg (by omega)])))) (by omega) (And.intro rfl (And.intro rfl (And.intro rfl (And.intro rfl (And.intro rfl (And.intro rfl (And.intro rfl (True.intro))))))))
  · refine y_iconst rfl ?_
    refine y_goto rfl rfl ?_
    refine y_istore rfl rfl rfl ?_
    refine y_iload_n rfl rfl ?_
    refine y_iconst rfl ?_
    refine y_iadd rfl ?_
    refine y_istore rfl rfl rfl ?_
    exact Pl_weak (C32 fu (by omega) (z52) ((-1)) (0) ((from_ + 1)) (by omega) (by omega) (by omega) (by omega) (by omega) (by omega) (by first | exact A112 | (show aaF S from_ to (from_ + 1 - from_ - 1).toNat = _; rw [show (from_ + 1 - from_ - 1).toNat = 0 by omega, aaF, ← v8_]; first | (rw [if_pos (by omega)]) | (rw [if_neg (by omega)])))) (by omega) (And.intro rfl (And.intro rfl (And.intro rfl (And.intro rfl (And.intro rfl (And.intro rfl (And.intro rfl (True.intro))))))))
end
