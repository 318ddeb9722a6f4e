section
/-! 15: the reference does: an adjective of the objects -/
def l15 : List rec := [(904, 905, 60, 61), (904, 905, 64, 65), (904, 905, 113, 114)]
def h15R (S : sS) : Int := if Xi S 904 75 = 0 then 1 else 0
noncomputable def a15R (S : sS) (o : Int) : Int := acR S (fW S) (nW S) (Xi S 918 o.toNat) 0 (h15R S)
noncomputable def o15R (S : sS) (i : Nat) : Int := rnR S (Xi S 904 71 + i) 4
def RV1 (S W V : sS) (i : Nat) (y : Int) : Prop := ∃ A : sS, FR l15 W A ∧ Xi A 904 60 = (if i = 0 then o15R S i else Xi W 904 60) ∧ TRD A V y (o15R S i) (a15R S (o15R S i)) (h15R S)
def RVC (S : sS) : Nat → sS → Prop
  | 0, V => V = S
  | n + 1, V => ∃ W : sS, RVC S n W ∧ RV1 S W V n 1
def RVF (S S1 : sS) : Prop := ∃ (i : Nat) (W V : sS), i < (Xi S 904 72).toNat ∧ RVC S i W ∧ RV1 S W V i 0 ∧ NTB (NT3 S1) 5 (pR S (Xi S 904 71 + i))
def RVB4 (S S1 : sS) : Prop := (Xi S1 904 106 = 0 ∧ RVC S (Xi S 904 72).toNat S1) ∨ (Xi S1 904 106 ≠ 0 ∧ RVF S S1)
theorem lsp_sm {S V : sS} (m : SMR S V) (h : LSP S) : LSP V := fun j hj => by rw [m.1] at hj; rw [m.2.1 914 j (by omega)]; exact h j hj
theorem lxr_sm {S V : sS} (m : SMR S V) (h : LXR S) : LXR V := fun j hj => by rw [m.1] at hj; rw [m.2.1 914 j (by omega), m.2.1 915 j (by omega)]; exact h j hj
theorem AMR_t {S P V : sS} (h : AMR S P) (k : AMR P V) : AMR S V := ⟨⟨k.1.1.trans h.1.1, fun a j q => (k.1.2.1 a j q).trans (h.1.2.1 a j q), fun j => (k.1.2.2.1 j).trans (h.1.2.2.1 j), fun j => (k.1.2.2.2 j).trans (h.1.2.2.2 j)⟩, k.2.1.trans h.2.1, fun a j q => (k.2.2 a j q).trans (h.2.2 a j q)⟩

def md_mo_doFifteen__4 : List rec := [(904, 905, 15, 16), (904, 905, 19, 20), (904, 905, 30, 31), (904, 905, 60, 61), (904, 905, 64, 65), (904, 905, 73, 74), (904, 905, 105, 106), (904, 905, 106, 107), (904, 905, 113, 114), (912, 913, 0, 100000), (913, 914, 0, 100000), (914, 915, 0, 100000), (915, 916, 0, 100000), (916, 917, 0, 100000), (918, 919, 0, 100000), (919, 920, 0, 100000), (920, 921, 0, 100000), (925, 926, 0, 100000), (926, 927, 0, 100000), (927, 928, 0, 100000), (930, 931, 0, 100000), (931, 932, 0, 100000), (932, 933, 0, 100000), (933, 934, 0, 100000), (934, 935, 0, 100000), (935, 936, 0, 100000)]
abbrev Q_mo_doFifteen__4 (S : sS) : pst := fun r S1 => RI S1 ∧ FR md_mo_doFifteen__4 S S1 ∧ (r = none ∧ (RVB4 S S1))
set_option maxRecDepth 100000 in
theorem t_mo_doFifteen__4 {S : sS} (hH : RI S) (hLS : LSP S) (h15 : 0 ≤ Xi S 904 15) (hRB : RBD S) (hLX : LXR S) (hB : ABV S) (hl : 0 ≤ Xi S 904 71 ∧ Xi S 904 71 ≤ 2600 ∧ 0 ≤ Xi S 904 72 ∧ Xi S 904 72 ≤ 2600) (hkb : Hid (KB3 S)) (hct : Hid (∀ j : Nat, -1 ≤ Xi S 922 j ∧ Xi S 922 j ≤ 23)) (hp32 : 0 ≤ Xi S 904 32 ∧ Xi S 904 32 ≤ 12) (hh : Xi S 904 142 = 4) (hz0 : Xi S 904 106 = 0) (hfw : 0 ≤ Xi S 950 (Xi S 904 78).toNat ∧ Xi S 950 (Xi S 904 78).toNat ≤ 5100) (hac : Hid (∀ i : Nat, (i : Int) < Xi S 904 72 → (0 ≤ o15R S i ∧ o15R S i ≤ 23) ∧ 0 ≤ a15R S (o15R S i) ∧ a15R S (o15R S i) ≤ 7000)) (d : Nat) : Mp lay0 (d + 7) m_mo_doFifteen [.ref 904] S (Q_mo_doFifteen__4 S) := by
  refine Mp_R rfl rfl (fun fu => ?_)
  have hF : FR md_mo_doFifteen__4 S S := FR.rf
  have w1 : -2147483648 ≤ Xi S 904 106 ∧ Xi S 904 106 ≤ 2147483647 := Xi_rgI
  have w2 : -2147483648 ≤ Xi S 904 142 ∧ Xi S 904 142 ≤ 2147483647 := Xi_rgI
  have w3 : -2147483648 ≤ Xi S 904 15 ∧ Xi S 904 15 ≤ 2147483647 := Xi_rgI
  have w4 : -2147483648 ≤ Xi S 904 32 ∧ Xi S 904 32 ≤ 2147483647 := Xi_rgI
  have w5 : -2147483648 ≤ Xi S 904 71 ∧ Xi S 904 71 ≤ 2147483647 := Xi_rgI
  have w6 : -2147483648 ≤ Xi S 904 72 ∧ Xi S 904 72 ≤ 2147483647 := Xi_rgI
  have w7 : -2147483648 ≤ Xi S 904 75 ∧ Xi S 904 75 ≤ 2147483647 := Xi_rgI
  have w8 : -2147483648 ≤ Xi S 904 78 ∧ Xi S 904 78 ≤ 2147483647 := Xi_rgI
  have C120 : ∀ (n120 : Nat) (_ : n120 ≤ fu) (T1 : sS) (_ : RI T1) (_ : FR md_mo_doFifteen__4 S T1) (v2 : Int) (v3 : Int), (0 ≤ v2 ∧ v2 ≤ 2600) → (-2147483648 ≤ v3 ∧ v3 ≤ 2147483647) → ((1 : Int) = 0) → Pl n120 lay0 (d + 6) m_mo_doFifteen 120 [(0, .ref 904), (2, iv v2), (3, iv v3)] [] T1 (Q_mo_doFifteen__4 S) := by
    intro n120
    induction n120 with
    | zero => intros; exact Pl_0
    | succ n120 ih120 =>
      intro hm120 T1 hHT1 hFT1 v2 v3 w9 w10 w11
      have w12 : Xi T1 904 110 = Xi S 904 110 := hFT1.x _ _ rfl
      have w13 : Xi T1 904 112 = Xi S 904 112 := hFT1.x _ _ rfl
      have w14 : Xi T1 904 142 = Xi S 904 142 := hFT1.x _ _ rfl
      have w15 : Xi T1 904 16 = Xi S 904 16 := hFT1.x _ _ rfl
      have w16 : Xi T1 904 23 = Xi S 904 23 := hFT1.x _ _ rfl
      have w17 : Xi T1 904 32 = Xi S 904 32 := hFT1.x _ _ rfl
      have w18 : Xi T1 904 69 = Xi S 904 69 := hFT1.x _ _ rfl
      have w19 : Xi T1 904 70 = Xi S 904 70 := hFT1.x _ _ rfl
      have w20 : Xi T1 904 71 = Xi S 904 71 := hFT1.x _ _ rfl
      have w21 : Xi T1 904 72 = Xi S 904 72 := hFT1.x _ _ rfl
      have w22 : Xi T1 904 74 = Xi S 904 74 := hFT1.x _ _ rfl
      have w23 : Xi T1 904 75 = Xi S 904 75 := hFT1.x _ _ rfl
      have w24 : Xi T1 904 78 = Xi S 904 78 := hFT1.x _ _ rfl
      have w25 : -2147483648 ≤ Xi T1 904 106 ∧ Xi T1 904 106 ≤ 2147483647 := Xi_rgI
      have w26 : -2147483648 ≤ Xi T1 904 142 ∧ Xi T1 904 142 ≤ 2147483647 := Xi_rgI
      have w27 : -2147483648 ≤ Xi T1 904 15 ∧ Xi T1 904 15 ≤ 2147483647 := Xi_rgI
      have w28 : -2147483648 ≤ Xi T1 904 32 ∧ Xi T1 904 32 ≤ 2147483647 := Xi_rgI
      have w29 : -2147483648 ≤ Xi T1 904 71 ∧ Xi T1 904 71 ≤ 2147483647 := Xi_rgI
      have w30 : -2147483648 ≤ Xi T1 904 72 ∧ Xi T1 904 72 ≤ 2147483647 := Xi_rgI
      have w31 : -2147483648 ≤ Xi T1 904 75 ∧ Xi T1 904 75 ≤ 2147483647 := Xi_rgI
      have w32 : -2147483648 ≤ Xi T1 904 78 ∧ Xi T1 904 78 ≤ 2147483647 := Xi_rgI
      exfalso; omega
  have C190 : ∀ (n190 : Nat) (_ : n190 ≤ fu) (T2 : sS) (_ : RI T2) (_ : FR md_mo_doFifteen__4 S T2) (v1 : Int) (v2 : Int), (-2147483648 ≤ v1 ∧ v1 ≤ 2147483600) → (0 ≤ v2 ∧ v2 ≤ 2600) → (0 ≤ v2 ∧ v2 ≤ Xi S 904 72) → (v1 = fW S) → (Hid (Xi T2 904 106 = 0 → RVC S (v2).toNat T2)) → (Hid (Xi T2 904 106 ≠ 0 → RVF S T2)) → (Hid (AMR S T2)) → (Hid (∀ j, Xi T2 918 j = Xi S 918 j)) → (LSP T2) → (LXR T2) → (Xi T2 904 15 = Xi S 904 15) → (Xi T2 904 71 = Xi S 904 71) → (Xi T2 904 72 = Xi S 904 72) → (Xi T2 904 75 = Xi S 904 75) → (Xi T2 904 78 = Xi S 904 78) → (Xi T2 904 32 = Xi S 904 32) → (Xi T2 904 142 = Xi S 904 142) → Pl n190 lay0 (d + 6) m_mo_doFifteen 190 [(0, .ref 904), (1, iv v1), (2, iv v2)] [] T2 (Q_mo_doFifteen__4 S) := by
    intro n190
    induction n190 with
    | zero => intros; exact Pl_0
    | succ n190 ih190 =>
      intro hm190 T2 hHT2 hFT2 v1 v2 w33 w34 w35 i190 D4 G4 M4 K4 hLS4 hLX4 w36 w37 w38 w39 w40 w41 w42
      have w43 : Xi T2 904 110 = Xi S 904 110 := hFT2.x _ _ rfl
      have w44 : Xi T2 904 112 = Xi S 904 112 := hFT2.x _ _ rfl
      have w45 : Xi T2 904 142 = Xi S 904 142 := hFT2.x _ _ rfl
      have w46 : Xi T2 904 16 = Xi S 904 16 := hFT2.x _ _ rfl
      have w47 : Xi T2 904 23 = Xi S 904 23 := hFT2.x _ _ rfl
      have w48 : Xi T2 904 32 = Xi S 904 32 := hFT2.x _ _ rfl
      have w49 : Xi T2 904 69 = Xi S 904 69 := hFT2.x _ _ rfl
      have w50 : Xi T2 904 70 = Xi S 904 70 := hFT2.x _ _ rfl
      have w51 : Xi T2 904 71 = Xi S 904 71 := hFT2.x _ _ rfl
      have w52 : Xi T2 904 72 = Xi S 904 72 := hFT2.x _ _ rfl
      have w53 : Xi T2 904 74 = Xi S 904 74 := hFT2.x _ _ rfl
      have w54 : Xi T2 904 75 = Xi S 904 75 := hFT2.x _ _ rfl
      have w55 : Xi T2 904 78 = Xi S 904 78 := hFT2.x _ _ rfl
      have w56 : -2147483648 ≤ Xi T2 904 106 ∧ Xi T2 904 106 ≤ 2147483647 := Xi_rgI
      have w57 : -2147483648 ≤ Xi T2 904 142 ∧ Xi T2 904 142 ≤ 2147483647 := Xi_rgI
      have w58 : -2147483648 ≤ Xi T2 904 15 ∧ Xi T2 904 15 ≤ 2147483647 := Xi_rgI
      have w59 : -2147483648 ≤ Xi T2 904 32 ∧ Xi T2 904 32 ≤ 2147483647 := Xi_rgI
      have w60 : -2147483648 ≤ Xi T2 904 71 ∧ Xi T2 904 71 ≤ 2147483647 := Xi_rgI
      have w61 : -2147483648 ≤ Xi T2 904 72 ∧ Xi T2 904 72 ≤ 2147483647 := Xi_rgI
      have w62 : -2147483648 ≤ Xi T2 904 75 ∧ Xi T2 904 75 ≤ 2147483647 := Xi_rgI
      have w63 : -2147483648 ≤ Xi T2 904 78 ∧ Xi T2 904 78 ≤ 2147483647 := Xi_rgI
      refine ys_iload_n rfl rfl ?_
      refine y_aload_n rfl rfl ?_
      refine y_gfi rfl rfl rfl rfl rfl ?_
      refine y_icmp_ge rfl rfl (by unfold rg; omega) (by unfold rg; omega) (fun w64 => ?_) (fun w65 => ?_)
      · refine y_return rfl rfl ?_
        exact ⟨hHT2, hFT2, rfl, (by by_cases q : Xi T2 904 106 = 0; (have t := D4.o q; rw [show v2 = Xi S 904 72 by omega] at t; exact Or.inl ⟨q, t⟩); exact Or.inr ⟨q, G4.o q⟩)⟩
      · refine y_aload_n rfl rfl ?_
        refine y_gfi rfl rfl rfl rfl rfl ?_
        refine y_if_ne rfl rfl (by unfold rg; omega) (fun w66 => ?_) (fun w67 => ?_)
        · refine y_return rfl rfl ?_
          exact ⟨hHT2, hFT2, rfl, (by by_cases q : Xi T2 904 106 = 0; (have t := D4.o q; rw [show v2 = Xi S 904 72 by omega] at t; exact Or.inl ⟨q, t⟩); exact Or.inr ⟨q, G4.o q⟩)⟩
        · refine y_aload_n rfl rfl ?_
          have D205 := Hid.i (D4.o (by omega))
          have c205 := hac.o v2.toNat (by omega)
          have M205 := M4
          refine y_aload_n rfl rfl ?_
          refine y_gfi rfl rfl rfl rfl rfl ?_
          refine y_iload_n rfl rfl ?_
          refine y_iadd rfl ?_
          refine y_iconst rfl ?_
          refine y_callV rfl rfl rfl (t_mo_meansRun__p hHT2 ((Xi T2 904 71) + v2) 4 ⟨by omega, by omega⟩ ⟨by omega, by omega⟩ (by first | assumption | exact (by assumption : LSP T2)) (by first | assumption | omega) (by first | assumption | exact (RBD_FR hFT2 rfl (by assumption : RBD S))) _) ?_
          rintro _ _ ⟨rfl, z68, rfl, w68, f213⟩
          show Pl _ _ _ _ _ _ [iv z68] _ _
          have e213 : z68 = o15R S (v2.toNat) := by have t := f213; rw [rnR_sm M205.o.1, show (Xi T2 904 71 + v2 : Int) = Xi S 904 71 + ((v2.toNat : Nat) : Int) by omega] at t; exact t
          clear f213
          refine y_istore_n rfl rfl rfl ?_
          refine y_aload_n rfl rfl ?_
          refine y_iload_n rfl rfl ?_
          refine y_if_ne rfl rfl (by unfold rg; omega) (fun w69 => ?_) (fun w70 => ?_)
          · refine y_aload_n rfl rfl ?_
            refine y_gfi rfl rfl rfl rfl rfl ?_
            have w71 : -2147483648 ≤ (Xi T2 904 60) ∧ (Xi T2 904 60) ≤ 2147483647 := Xi_rgI
            refine y_pfi rfl rfl rfl rfl ?_
            obtain ⟨U3, eU3⟩ : ∃ T : sS, T = uI T2 904 60 (Int32.ofInt (Xi T2 904 60)) := ⟨_, rfl⟩
            rw [← eU3]
            have hHU3 : RI U3 := by rw [eU3]; exact RI_w hHT2
            have hFU3 : FR md_mo_doFifteen__4 S U3 := by rw [eU3]; exact FR.wI hFT2 (mdf_i (r := (904, 905, 60, 61)) (List.mem_of_getElem? (i := 3) rfl) (inR_i (by omega) (by omega) (by omega) (by omega)))
            have w72 : Xi U3 904 60 = (Xi T2 904 60) := by rw [eU3]; exact Xi_same (by unfold rg; omega)
            have F230 : FR l15 T2 U3 := by rw [eU3]; exact FR.wI FR.rf (mdf_i (r := (904, 905, 60, 61)) (List.mem_of_getElem? (i := 0) rfl) (inR_i (by omega) (by omega) (by omega) (by omega)))
            have x230 : Xi U3 904 60 = (if (v2.toNat) = 0 then o15R S (v2.toNat) else Xi T2 904 60) := by first | (rw [if_pos (by omega), ← e213, eU3]; exact Xi_same (by unfold rg; omega)) | (rw [if_neg (by omega), eU3]; exact Xi_same (by unfold rg; omega))
            have m230 : Hid (AMR S U3) := AMR_t M4.o (AMR_FR F230 rfl rfl)
            have z230 : Xi U3 904 106 = 0 := (F230.x 904 106 rfl).trans (by omega)
            refine y_aload_n rfl rfl ?_
            refine y_iload_n rfl rfl ?_
            refine y_aload_n rfl rfl ?_
            refine y_gfr rfl rfl rfl rfl rfl (hHU3.r 904 68 951 rfl) ?_
            refine y_aload_n rfl rfl ?_
            refine y_gfi rfl rfl rfl rfl rfl ?_
            have w73 : (Xi U3 904 78) = (Xi T2 904 78) := (show Xi U3 904 78 = Xi T2 904 78 from by rw [eU3]; exact Xi_ne (by omega))
            rw [w73]
            refine y_ialoadP (n := 2600) rfl rfl (by unfold rg; omega) (fun w74 w75 => ?_)
            have w76 : -2147483648 ≤ (Xi U3 951 (((Xi T2 904 78)).toNat)) ∧ (Xi U3 951 (((Xi T2 904 78)).toNat)) ≤ 2147483647 := Xi_rgI
            have e243 : (Xi U3 951 (((Xi T2 904 78)).toNat)) = nW S := by unfold nW; rw [m230.o.1.2.1 951 _ (by omega), show Xi T2 904 78 = Xi S 904 78 by omega]
            refine y_aload_n rfl rfl ?_
            refine y_gfr rfl rfl rfl rfl rfl (hHU3.r 904 20 918 rfl) ?_
            refine y_iload_n rfl rfl ?_
            refine y_ialoadP (n := 24) rfl rfl (by unfold rg; omega) (fun w77 w78 => ?_)
            have w79 : -2147483648 ≤ (Xi U3 918 ((z68).toNat)) ∧ (Xi U3 918 ((z68).toNat)) ≤ 2147483647 := Xi_rgI
            have e249 : (Xi U3 918 ((z68).toNat)) = Xi S 918 (o15R S (v2.toNat)).toNat := by rw [F230.x 918 _ rfl, K4.o, e213]
            have k249 := hkb.o (o15R S (v2.toNat)).toNat
            refine y_iconst rfl ?_
            refine y_aload_n rfl rfl ?_
            refine y_gfi rfl rfl rfl rfl rfl ?_
            have w80 : (Xi U3 904 75) = (Xi T2 904 75) := (show Xi U3 904 75 = Xi T2 904 75 from by rw [eU3]; exact Xi_ne (by omega))
            rw [w80]
            have e252 : (Xi T2 904 75) = Xi S 904 75 := by omega
            refine y_if_ne rfl rfl (by unfold rg; omega) (fun w81 => ?_) (fun w82 => ?_)
            · refine y_iconst rfl ?_
              have w83 : Xi U3 904 106 = Xi T2 904 106 := (show Xi U3 904 106 = Xi T2 904 106 from by rw [eU3]; exact Xi_ne (by omega))
              have w84 : Xi U3 904 142 = Xi T2 904 142 := (show Xi U3 904 142 = Xi T2 904 142 from by rw [eU3]; exact Xi_ne (by omega))
              have w85 : Xi U3 904 15 = Xi T2 904 15 := (show Xi U3 904 15 = Xi T2 904 15 from by rw [eU3]; exact Xi_ne (by omega))
              have w86 : Xi U3 904 32 = Xi T2 904 32 := (show Xi U3 904 32 = Xi T2 904 32 from by rw [eU3]; exact Xi_ne (by omega))
              have w87 : Xi U3 904 71 = Xi T2 904 71 := (show Xi U3 904 71 = Xi T2 904 71 from by rw [eU3]; exact Xi_ne (by omega))
              have w88 : Xi U3 904 72 = Xi T2 904 72 := (show Xi U3 904 72 = Xi T2 904 72 from by rw [eU3]; exact Xi_ne (by omega))
              have w89 : Xi U3 904 75 = Xi T2 904 75 := (show Xi U3 904 75 = Xi T2 904 75 from by rw [eU3]; exact Xi_ne (by omega))
              have w90 : Xi U3 904 78 = Xi T2 904 78 := (show Xi U3 904 78 = Xi T2 904 78 from by rw [eU3]; exact Xi_ne (by omega))
              refine y_callV rfl rfl rfl (t_mo_adjective__p hHU3 v1 (Xi U3 951 (((Xi T2 904 78)).toNat)) (Xi U3 918 ((z68).toNat)) 0 0 ⟨by omega, by omega⟩ ⟨by omega, by omega⟩ ⟨by omega, by omega⟩ ⟨by omega, by omega⟩ ⟨by omega, by omega⟩ (by first | assumption | exact (LSP_FR (FR_e eU3) rfl rfl (by assumption : LSP T2))) (by first | assumption | omega) (by first | assumption | exact (LXR_FR (FR_e eU3) rfl rfl (by assumption : LXR T2))) (by first | assumption | exact (ABV_FR hFU3 rfl (by assumption : ABV S))) (by first | assumption | omega) _) ?_
              rintro _ T4 ⟨hHT4, w92, z91, rfl, w91, f263, g263⟩
              have hFT4 : FR md_mo_doFifteen__4 S T4 := FR.tr hFU3 w92 rfl
              show Pl _ _ _ _ _ _ [iv z91] _ _
              have F263 : FR l15 T2 T4 := FR.tr F230 (by assumption : FR md_mo_adjective__p U3 T4) rfl
              have x263 : Xi T4 904 60 = (if (v2.toNat) = 0 then o15R S (v2.toNat) else Xi T2 904 60) := ((by assumption : FR md_mo_adjective__p U3 T4).x 904 60 rfl).trans x230
              have e263 : Xi T4 904 113 = a15R S (o15R S (v2.toNat)) := by have t := g263; rw [acR_am m230.o, i190, e243, e249] at t; unfold a15R h15R; first | (rw [if_pos (by omega)]; exact t) | (rw [if_neg (by omega)]; exact t)
              have m263 : Hid (AMR S T4) := AMR_t M4.o (AMR_FR F263 rfl rfl)
              have k263 : Hid (∀ j, Xi T4 918 j = Xi S 918 j) := fun j => (F263.x 918 j rfl).trans (K4.o j)
              have z263 : Xi T4 904 106 = 0 := ((by assumption : FR md_mo_adjective__p U3 T4).x 904 106 rfl).trans z230
              clear f263 g263
              refine y_pop rfl rfl ?_
              refine y_aload_n rfl rfl ?_
              refine y_iload_n rfl rfl ?_
              refine y_aload_n rfl rfl ?_
              refine y_gfi rfl rfl rfl rfl rfl ?_
              have w93 : -2147483648 ≤ (Xi T4 904 113) ∧ (Xi T4 904 113) ≤ 2147483647 := Xi_rgI
              refine y_aload_n rfl rfl ?_
              refine y_gfi rfl rfl rfl rfl rfl ?_
              have w94 : (Xi T4 904 75) = (Xi T2 904 75) := (show Xi T4 904 75 = Xi U3 904 75 from w92.x _ _ rfl).trans ((show Xi U3 904 75 = Xi T2 904 75 from by rw [eU3]; exact Xi_ne (by omega)))
              rw [w94]
              have e274 : (Xi T2 904 75) = Xi S 904 75 := by omega
              refine y_if_ne rfl rfl (by unfold rg; omega) (fun w95 => ?_) (fun w96 => ?_)
              · refine y_iconst rfl ?_
                have w97 : Xi T4 904 106 = Xi T2 904 106 := (show Xi T4 904 106 = Xi U3 904 106 from w92.x _ _ rfl).trans ((show Xi U3 904 106 = Xi T2 904 106 from by rw [eU3]; exact Xi_ne (by omega)))
                have w98 : Xi T4 904 142 = Xi T2 904 142 := (show Xi T4 904 142 = Xi U3 904 142 from w92.x _ _ rfl).trans ((show Xi U3 904 142 = Xi T2 904 142 from by rw [eU3]; exact Xi_ne (by omega)))
                have w99 : Xi T4 904 15 = Xi T2 904 15 := (show Xi T4 904 15 = Xi U3 904 15 from w92.x _ _ rfl).trans ((show Xi U3 904 15 = Xi T2 904 15 from by rw [eU3]; exact Xi_ne (by omega)))
                have w100 : Xi T4 904 32 = Xi T2 904 32 := (show Xi T4 904 32 = Xi U3 904 32 from w92.x _ _ rfl).trans ((show Xi U3 904 32 = Xi T2 904 32 from by rw [eU3]; exact Xi_ne (by omega)))
                have w101 : Xi T4 904 71 = Xi T2 904 71 := (show Xi T4 904 71 = Xi U3 904 71 from w92.x _ _ rfl).trans ((show Xi U3 904 71 = Xi T2 904 71 from by rw [eU3]; exact Xi_ne (by omega)))
                have w102 : Xi T4 904 72 = Xi T2 904 72 := (show Xi T4 904 72 = Xi U3 904 72 from w92.x _ _ rfl).trans ((show Xi U3 904 72 = Xi T2 904 72 from by rw [eU3]; exact Xi_ne (by omega)))
                have w103 : Xi T4 904 75 = Xi T2 904 75 := (show Xi T4 904 75 = Xi U3 904 75 from w92.x _ _ rfl).trans ((show Xi U3 904 75 = Xi T2 904 75 from by rw [eU3]; exact Xi_ne (by omega)))
                have w104 : Xi T4 904 78 = Xi T2 904 78 := (show Xi T4 904 78 = Xi U3 904 78 from w92.x _ _ rfl).trans ((show Xi U3 904 78 = Xi T2 904 78 from by rw [eU3]; exact Xi_ne (by omega)))
                refine y_callV rfl rfl rfl (t_mo_tellRead__p hHT4 z68 (Xi T4 904 113) 0 ⟨by omega, by omega⟩ ⟨by omega, by omega⟩ ⟨by omega, by omega⟩ (fun j => by rw [(hFT4.cx 922 rfl j).1]; exact hct.o j) _) ?_
                rintro _ T5 ⟨hHT5, w106, z105, rfl, w105, o285⟩
                have hFT5 : FR md_mo_doFifteen__4 S T5 := FR.tr hFT4 w106 rfl
                show Pl _ _ _ _ _ _ [iv z105] _ _
                have O285 : Hid (∀ y : Int, y = z105 → RV1 S T2 T5 (v2.toNat) y) := fun y hy => ⟨_, F263, x263, by have t := o285; rw [e213, e263, ← hy] at t; unfold h15R; first | (rw [if_pos (by omega)]; exact t) | (rw [if_neg (by omega)]; exact t)⟩
                have T285 : Hid (TRD T4 T5 z105 (o15R S (v2.toNat)) (a15R S (o15R S (v2.toNat))) (h15R S)) := by have t := o285; rw [e213, e263] at t; unfold h15R; first | (rw [if_pos (by omega)]; exact t) | (rw [if_neg (by omega)]; exact t)
                clear o285
                have F285 := (by assumption : FR md_mo_tellRead__p T4 T5)
                have m285 : Hid (AMR S T5) := AMR_t m263.o (AMR_FR F285 rfl rfl)
                have k285 : Hid (∀ j, Xi T5 918 j = Xi S 918 j) := fun j => (F285.x 918 j rfl).trans (k263.o j)
                have z285 : Xi T5 904 106 = 0 := ((by assumption : FR md_mo_tellRead__p T4 T5).x 904 106 rfl).trans z263
                obtain ⟨zz, hzz⟩ : ∃ w : Int, w = z105 := ⟨_, rfl⟩
                refine y_if_ne rfl rfl (by unfold rg; omega) (fun w107 => ?_) (fun w108 => ?_)
                · refine y_iinc rfl rfl rfl rfl ?_
                  have R307 : Hid ((Xi T5 904 106 = 0 → RVC S (v2 + 1).toNat T5) ∧ (Xi T5 904 106 ≠ 0 → RVF S T5)) := by rw [show (v2 + 1).toNat = v2.toNat + 1 by omega]; first | (have t := K304; exact ⟨fun q => by omega, fun _ => ⟨v2.toNat, _, _, by omega, D205.o, O285.o 0 (by omega), Y304⟩⟩) | exact ⟨fun _ => ⟨_, D205.o, O285.o 1 (by omega)⟩, fun q => absurd z285 q⟩
                  have M307 : Hid (AMR S T5) := by first | (have t := K304; exact AMR_t m285.o (AMR_FR F304 rfl rfl)) | exact m285
                  have k307 : Hid (∀ j, Xi T5 918 j = Xi S 918 j) := by first | (have t := K304; exact fun j => (F304.x 918 j rfl).trans (k285.o j)) | exact k285
                  refine y_goto rfl rfl ?_
                  have w109 : Xi T5 904 106 = Xi T2 904 106 := (show Xi T5 904 106 = Xi T4 904 106 from w106.x _ _ rfl).trans ( (show Xi T4 904 106 = Xi U3 904 106 from w92.x _ _ rfl).trans ((show Xi U3 904 106 = Xi T2 904 106 from by rw [eU3]; exact Xi_ne (by omega))))
                  have w110 : Xi T5 904 142 = Xi T2 904 142 := (show Xi T5 904 142 = Xi T4 904 142 from w106.x _ _ rfl).trans ( (show Xi T4 904 142 = Xi U3 904 142 from w92.x _ _ rfl).trans ((show Xi U3 904 142 = Xi T2 904 142 from by rw [eU3]; exact Xi_ne (by omega))))
                  have w111 : Xi T5 904 15 = Xi T2 904 15 := (show Xi T5 904 15 = Xi T4 904 15 from w106.x _ _ rfl).trans ( (show Xi T4 904 15 = Xi U3 904 15 from w92.x _ _ rfl).trans ((show Xi U3 904 15 = Xi T2 904 15 from by rw [eU3]; exact Xi_ne (by omega))))
                  have w112 : Xi T5 904 32 = Xi T2 904 32 := (show Xi T5 904 32 = Xi T4 904 32 from w106.x _ _ rfl).trans ( (show Xi T4 904 32 = Xi U3 904 32 from w92.x _ _ rfl).trans ((show Xi U3 904 32 = Xi T2 904 32 from by rw [eU3]; exact Xi_ne (by omega))))
                  have w113 : Xi T5 904 71 = Xi T2 904 71 := (show Xi T5 904 71 = Xi T4 904 71 from w106.x _ _ rfl).trans ( (show Xi T4 904 71 = Xi U3 904 71 from w92.x _ _ rfl).trans ((show Xi U3 904 71 = Xi T2 904 71 from by rw [eU3]; exact Xi_ne (by omega))))
                  have w114 : Xi T5 904 72 = Xi T2 904 72 := (show Xi T5 904 72 = Xi T4 904 72 from w106.x _ _ rfl).trans ( (show Xi T4 904 72 = Xi U3 904 72 from w92.x _ _ rfl).trans ((show Xi U3 904 72 = Xi T2 904 72 from by rw [eU3]; exact Xi_ne (by omega))))
                  have w115 : Xi T5 904 75 = Xi T2 904 75 := (show Xi T5 904 75 = Xi T4 904 75 from w106.x _ _ rfl).trans ( (show Xi T4 904 75 = Xi U3 904 75 from w92.x _ _ rfl).trans ((show Xi U3 904 75 = Xi T2 904 75 from by rw [eU3]; exact Xi_ne (by omega))))
                  have w116 : Xi T5 904 78 = Xi T2 904 78 := (show Xi T5 904 78 = Xi T4 904 78 from w106.x _ _ rfl).trans ( (show Xi T4 904 78 = Xi U3 904 78 from w92.x _ _ rfl).trans ((show Xi U3 904 78 = Xi T2 904 78 from by rw [eU3]; exact Xi_ne (by omega))))
                  exact Pl_weak (ih190 (by omega) T5 hHT5 hFT5 (v1) ((v2 + 1)) (by omega) (by omega) (by omega) (by first | exact i190 | rfl) (by first | exact R307.o.1 | exact fun _ => rfl) (by first | exact R307.o.2 | exact fun q => absurd hz0 q) (by first | exact M307 | exact AMR.rf) (by first | exact k307 | exact fun _ => rfl) (by first | exact lsp_sm M307.o.1 hLS | exact hLS) (by first | exact lxr_sm M307.o.1 hLX | exact hLX) (by omega) (by omega) (by omega) (by omega) (by omega) (by omega) (by omega)) (by omega) (And.intro rfl (And.intro rfl (And.intro rfl (True.intro))))
                · refine y_aload_n rfl rfl ?_
                  refine y_iconst rfl ?_
                  refine y_aload_n rfl rfl ?_
                  refine y_gfr rfl rfl rfl rfl rfl (hHT5.r 904 67 950 rfl) ?_
                  refine y_aload_n rfl rfl ?_
                  refine y_gfi rfl rfl rfl rfl rfl ?_
                  have w117 : (Xi T5 904 71) = (Xi T2 904 71) := (show Xi T5 904 71 = Xi T4 904 71 from w106.x _ _ rfl).trans ( (show Xi T4 904 71 = Xi U3 904 71 from w92.x _ _ rfl).trans ((show Xi U3 904 71 = Xi T2 904 71 from by rw [eU3]; exact Xi_ne (by omega))))
                  rw [w117]
                  refine y_iload_n rfl rfl ?_
                  refine y_iadd rfl ?_
                  refine y_ialoadP (n := 2600) rfl rfl (by unfold rg; omega) (fun w118 w119 => ?_)
                  have w120 : -2147483648 ≤ (Xi T5 950 ((((Xi T2 904 71) + v2)).toNat)) ∧ (Xi T5 950 ((((Xi T2 904 71) + v2)).toNat)) ≤ 2147483647 := Xi_rgI
                  have w121 : Xi T5 904 106 = Xi T2 904 106 := (show Xi T5 904 106 = Xi T4 904 106 from w106.x _ _ rfl).trans ( (show Xi T4 904 106 = Xi U3 904 106 from w92.x _ _ rfl).trans ((show Xi U3 904 106 = Xi T2 904 106 from by rw [eU3]; exact Xi_ne (by omega))))
                  have w125 : Xi T5 904 71 = Xi T2 904 71 := (show Xi T5 904 71 = Xi T4 904 71 from w106.x _ _ rfl).trans ( (show Xi T4 904 71 = Xi U3 904 71 from w92.x _ _ rfl).trans ((show Xi U3 904 71 = Xi T2 904 71 from by rw [eU3]; exact Xi_ne (by omega))))
                  refine y_callV rfl rfl rfl (t_mo_wrong__p hHT5 5 (Xi T5 950 ((((Xi T2 904 71) + v2)).toNat)) ⟨by omega, by omega⟩ ⟨by omega, by omega⟩ _) ?_
                  rintro _ T6 ⟨hHT6, w131, rfl, w304, w129⟩
                  have hFT6 : FR md_mo_doFifteen__4 S T6 := FR.tr hFT5 w131 rfl
                  show Pl _ _ _ _ _ _ [] _ _
                  have K304 : True := trivial
                  have F304 := (by assumption : FR md_mo_wrong__p T5 T6)
                  have Y304 : NTB (NT3 T6) 5 (pR S (Xi S 904 71 + (v2.toNat))) := by have t := w304 z285; rw [m285.o.1.2.1 908 _ (by omega), m285.o.1.2.1 950 _ (by omega), show (Xi T2 904 71 + v2 : Int) = Xi S 904 71 + ((v2.toNat : Nat) : Int) by omega] at t; exact t
                  have x304 : Xi T6 904 106 = 5 := Y304.1
                  refine y_iinc rfl rfl rfl rfl ?_
                  have R307 : Hid ((Xi T6 904 106 = 0 → RVC S (v2 + 1).toNat T6) ∧ (Xi T6 904 106 ≠ 0 → RVF S T6)) := by rw [show (v2 + 1).toNat = v2.toNat + 1 by omega]; first | (have t := K304; exact ⟨fun q => by omega, fun _ => ⟨v2.toNat, _, _, by omega, D205.o, O285.o 0 (by omega), Y304⟩⟩) | exact ⟨fun _ => ⟨_, D205.o, O285.o 1 (by omega)⟩, fun q => absurd z285 q⟩
                  have M307 : Hid (AMR S T6) := by first | (have t := K304; exact AMR_t m285.o (AMR_FR F304 rfl rfl)) | exact m285
                  have k307 : Hid (∀ j, Xi T6 918 j = Xi S 918 j) := by first | (have t := K304; exact fun j => (F304.x 918 j rfl).trans (k285.o j)) | exact k285
                  refine y_goto rfl rfl ?_
                  have w132 : Xi T6 904 142 = Xi T2 904 142 := (show Xi T6 904 142 = Xi T5 904 142 from w131.x _ _ rfl).trans ( (show Xi T5 904 142 = Xi T4 904 142 from w106.x _ _ rfl).trans ( (show Xi T4 904 142 = Xi U3 904 142 from w92.x _ _ rfl).trans ((show Xi U3 904 142 = Xi T2 904 142 from by rw [eU3]; exact Xi_ne (by omega)))))
                  have w133 : Xi T6 904 15 = Xi T2 904 15 := (show Xi T6 904 15 = Xi T5 904 15 from w131.x _ _ rfl).trans ( (show Xi T5 904 15 = Xi T4 904 15 from w106.x _ _ rfl).trans ( (show Xi T4 904 15 = Xi U3 904 15 from w92.x _ _ rfl).trans ((show Xi U3 904 15 = Xi T2 904 15 from by rw [eU3]; exact Xi_ne (by omega)))))
                  have w134 : Xi T6 904 32 = Xi T2 904 32 := (show Xi T6 904 32 = Xi T5 904 32 from w131.x _ _ rfl).trans ( (show Xi T5 904 32 = Xi T4 904 32 from w106.x _ _ rfl).trans ( (show Xi T4 904 32 = Xi U3 904 32 from w92.x _ _ rfl).trans ((show Xi U3 904 32 = Xi T2 904 32 from by rw [eU3]; exact Xi_ne (by omega)))))
                  have w135 : Xi T6 904 71 = Xi T2 904 71 := (show Xi T6 904 71 = Xi T5 904 71 from w131.x _ _ rfl).trans ( (show Xi T5 904 71 = Xi T4 904 71 from w106.x _ _ rfl).trans ( (show Xi T4 904 71 = Xi U3 904 71 from w92.x _ _ rfl).trans ((show Xi U3 904 71 = Xi T2 904 71 from by rw [eU3]; exact Xi_ne (by omega)))))
                  have w136 : Xi T6 904 72 = Xi T2 904 72 := (show Xi T6 904 72 = Xi T5 904 72 from w131.x _ _ rfl).trans ( (show Xi T5 904 72 = Xi T4 904 72 from w106.x _ _ rfl).trans ( (show Xi T4 904 72 = Xi U3 904 72 from w92.x _ _ rfl).trans ((show Xi U3 904 72 = Xi T2 904 72 from by rw [eU3]; exact Xi_ne (by omega)))))
                  have w137 : Xi T6 904 75 = Xi T2 904 75 := (show Xi T6 904 75 = Xi T5 904 75 from w131.x _ _ rfl).trans ( (show Xi T5 904 75 = Xi T4 904 75 from w106.x _ _ rfl).trans ( (show Xi T4 904 75 = Xi U3 904 75 from w92.x _ _ rfl).trans ((show Xi U3 904 75 = Xi T2 904 75 from by rw [eU3]; exact Xi_ne (by omega)))))
                  have w138 : Xi T6 904 78 = Xi T2 904 78 := (show Xi T6 904 78 = Xi T5 904 78 from w131.x _ _ rfl).trans ( (show Xi T5 904 78 = Xi T4 904 78 from w106.x _ _ rfl).trans ( (show Xi T4 904 78 = Xi U3 904 78 from w92.x _ _ rfl).trans ((show Xi U3 904 78 = Xi T2 904 78 from by rw [eU3]; exact Xi_ne (by omega)))))
                  exact Pl_weak (ih190 (by omega) T6 hHT6 hFT6 (v1) ((v2 + 1)) (by omega) (by omega) (by omega) (by first | exact i190 | rfl) (by first | exact R307.o.1 | exact fun _ => rfl) (by first | exact R307.o.2 | exact fun q => absurd hz0 q) (by first | exact M307 | exact AMR.rf) (by first | exact k307 | exact fun _ => rfl) (by first | exact lsp_sm M307.o.1 hLS | exact hLS) (by first | exact lxr_sm M307.o.1 hLX | exact hLX) (by omega) (by omega) (by omega) (by omega) (by omega) (by omega) (by omega)) (by omega) (And.intro rfl (And.intro rfl (And.intro rfl (True.intro))))
              · exfalso; omega
            · refine y_iconst rfl ?_
              refine y_goto rfl rfl ?_
              have w139 : Xi U3 904 106 = Xi T2 904 106 := (show Xi U3 904 106 = Xi T2 904 106 from by rw [eU3]; exact Xi_ne (by omega))
              have w140 : Xi U3 904 142 = Xi T2 904 142 := (show Xi U3 904 142 = Xi T2 904 142 from by rw [eU3]; exact Xi_ne (by omega))
              have w141 : Xi U3 904 15 = Xi T2 904 15 := (show Xi U3 904 15 = Xi T2 904 15 from by rw [eU3]; exact Xi_ne (by omega))
              have w142 : Xi U3 904 32 = Xi T2 904 32 := (show Xi U3 904 32 = Xi T2 904 32 from by rw [eU3]; exact Xi_ne (by omega))
              have w143 : Xi U3 904 71 = Xi T2 904 71 := (show Xi U3 904 71 = Xi T2 904 71 from by rw [eU3]; exact Xi_ne (by omega))
              have w144 : Xi U3 904 72 = Xi T2 904 72 := (show Xi U3 904 72 = Xi T2 904 72 from by rw [eU3]; exact Xi_ne (by omega))
              have w145 : Xi U3 904 75 = Xi T2 904 75 := (show Xi U3 904 75 = Xi T2 904 75 from by rw [eU3]; exact Xi_ne (by omega))
              have w146 : Xi U3 904 78 = Xi T2 904 78 := (show Xi U3 904 78 = Xi T2 904 78 from by rw [eU3]; exact Xi_ne (by omega))
              refine y_callV rfl rfl rfl (t_mo_adjective__p hHU3 v1 (Xi U3 951 (((Xi T2 904 78)).toNat)) (Xi U3 918 ((z68).toNat)) 0 1 ⟨by omega, by omega⟩ ⟨by omega, by omega⟩ ⟨by omega, by omega⟩ ⟨by omega, by omega⟩ ⟨by omega, by omega⟩ (by first | assumption | exact (LSP_FR (FR_e eU3) rfl rfl (by assumption : LSP T2))) (by first | assumption | omega) (by first | assumption | exact (LXR_FR (FR_e eU3) rfl rfl (by assumption : LXR T2))) (by first | assumption | exact (ABV_FR hFU3 rfl (by assumption : ABV S))) (by first | assumption | omega) _) ?_
              rintro _ T7 ⟨hHT7, w148, z147, rfl, w147, f263, g263⟩
              have hFT7 : FR md_mo_doFifteen__4 S T7 := FR.tr hFU3 w148 rfl
              show Pl _ _ _ _ _ _ [iv z147] _ _
              have F263 : FR l15 T2 T7 := FR.tr F230 (by assumption : FR md_mo_adjective__p U3 T7) rfl
              have x263 : Xi T7 904 60 = (if (v2.toNat) = 0 then o15R S (v2.toNat) else Xi T2 904 60) := ((by assumption : FR md_mo_adjective__p U3 T7).x 904 60 rfl).trans x230
              have e263 : Xi T7 904 113 = a15R S (o15R S (v2.toNat)) := by have t := g263; rw [acR_am m230.o, i190, e243, e249] at t; unfold a15R h15R; first | (rw [if_pos (by omega)]; exact t) | (rw [if_neg (by omega)]; exact t)
              have m263 : Hid (AMR S T7) := AMR_t M4.o (AMR_FR F263 rfl rfl)
              have k263 : Hid (∀ j, Xi T7 918 j = Xi S 918 j) := fun j => (F263.x 918 j rfl).trans (K4.o j)
              have z263 : Xi T7 904 106 = 0 := ((by assumption : FR md_mo_adjective__p U3 T7).x 904 106 rfl).trans z230
              clear f263 g263
              refine y_pop rfl rfl ?_
              refine y_aload_n rfl rfl ?_
              refine y_iload_n rfl rfl ?_
              refine y_aload_n rfl rfl ?_
              refine y_gfi rfl rfl rfl rfl rfl ?_
              have w149 : -2147483648 ≤ (Xi T7 904 113) ∧ (Xi T7 904 113) ≤ 2147483647 := Xi_rgI
              refine y_aload_n rfl rfl ?_
              refine y_gfi rfl rfl rfl rfl rfl ?_
              have w150 : (Xi T7 904 75) = (Xi T2 904 75) := (show Xi T7 904 75 = Xi U3 904 75 from w148.x _ _ rfl).trans ((show Xi U3 904 75 = Xi T2 904 75 from by rw [eU3]; exact Xi_ne (by omega)))
              rw [w150]
              have e274 : (Xi T2 904 75) = Xi S 904 75 := by omega
              refine y_if_ne rfl rfl (by unfold rg; omega) (fun w151 => ?_) (fun w152 => ?_)
              · exfalso; omega
              · refine y_iconst rfl ?_
                refine y_goto rfl rfl ?_
                have w153 : Xi T7 904 106 = Xi T2 904 106 := (show Xi T7 904 106 = Xi U3 904 106 from w148.x _ _ rfl).trans ((show Xi U3 904 106 = Xi T2 904 106 from by rw [eU3]; exact Xi_ne (by omega)))
                have w154 : Xi T7 904 142 = Xi T2 904 142 := (show Xi T7 904 142 = Xi U3 904 142 from w148.x _ _ rfl).trans ((show Xi U3 904 142 = Xi T2 904 142 from by rw [eU3]; exact Xi_ne (by omega)))
                have w155 : Xi T7 904 15 = Xi T2 904 15 := (show Xi T7 904 15 = Xi U3 904 15 from w148.x _ _ rfl).trans ((show Xi U3 904 15 = Xi T2 904 15 from by rw [eU3]; exact Xi_ne (by omega)))
                have w156 : Xi T7 904 32 = Xi T2 904 32 := (show Xi T7 904 32 = Xi U3 904 32 from w148.x _ _ rfl).trans ((show Xi U3 904 32 = Xi T2 904 32 from by rw [eU3]; exact Xi_ne (by omega)))
                have w157 : Xi T7 904 71 = Xi T2 904 71 := (show Xi T7 904 71 = Xi U3 904 71 from w148.x _ _ rfl).trans ((show Xi U3 904 71 = Xi T2 904 71 from by rw [eU3]; exact Xi_ne (by omega)))
                have w158 : Xi T7 904 72 = Xi T2 904 72 := (show Xi T7 904 72 = Xi U3 904 72 from w148.x _ _ rfl).trans ((show Xi U3 904 72 = Xi T2 904 72 from by rw [eU3]; exact Xi_ne (by omega)))
                have w159 : Xi T7 904 75 = Xi T2 904 75 := (show Xi T7 904 75 = Xi U3 904 75 from w148.x _ _ rfl).trans ((show Xi U3 904 75 = Xi T2 904 75 from by rw [eU3]; exact Xi_ne (by omega)))
                have w160 : Xi T7 904 78 = Xi T2 904 78 := (show Xi T7 904 78 = Xi U3 904 78 from w148.x _ _ rfl).trans ((show Xi U3 904 78 = Xi T2 904 78 from by rw [eU3]; exact Xi_ne (by omega)))
                refine y_callV rfl rfl rfl (t_mo_tellRead__p hHT7 z68 (Xi T7 904 113) 1 ⟨by omega, by omega⟩ ⟨by omega, by omega⟩ ⟨by omega, by omega⟩ (fun j => by rw [(hFT7.cx 922 rfl j).1]; exact hct.o j) _) ?_
                rintro _ T8 ⟨hHT8, w162, z161, rfl, w161, o285⟩
                have hFT8 : FR md_mo_doFifteen__4 S T8 := FR.tr hFT7 w162 rfl
                show Pl _ _ _ _ _ _ [iv z161] _ _
                have O285 : Hid (∀ y : Int, y = z161 → RV1 S T2 T8 (v2.toNat) y) := fun y hy => ⟨_, F263, x263, by have t := o285; rw [e213, e263, ← hy] at t; unfold h15R; first | (rw [if_pos (by omega)]; exact t) | (rw [if_neg (by omega)]; exact t)⟩
                have T285 : Hid (TRD T7 T8 z161 (o15R S (v2.toNat)) (a15R S (o15R S (v2.toNat))) (h15R S)) := by have t := o285; rw [e213, e263] at t; unfold h15R; first | (rw [if_pos (by omega)]; exact t) | (rw [if_neg (by omega)]; exact t)
                clear o285
                have F285 := (by assumption : FR md_mo_tellRead__p T7 T8)
                have m285 : Hid (AMR S T8) := AMR_t m263.o (AMR_FR F285 rfl rfl)
                have k285 : Hid (∀ j, Xi T8 918 j = Xi S 918 j) := fun j => (F285.x 918 j rfl).trans (k263.o j)
                have z285 : Xi T8 904 106 = 0 := ((by assumption : FR md_mo_tellRead__p T7 T8).x 904 106 rfl).trans z263
                obtain ⟨zz, hzz⟩ : ∃ w : Int, w = z161 := ⟨_, rfl⟩
                refine y_if_ne rfl rfl (by unfold rg; omega) (fun w163 => ?_) (fun w164 => ?_)
                · refine y_iinc rfl rfl rfl rfl ?_
                  have R307 : Hid ((Xi T8 904 106 = 0 → RVC S (v2 + 1).toNat T8) ∧ (Xi T8 904 106 ≠ 0 → RVF S T8)) := by rw [show (v2 + 1).toNat = v2.toNat + 1 by omega]; first | (have t := K304; exact ⟨fun q => by omega, fun _ => ⟨v2.toNat, _, _, by omega, D205.o, O285.o 0 (by omega), Y304⟩⟩) | exact ⟨fun _ => ⟨_, D205.o, O285.o 1 (by omega)⟩, fun q => absurd z285 q⟩
                  have M307 : Hid (AMR S T8) := by first | (have t := K304; exact AMR_t m285.o (AMR_FR F304 rfl rfl)) | exact m285
                  have k307 : Hid (∀ j, Xi T8 918 j = Xi S 918 j) := by first | (have t := K304; exact fun j => (F304.x 918 j rfl).trans (k285.o j)) | exact k285
                  refine y_goto rfl rfl ?_
                  have w165 : Xi T8 904 106 = Xi T2 904 106 := (show Xi T8 904 106 = Xi T7 904 106 from w162.x _ _ rfl).trans ( (show Xi T7 904 106 = Xi U3 904 106 from w148.x _ _ rfl).trans ((show Xi U3 904 106 = Xi T2 904 106 from by rw [eU3]; exact Xi_ne (by omega))))
                  have w166 : Xi T8 904 142 = Xi T2 904 142 := (show Xi T8 904 142 = Xi T7 904 142 from w162.x _ _ rfl).trans ( (show Xi T7 904 142 = Xi U3 904 142 from w148.x _ _ rfl).trans ((show Xi U3 904 142 = Xi T2 904 142 from by rw [eU3]; exact Xi_ne (by omega))))
                  have w167 : Xi T8 904 15 = Xi T2 904 15 := (show Xi T8 904 15 = Xi T7 904 15 from w162.x _ _ rfl).trans ( (show Xi T7 904 15 = Xi U3 904 15 from w148.x _ _ rfl).trans ((show Xi U3 904 15 = Xi T2 904 15 from by rw [eU3]; exact Xi_ne (by omega))))
                  have w168 : Xi T8 904 32 = Xi T2 904 32 := (show Xi T8 904 32 = Xi T7 904 32 from w162.x _ _ rfl).trans ( (show Xi T7 904 32 = Xi U3 904 32 from w148.x _ _ rfl).trans ((show Xi U3 904 32 = Xi T2 904 32 from by rw [eU3]; exact Xi_ne (by omega))))
                  have w169 : Xi T8 904 71 = Xi T2 904 71 := (show Xi T8 904 71 = Xi T7 904 71 from w162.x _ _ rfl).trans ( (show Xi T7 904 71 = Xi U3 904 71 from w148.x _ _ rfl).trans ((show Xi U3 904 71 = Xi T2 904 71 from by rw [eU3]; exact Xi_ne (by omega))))
                  have w170 : Xi T8 904 72 = Xi T2 904 72 := (show Xi T8 904 72 = Xi T7 904 72 from w162.x _ _ rfl).trans ( (show Xi T7 904 72 = Xi U3 904 72 from w148.x _ _ rfl).trans ((show Xi U3 904 72 = Xi T2 904 72 from by rw [eU3]; exact Xi_ne (by omega))))
                  have w171 : Xi T8 904 75 = Xi T2 904 75 := (show Xi T8 904 75 = Xi T7 904 75 from w162.x _ _ rfl).trans ( (show Xi T7 904 75 = Xi U3 904 75 from w148.x _ _ rfl).trans ((show Xi U3 904 75 = Xi T2 904 75 from by rw [eU3]; exact Xi_ne (by omega))))
                  have w172 : Xi T8 904 78 = Xi T2 904 78 := (show Xi T8 904 78 = Xi T7 904 78 from w162.x _ _ rfl).trans ( (show Xi T7 904 78 = Xi U3 904 78 from w148.x _ _ rfl).trans ((show Xi U3 904 78 = Xi T2 904 78 from by rw [eU3]; exact Xi_ne (by omega))))
                  exact Pl_weak (ih190 (by omega) T8 hHT8 hFT8 (v1) ((v2 + 1)) (by omega) (by omega) (by omega) (by first | exact i190 | rfl) (by first | exact R307.o.1 | exact fun _ => rfl) (by first | exact R307.o.2 | exact fun q => absurd hz0 q) (by first | exact M307 | exact AMR.rf) (by first | exact k307 | exact fun _ => rfl) (by first | exact lsp_sm M307.o.1 hLS | exact hLS) (by first | exact lxr_sm M307.o.1 hLX | exact hLX) (by omega) (by omega) (by omega) (by omega) (by omega) (by omega) (by omega)) (by omega) (And.intro rfl (And.intro rfl (And.intro rfl (True.intro))))
                · refine y_aload_n rfl rfl ?_
                  refine y_iconst rfl ?_
                  refine y_aload_n rfl rfl ?_
                  refine y_gfr rfl rfl rfl rfl rfl (hHT8.r 904 67 950 rfl) ?_
                  refine y_aload_n rfl rfl ?_
                  refine y_gfi rfl rfl rfl rfl rfl ?_
                  have w173 : (Xi T8 904 71) = (Xi T2 904 71) := (show Xi T8 904 71 = Xi T7 904 71 from w162.x _ _ rfl).trans ( (show Xi T7 904 71 = Xi U3 904 71 from w148.x _ _ rfl).trans ((show Xi U3 904 71 = Xi T2 904 71 from by rw [eU3]; exact Xi_ne (by omega))))
                  rw [w173]
                  refine y_iload_n rfl rfl ?_
                  refine y_iadd rfl ?_
                  refine y_ialoadP (n := 2600) rfl rfl (by unfold rg; omega) (fun w174 w175 => ?_)
                  have w176 : -2147483648 ≤ (Xi T8 950 ((((Xi T2 904 71) + v2)).toNat)) ∧ (Xi T8 950 ((((Xi T2 904 71) + v2)).toNat)) ≤ 2147483647 := Xi_rgI
                  have w177 : Xi T8 904 106 = Xi T2 904 106 := (show Xi T8 904 106 = Xi T7 904 106 from w162.x _ _ rfl).trans ( (show Xi T7 904 106 = Xi U3 904 106 from w148.x _ _ rfl).trans ((show Xi U3 904 106 = Xi T2 904 106 from by rw [eU3]; exact Xi_ne (by omega))))
                  have w181 : Xi T8 904 71 = Xi T2 904 71 := (show Xi T8 904 71 = Xi T7 904 71 from w162.x _ _ rfl).trans ( (show Xi T7 904 71 = Xi U3 904 71 from w148.x _ _ rfl).trans ((show Xi U3 904 71 = Xi T2 904 71 from by rw [eU3]; exact Xi_ne (by omega))))
                  refine y_callV rfl rfl rfl (t_mo_wrong__p hHT8 5 (Xi T8 950 ((((Xi T2 904 71) + v2)).toNat)) ⟨by omega, by omega⟩ ⟨by omega, by omega⟩ _) ?_
                  rintro _ T9 ⟨hHT9, w187, rfl, w304, w185⟩
                  have hFT9 : FR md_mo_doFifteen__4 S T9 := FR.tr hFT8 w187 rfl
                  show Pl _ _ _ _ _ _ [] _ _
                  have K304 : True := trivial
                  have F304 := (by assumption : FR md_mo_wrong__p T8 T9)
                  have Y304 : NTB (NT3 T9) 5 (pR S (Xi S 904 71 + (v2.toNat))) := by have t := w304 z285; rw [m285.o.1.2.1 908 _ (by omega), m285.o.1.2.1 950 _ (by omega), show (Xi T2 904 71 + v2 : Int) = Xi S 904 71 + ((v2.toNat : Nat) : Int) by omega] at t; exact t
                  have x304 : Xi T9 904 106 = 5 := Y304.1
                  refine y_iinc rfl rfl rfl rfl ?_
                  have R307 : Hid ((Xi T9 904 106 = 0 → RVC S (v2 + 1).toNat T9) ∧ (Xi T9 904 106 ≠ 0 → RVF S T9)) := by rw [show (v2 + 1).toNat = v2.toNat + 1 by omega]; first | (have t := K304; exact ⟨fun q => by omega, fun _ => ⟨v2.toNat, _, _, by omega, D205.o, O285.o 0 (by omega), Y304⟩⟩) | exact ⟨fun _ => ⟨_, D205.o, O285.o 1 (by omega)⟩, fun q => absurd z285 q⟩
                  have M307 : Hid (AMR S T9) := by first | (have t := K304; exact AMR_t m285.o (AMR_FR F304 rfl rfl)) | exact m285
                  have k307 : Hid (∀ j, Xi T9 918 j = Xi S 918 j) := by first | (have t := K304; exact fun j => (F304.x 918 j rfl).trans (k285.o j)) | exact k285
                  refine y_goto rfl rfl ?_
                  have w188 : Xi T9 904 142 = Xi T2 904 142 := (show Xi T9 904 142 = Xi T8 904 142 from w187.x _ _ rfl).trans ( (show Xi T8 904 142 = Xi T7 904 142 from w162.x _ _ rfl).trans ( (show Xi T7 904 142 = Xi U3 904 142 from w148.x _ _ rfl).trans ((show Xi U3 904 142 = Xi T2 904 142 from by rw [eU3]; exact Xi_ne (by omega)))))
                  have w189 : Xi T9 904 15 = Xi T2 904 15 := (show Xi T9 904 15 = Xi T8 904 15 from w187.x _ _ rfl).trans ( (show Xi T8 904 15 = Xi T7 904 15 from w162.x _ _ rfl).trans ( (show Xi T7 904 15 = Xi U3 904 15 from w148.x _ _ rfl).trans ((show Xi U3 904 15 = Xi T2 904 15 from by rw [eU3]; exact Xi_ne (by omega)))))
                  have w190 : Xi T9 904 32 = Xi T2 904 32 := (show Xi T9 904 32 = Xi T8 904 32 from w187.x _ _ rfl).trans ( (show Xi T8 904 32 = Xi T7 904 32 from w162.x _ _ rfl).trans ( (show Xi T7 904 32 = Xi U3 904 32 from w148.x _ _ rfl).trans ((show Xi U3 904 32 = Xi T2 904 32 from by rw [eU3]; exact Xi_ne (by omega)))))
                  have w191 : Xi T9 904 71 = Xi T2 904 71 := (show Xi T9 904 71 = Xi T8 904 71 from w187.x _ _ rfl).trans ( (show Xi T8 904 71 = Xi T7 904 71 from w162.x _ _ rfl).trans ( (show Xi T7 904 71 = Xi U3 904 71 from w148.x _ _ rfl).trans ((show Xi U3 904 71 = Xi T2 904 71 from by rw [eU3]; exact Xi_ne (by omega)))))
                  have w192 : Xi T9 904 72 = Xi T2 904 72 := (show Xi T9 904 72 = Xi T8 904 72 from w187.x _ _ rfl).trans ( (show Xi T8 904 72 = Xi T7 904 72 from w162.x _ _ rfl).trans ( (show Xi T7 904 72 = Xi U3 904 72 from w148.x _ _ rfl).trans ((show Xi U3 904 72 = Xi T2 904 72 from by rw [eU3]; exact Xi_ne (by omega)))))
                  have w193 : Xi T9 904 75 = Xi T2 904 75 := (show Xi T9 904 75 = Xi T8 904 75 from w187.x _ _ rfl).trans ( (show Xi T8 904 75 = Xi T7 904 75 from w162.x _ _ rfl).trans ( (show Xi T7 904 75 = Xi U3 904 75 from w148.x _ _ rfl).trans ((show Xi U3 904 75 = Xi T2 904 75 from by rw [eU3]; exact Xi_ne (by omega)))))
                  have w194 : Xi T9 904 78 = Xi T2 904 78 := (show Xi T9 904 78 = Xi T8 904 78 from w187.x _ _ rfl).trans ( (show Xi T8 904 78 = Xi T7 904 78 from w162.x _ _ rfl).trans ( (show Xi T7 904 78 = Xi U3 904 78 from w148.x _ _ rfl).trans ((show Xi U3 904 78 = Xi T2 904 78 from by rw [eU3]; exact Xi_ne (by omega)))))
                  exact Pl_weak (ih190 (by omega) T9 hHT9 hFT9 (v1) ((v2 + 1)) (by omega) (by omega) (by omega) (by first | exact i190 | rfl) (by first | exact R307.o.1 | exact fun _ => rfl) (by first | exact R307.o.2 | exact fun q => absurd hz0 q) (by first | exact M307 | exact AMR.rf) (by first | exact k307 | exact fun _ => rfl) (by first | exact lsp_sm M307.o.1 hLS | exact hLS) (by first | exact lxr_sm M307.o.1 hLX | exact hLX) (by omega) (by omega) (by omega) (by omega) (by omega) (by omega) (by omega)) (by omega) (And.intro rfl (And.intro rfl (And.intro rfl (True.intro))))
          · refine y_iload_n rfl rfl ?_
            refine y_goto rfl rfl ?_
            refine y_pfi rfl rfl rfl rfl ?_
            obtain ⟨U10, eU10⟩ : ∃ T : sS, T = uI T2 904 60 (Int32.ofInt z68) := ⟨_, rfl⟩
            rw [← eU10]
            have hHU10 : RI U10 := by rw [eU10]; exact RI_w hHT2
            have hFU10 : FR md_mo_doFifteen__4 S U10 := by rw [eU10]; exact FR.wI hFT2 (mdf_i (r := (904, 905, 60, 61)) (List.mem_of_getElem? (i := 3) rfl) (inR_i (by omega) (by omega) (by omega) (by omega)))
            have w195 : Xi U10 904 60 = z68 := by rw [eU10]; exact Xi_same (by unfold rg; omega)
            have F230 : FR l15 T2 U10 := by rw [eU10]; exact FR.wI FR.rf (mdf_i (r := (904, 905, 60, 61)) (List.mem_of_getElem? (i := 0) rfl) (inR_i (by omega) (by omega) (by omega) (by omega)))
            have x230 : Xi U10 904 60 = (if (v2.toNat) = 0 then o15R S (v2.toNat) else Xi T2 904 60) := by first | (rw [if_pos (by omega), ← e213, eU10]; exact Xi_same (by unfold rg; omega)) | (rw [if_neg (by omega), eU10]; exact Xi_same (by unfold rg; omega))
            have m230 : Hid (AMR S U10) := AMR_t M4.o (AMR_FR F230 rfl rfl)
            have z230 : Xi U10 904 106 = 0 := (F230.x 904 106 rfl).trans (by omega)
            refine y_aload_n rfl rfl ?_
            refine y_iload_n rfl rfl ?_
            refine y_aload_n rfl rfl ?_
            refine y_gfr rfl rfl rfl rfl rfl (hHU10.r 904 68 951 rfl) ?_
            refine y_aload_n rfl rfl ?_
            refine y_gfi rfl rfl rfl rfl rfl ?_
            have w196 : (Xi U10 904 78) = (Xi T2 904 78) := (show Xi U10 904 78 = Xi T2 904 78 from by rw [eU10]; exact Xi_ne (by omega))
            rw [w196]
            refine y_ialoadP (n := 2600) rfl rfl (by unfold rg; omega) (fun w197 w198 => ?_)
            have w199 : -2147483648 ≤ (Xi U10 951 (((Xi T2 904 78)).toNat)) ∧ (Xi U10 951 (((Xi T2 904 78)).toNat)) ≤ 2147483647 := Xi_rgI
            have e243 : (Xi U10 951 (((Xi T2 904 78)).toNat)) = nW S := by unfold nW; rw [m230.o.1.2.1 951 _ (by omega), show Xi T2 904 78 = Xi S 904 78 by omega]
            refine y_aload_n rfl rfl ?_
            refine y_gfr rfl rfl rfl rfl rfl (hHU10.r 904 20 918 rfl) ?_
            refine y_iload_n rfl rfl ?_
            refine y_ialoadP (n := 24) rfl rfl (by unfold rg; omega) (fun w200 w201 => ?_)
            have w202 : -2147483648 ≤ (Xi U10 918 ((z68).toNat)) ∧ (Xi U10 918 ((z68).toNat)) ≤ 2147483647 := Xi_rgI
            have e249 : (Xi U10 918 ((z68).toNat)) = Xi S 918 (o15R S (v2.toNat)).toNat := by rw [F230.x 918 _ rfl, K4.o, e213]
            have k249 := hkb.o (o15R S (v2.toNat)).toNat
            refine y_iconst rfl ?_
            refine y_aload_n rfl rfl ?_
            refine y_gfi rfl rfl rfl rfl rfl ?_
            have w203 : (Xi U10 904 75) = (Xi T2 904 75) := (show Xi U10 904 75 = Xi T2 904 75 from by rw [eU10]; exact Xi_ne (by omega))
            rw [w203]
            have e252 : (Xi T2 904 75) = Xi S 904 75 := by omega
            refine y_if_ne rfl rfl (by unfold rg; omega) (fun w204 => ?_) (fun w205 => ?_)
            · refine y_iconst rfl ?_
              have w206 : Xi U10 904 106 = Xi T2 904 106 := (show Xi U10 904 106 = Xi T2 904 106 from by rw [eU10]; exact Xi_ne (by omega))
              have w207 : Xi U10 904 142 = Xi T2 904 142 := (show Xi U10 904 142 = Xi T2 904 142 from by rw [eU10]; exact Xi_ne (by omega))
              have w208 : Xi U10 904 15 = Xi T2 904 15 := (show Xi U10 904 15 = Xi T2 904 15 from by rw [eU10]; exact Xi_ne (by omega))
              have w209 : Xi U10 904 32 = Xi T2 904 32 := (show Xi U10 904 32 = Xi T2 904 32 from by rw [eU10]; exact Xi_ne (by omega))
              have w210 : Xi U10 904 71 = Xi T2 904 71 := (show Xi U10 904 71 = Xi T2 904 71 from by rw [eU10]; exact Xi_ne (by omega))
              have w211 : Xi U10 904 72 = Xi T2 904 72 := (show Xi U10 904 72 = Xi T2 904 72 from by rw [eU10]; exact Xi_ne (by omega))
              have w212 : Xi U10 904 75 = Xi T2 904 75 := (show Xi U10 904 75 = Xi T2 904 75 from by rw [eU10]; exact Xi_ne (by omega))
              have w213 : Xi U10 904 78 = Xi T2 904 78 := (show Xi U10 904 78 = Xi T2 904 78 from by rw [eU10]; exact Xi_ne (by omega))
              refine y_callV rfl rfl rfl (t_mo_adjective__p hHU10 v1 (Xi U10 951 (((Xi T2 904 78)).toNat)) (Xi U10 918 ((z68).toNat)) 0 0 ⟨by omega, by omega⟩ ⟨by omega, by omega⟩ ⟨by omega, by omega⟩ ⟨by omega, by omega⟩ ⟨by omega, by omega⟩ (by first | assumption | exact (LSP_FR (FR_e eU10) rfl rfl (by assumption : LSP T2))) (by first | assumption | omega) (by first | assumption | exact (LXR_FR (FR_e eU10) rfl rfl (by assumption : LXR T2))) (by first | assumption | exact (ABV_FR hFU10 rfl (by assumption : ABV S))) (by first | assumption | omega) _) ?_
              rintro _ T11 ⟨hHT11, w215, z214, rfl, w214, f263, g263⟩
              have hFT11 : FR md_mo_doFifteen__4 S T11 := FR.tr hFU10 w215 rfl
              show Pl _ _ _ _ _ _ [iv z214] _ _
              have F263 : FR l15 T2 T11 := FR.tr F230 (by assumption : FR md_mo_adjective__p U10 T11) rfl
              have x263 : Xi T11 904 60 = (if (v2.toNat) = 0 then o15R S (v2.toNat) else Xi T2 904 60) := ((by assumption : FR md_mo_adjective__p U10 T11).x 904 60 rfl).trans x230
              have e263 : Xi T11 904 113 = a15R S (o15R S (v2.toNat)) := by have t := g263; rw [acR_am m230.o, i190, e243, e249] at t; unfold a15R h15R; first | (rw [if_pos (by omega)]; exact t) | (rw [if_neg (by omega)]; exact t)
              have m263 : Hid (AMR S T11) := AMR_t M4.o (AMR_FR F263 rfl rfl)
              have k263 : Hid (∀ j, Xi T11 918 j = Xi S 918 j) := fun j => (F263.x 918 j rfl).trans (K4.o j)
              have z263 : Xi T11 904 106 = 0 := ((by assumption : FR md_mo_adjective__p U10 T11).x 904 106 rfl).trans z230
              clear f263 g263
              refine y_pop rfl rfl ?_
              refine y_aload_n rfl rfl ?_
              refine y_iload_n rfl rfl ?_
              refine y_aload_n rfl rfl ?_
              refine y_gfi rfl rfl rfl rfl rfl ?_
              have w216 : -2147483648 ≤ (Xi T11 904 113) ∧ (Xi T11 904 113) ≤ 2147483647 := Xi_rgI
              refine y_aload_n rfl rfl ?_
              refine y_gfi rfl rfl rfl rfl rfl ?_
              have w217 : (Xi T11 904 75) = (Xi T2 904 75) := (show Xi T11 904 75 = Xi U10 904 75 from w215.x _ _ rfl).trans ((show Xi U10 904 75 = Xi T2 904 75 from by rw [eU10]; exact Xi_ne (by omega)))
              rw [w217]
              have e274 : (Xi T2 904 75) = Xi S 904 75 := by omega
              refine y_if_ne rfl rfl (by unfold rg; omega) (fun w218 => ?_) (fun w219 => ?_)
              · refine y_iconst rfl ?_
                have w220 : Xi T11 904 106 = Xi T2 904 106 := (show Xi T11 904 106 = Xi U10 904 106 from w215.x _ _ rfl).trans ((show Xi U10 904 106 = Xi T2 904 106 from by rw [eU10]; exact Xi_ne (by omega)))
                have w221 : Xi T11 904 142 = Xi T2 904 142 := (show Xi T11 904 142 = Xi U10 904 142 from w215.x _ _ rfl).trans ((show Xi U10 904 142 = Xi T2 904 142 from by rw [eU10]; exact Xi_ne (by omega)))
                have w222 : Xi T11 904 15 = Xi T2 904 15 := (show Xi T11 904 15 = Xi U10 904 15 from w215.x _ _ rfl).trans ((show Xi U10 904 15 = Xi T2 904 15 from by rw [eU10]; exact Xi_ne (by omega)))
                have w223 : Xi T11 904 32 = Xi T2 904 32 := (show Xi T11 904 32 = Xi U10 904 32 from w215.x _ _ rfl).trans ((show Xi U10 904 32 = Xi T2 904 32 from by rw [eU10]; exact Xi_ne (by omega)))
                have w224 : Xi T11 904 71 = Xi T2 904 71 := (show Xi T11 904 71 = Xi U10 904 71 from w215.x _ _ rfl).trans ((show Xi U10 904 71 = Xi T2 904 71 from by rw [eU10]; exact Xi_ne (by omega)))
                have w225 : Xi T11 904 72 = Xi T2 904 72 := (show Xi T11 904 72 = Xi U10 904 72 from w215.x _ _ rfl).trans ((show Xi U10 904 72 = Xi T2 904 72 from by rw [eU10]; exact Xi_ne (by omega)))
                have w226 : Xi T11 904 75 = Xi T2 904 75 := (show Xi T11 904 75 = Xi U10 904 75 from w215.x _ _ rfl).trans ((show Xi U10 904 75 = Xi T2 904 75 from by rw [eU10]; exact Xi_ne (by omega)))
                have w227 : Xi T11 904 78 = Xi T2 904 78 := (show Xi T11 904 78 = Xi U10 904 78 from w215.x _ _ rfl).trans ((show Xi U10 904 78 = Xi T2 904 78 from by rw [eU10]; exact Xi_ne (by omega)))
                refine y_callV rfl rfl rfl (t_mo_tellRead__p hHT11 z68 (Xi T11 904 113) 0 ⟨by omega, by omega⟩ ⟨by omega, by omega⟩ ⟨by omega, by omega⟩ (fun j => by rw [(hFT11.cx 922 rfl j).1]; exact hct.o j) _) ?_
                rintro _ T12 ⟨hHT12, w229, z228, rfl, w228, o285⟩
                have hFT12 : FR md_mo_doFifteen__4 S T12 := FR.tr hFT11 w229 rfl
                show Pl _ _ _ _ _ _ [iv z228] _ _
                have O285 : Hid (∀ y : Int, y = z228 → RV1 S T2 T12 (v2.toNat) y) := fun y hy => ⟨_, F263, x263, by have t := o285; rw [e213, e263, ← hy] at t; unfold h15R; first | (rw [if_pos (by omega)]; exact t) | (rw [if_neg (by omega)]; exact t)⟩
                have T285 : Hid (TRD T11 T12 z228 (o15R S (v2.toNat)) (a15R S (o15R S (v2.toNat))) (h15R S)) := by have t := o285; rw [e213, e263] at t; unfold h15R; first | (rw [if_pos (by omega)]; exact t) | (rw [if_neg (by omega)]; exact t)
                clear o285
                have F285 := (by assumption : FR md_mo_tellRead__p T11 T12)
                have m285 : Hid (AMR S T12) := AMR_t m263.o (AMR_FR F285 rfl rfl)
                have k285 : Hid (∀ j, Xi T12 918 j = Xi S 918 j) := fun j => (F285.x 918 j rfl).trans (k263.o j)
                have z285 : Xi T12 904 106 = 0 := ((by assumption : FR md_mo_tellRead__p T11 T12).x 904 106 rfl).trans z263
                obtain ⟨zz, hzz⟩ : ∃ w : Int, w = z228 := ⟨_, rfl⟩
                refine y_if_ne rfl rfl (by unfold rg; omega) (fun w230 => ?_) (fun w231 => ?_)
                · refine y_iinc rfl rfl rfl rfl ?_
                  have R307 : Hid ((Xi T12 904 106 = 0 → RVC S (v2 + 1).toNat T12) ∧ (Xi T12 904 106 ≠ 0 → RVF S T12)) := by rw [show (v2 + 1).toNat = v2.toNat + 1 by omega]; first | (have t := K304; exact ⟨fun q => by omega, fun _ => ⟨v2.toNat, _, _, by omega, D205.o, O285.o 0 (by omega), Y304⟩⟩) | exact ⟨fun _ => ⟨_, D205.o, O285.o 1 (by omega)⟩, fun q => absurd z285 q⟩
                  have M307 : Hid (AMR S T12) := by first | (have t := K304; exact AMR_t m285.o (AMR_FR F304 rfl rfl)) | exact m285
                  have k307 : Hid (∀ j, Xi T12 918 j = Xi S 918 j) := by first | (have t := K304; exact fun j => (F304.x 918 j rfl).trans (k285.o j)) | exact k285
                  refine y_goto rfl rfl ?_
                  have w232 : Xi T12 904 106 = Xi T2 904 106 := (show Xi T12 904 106 = Xi T11 904 106 from w229.x _ _ rfl).trans ( (show Xi T11 904 106 = Xi U10 904 106 from w215.x _ _ rfl).trans ((show Xi U10 904 106 = Xi T2 904 106 from by rw [eU10]; exact Xi_ne (by omega))))
                  have w233 : Xi T12 904 142 = Xi T2 904 142 := (show Xi T12 904 142 = Xi T11 904 142 from w229.x _ _ rfl).trans ( (show Xi T11 904 142 = Xi U10 904 142 from w215.x _ _ rfl).trans ((show Xi U10 904 142 = Xi T2 904 142 from by rw [eU10]; exact Xi_ne (by omega))))
                  have w234 : Xi T12 904 15 = Xi T2 904 15 := (show Xi T12 904 15 = Xi T11 904 15 from w229.x _ _ rfl).trans ( (show Xi T11 904 15 = Xi U10 904 15 from w215.x _ _ rfl).trans ((show Xi U10 904 15 = Xi T2 904 15 from by rw [eU10]; exact Xi_ne (by omega))))
                  have w235 : Xi T12 904 32 = Xi T2 904 32 := (show Xi T12 904 32 = Xi T11 904 32 from w229.x _ _ rfl).trans ( (show Xi T11 904 32 = Xi U10 904 32 from w215.x _ _ rfl).trans ((show Xi U10 904 32 = Xi T2 904 32 from by rw [eU10]; exact Xi_ne (by omega))))
                  have w236 : Xi T12 904 71 = Xi T2 904 71 := (show Xi T12 904 71 = Xi T11 904 71 from w229.x _ _ rfl).trans ( (show Xi T11 904 71 = Xi U10 904 71 from w215.x _ _ rfl).trans ((show Xi U10 904 71 = Xi T2 904 71 from by rw [eU10]; exact Xi_ne (by omega))))
                  have w237 : Xi T12 904 72 = Xi T2 904 72 := (show Xi T12 904 72 = Xi T11 904 72 from w229.x _ _ rfl).trans ( (show Xi T11 904 72 = Xi U10 904 72 from w215.x _ _ rfl).trans ((show Xi U10 904 72 = Xi T2 904 72 from by rw [eU10]; exact Xi_ne (by omega))))
                  have w238 : Xi T12 904 75 = Xi T2 904 75 := (show Xi T12 904 75 = Xi T11 904 75 from w229.x _ _ rfl).trans ( (show Xi T11 904 75 = Xi U10 904 75 from w215.x _ _ rfl).trans ((show Xi U10 904 75 = Xi T2 904 75 from by rw [eU10]; exact Xi_ne (by omega))))
                  have w239 : Xi T12 904 78 = Xi T2 904 78 := (show Xi T12 904 78 = Xi T11 904 78 from w229.x _ _ rfl).trans ( (show Xi T11 904 78 = Xi U10 904 78 from w215.x _ _ rfl).trans ((show Xi U10 904 78 = Xi T2 904 78 from by rw [eU10]; exact Xi_ne (by omega))))
                  exact Pl_weak (ih190 (by omega) T12 hHT12 hFT12 (v1) ((v2 + 1)) (by omega) (by omega) (by omega) (by first | exact i190 | rfl) (by first | exact R307.o.1 | exact fun _ => rfl) (by first | exact R307.o.2 | exact fun q => absurd hz0 q) (by first | exact M307 | exact AMR.rf) (by first | exact k307 | exact fun _ => rfl) (by first | exact lsp_sm M307.o.1 hLS | exact hLS) (by first | exact lxr_sm M307.o.1 hLX | exact hLX) (by omega) (by omega) (by omega) (by omega) (by omega) (by omega) (by omega)) (by omega) (And.intro rfl (And.intro rfl (And.intro rfl (True.intro))))
                · refine y_aload_n rfl rfl ?_
                  refine y_iconst rfl ?_
                  refine y_aload_n rfl rfl ?_
                  refine y_gfr rfl rfl rfl rfl rfl (hHT12.r 904 67 950 rfl) ?_
                  refine y_aload_n rfl rfl ?_
                  refine y_gfi rfl rfl rfl rfl rfl ?_
                  have w240 : (Xi T12 904 71) = (Xi T2 904 71) := (show Xi T12 904 71 = Xi T11 904 71 from w229.x _ _ rfl).trans ( (show Xi T11 904 71 = Xi U10 904 71 from w215.x _ _ rfl).trans ((show Xi U10 904 71 = Xi T2 904 71 from by rw [eU10]; exact Xi_ne (by omega))))
                  rw [w240]
                  refine y_iload_n rfl rfl ?_
                  refine y_iadd rfl ?_
                  refine y_ialoadP (n := 2600) rfl rfl (by unfold rg; omega) (fun w241 w242 => ?_)
                  have w243 : -2147483648 ≤ (Xi T12 950 ((((Xi T2 904 71) + v2)).toNat)) ∧ (Xi T12 950 ((((Xi T2 904 71) + v2)).toNat)) ≤ 2147483647 := Xi_rgI
                  have w244 : Xi T12 904 106 = Xi T2 904 106 := (show Xi T12 904 106 = Xi T11 904 106 from w229.x _ _ rfl).trans ( (show Xi T11 904 106 = Xi U10 904 106 from w215.x _ _ rfl).trans ((show Xi U10 904 106 = Xi T2 904 106 from by rw [eU10]; exact Xi_ne (by omega))))
                  have w248 : Xi T12 904 71 = Xi T2 904 71 := (show Xi T12 904 71 = Xi T11 904 71 from w229.x _ _ rfl).trans ( (show Xi T11 904 71 = Xi U10 904 71 from w215.x _ _ rfl).trans ((show Xi U10 904 71 = Xi T2 904 71 from by rw [eU10]; exact Xi_ne (by omega))))
                  refine y_callV rfl rfl rfl (t_mo_wrong__p hHT12 5 (Xi T12 950 ((((Xi T2 904 71) + v2)).toNat)) ⟨by omega, by omega⟩ ⟨by omega, by omega⟩ _) ?_
                  rintro _ T13 ⟨hHT13, w254, rfl, w304, w252⟩
                  have hFT13 : FR md_mo_doFifteen__4 S T13 := FR.tr hFT12 w254 rfl
                  show Pl _ _ _ _ _ _ [] _ _
                  have K304 : True := trivial
                  have F304 := (by assumption : FR md_mo_wrong__p T12 T13)
                  have Y304 : NTB (NT3 T13) 5 (pR S (Xi S 904 71 + (v2.toNat))) := by have t := w304 z285; rw [m285.o.1.2.1 908 _ (by omega), m285.o.1.2.1 950 _ (by omega), show (Xi T2 904 71 + v2 : Int) = Xi S 904 71 + ((v2.toNat : Nat) : Int) by omega] at t; exact t
                  have x304 : Xi T13 904 106 = 5 := Y304.1
                  refine y_iinc rfl rfl rfl rfl ?_
                  have R307 : Hid ((Xi T13 904 106 = 0 → RVC S (v2 + 1).toNat T13) ∧ (Xi T13 904 106 ≠ 0 → RVF S T13)) := by rw [show (v2 + 1).toNat = v2.toNat + 1 by omega]; first | (have t := K304; exact ⟨fun q => by omega, fun _ => ⟨v2.toNat, _, _, by omega, D205.o, O285.o 0 (by omega), Y304⟩⟩) | exact ⟨fun _ => ⟨_, D205.o, O285.o 1 (by omega)⟩, fun q => absurd z285 q⟩
                  have M307 : Hid (AMR S T13) := by first | (have t := K304; exact AMR_t m285.o (AMR_FR F304 rfl rfl)) | exact m285
                  have k307 : Hid (∀ j, Xi T13 918 j = Xi S 918 j) := by first | (have t := K304; exact fun j => (F304.x 918 j rfl).trans (k285.o j)) | exact k285
                  refine y_goto rfl rfl ?_
                  have w255 : Xi T13 904 142 = Xi T2 904 142 := (show Xi T13 904 142 = Xi T12 904 142 from w254.x _ _ rfl).trans ( (show Xi T12 904 142 = Xi T11 904 142 from w229.x _ _ rfl).trans ( (show Xi T11 904 142 = Xi U10 904 142 from w215.x _ _ rfl).trans ((show Xi U10 904 142 = Xi T2 904 142 from by rw [eU10]; exact Xi_ne (by omega)))))
                  have w256 : Xi T13 904 15 = Xi T2 904 15 := (show Xi T13 904 15 = Xi T12 904 15 from w254.x _ _ rfl).trans ( (show Xi T12 904 15 = Xi T11 904 15 from w229.x _ _ rfl).trans ( (show Xi T11 904 15 = Xi U10 904 15 from w215.x _ _ rfl).trans ((show Xi U10 904 15 = Xi T2 904 15 from by rw [eU10]; exact Xi_ne (by omega)))))
                  have w257 : Xi T13 904 32 = Xi T2 904 32 := (show Xi T13 904 32 = Xi T12 904 32 from w254.x _ _ rfl).trans ( (show Xi T12 904 32 = Xi T11 904 32 from w229.x _ _ rfl).trans ( (show Xi T11 904 32 = Xi U10 904 32 from w215.x _ _ rfl).trans ((show Xi U10 904 32 = Xi T2 904 32 from by rw [eU10]; exact Xi_ne (by omega)))))
                  have w258 : Xi T13 904 71 = Xi T2 904 71 := (show Xi T13 904 71 = Xi T12 904 71 from w254.x _ _ rfl).trans ( (show Xi T12 904 71 = Xi T11 904 71 from w229.x _ _ rfl).trans ( (show Xi T11 904 71 = Xi U10 904 71 from w215.x _ _ rfl).trans ((show Xi U10 904 71 = Xi T2 904 71 from by rw [eU10]; exact Xi_ne (by omega)))))
                  have w259 : Xi T13 904 72 = Xi T2 904 72 := (show Xi T13 904 72 = Xi T12 904 72 from w254.x _ _ rfl).trans ( (show Xi T12 904 72 = Xi T11 904 72 from w229.x _ _ rfl).trans ( (show Xi T11 904 72 = Xi U10 904 72 from w215.x _ _ rfl).trans ((show Xi U10 904 72 = Xi T2 904 72 from by rw [eU10]; exact Xi_ne (by omega)))))
                  have w260 : Xi T13 904 75 = Xi T2 904 75 := (show Xi T13 904 75 = Xi T12 904 75 from w254.x _ _ rfl).trans ( (show Xi T12 904 75 = Xi T11 904 75 from w229.x _ _ rfl).trans ( (show Xi T11 904 75 = Xi U10 904 75 from w215.x _ _ rfl).trans ((show Xi U10 904 75 = Xi T2 904 75 from by rw [eU10]; exact Xi_ne (by omega)))))
                  have w261 : Xi T13 904 78 = Xi T2 904 78 := (show Xi T13 904 78 = Xi T12 904 78 from w254.x _ _ rfl).trans ( (show Xi T12 904 78 = Xi T11 904 78 from w229.x _ _ rfl).trans ( (show Xi T11 904 78 = Xi U10 904 78 from w215.x _ _ rfl).trans ((show Xi U10 904 78 = Xi T2 904 78 from by rw [eU10]; exact Xi_ne (by omega)))))
                  exact Pl_weak (ih190 (by omega) T13 hHT13 hFT13 (v1) ((v2 + 1)) (by omega) (by omega) (by omega) (by first | exact i190 | rfl) (by first | exact R307.o.1 | exact fun _ => rfl) (by first | exact R307.o.2 | exact fun q => absurd hz0 q) (by first | exact M307 | exact AMR.rf) (by first | exact k307 | exact fun _ => rfl) (by first | exact lsp_sm M307.o.1 hLS | exact hLS) (by first | exact lxr_sm M307.o.1 hLX | exact hLX) (by omega) (by omega) (by omega) (by omega) (by omega) (by omega) (by omega)) (by omega) (And.intro rfl (And.intro rfl (And.intro rfl (True.intro))))
              · exfalso; omega
            · refine y_iconst rfl ?_
              refine y_goto rfl rfl ?_
              have w262 : Xi U10 904 106 = Xi T2 904 106 := (show Xi U10 904 106 = Xi T2 904 106 from by rw [eU10]; exact Xi_ne (by omega))
              have w263 : Xi U10 904 142 = Xi T2 904 142 := (show Xi U10 904 142 = Xi T2 904 142 from by rw [eU10]; exact Xi_ne (by omega))
              have w264 : Xi U10 904 15 = Xi T2 904 15 := (show Xi U10 904 15 = Xi T2 904 15 from by rw [eU10]; exact Xi_ne (by omega))
              have w265 : Xi U10 904 32 = Xi T2 904 32 := (show Xi U10 904 32 = Xi T2 904 32 from by rw [eU10]; exact Xi_ne (by omega))
              have w266 : Xi U10 904 71 = Xi T2 904 71 := (show Xi U10 904 71 = Xi T2 904 71 from by rw [eU10]; exact Xi_ne (by omega))
              have w267 : Xi U10 904 72 = Xi T2 904 72 := (show Xi U10 904 72 = Xi T2 904 72 from by rw [eU10]; exact Xi_ne (by omega))
              have w268 : Xi U10 904 75 = Xi T2 904 75 := (show Xi U10 904 75 = Xi T2 904 75 from by rw [eU10]; exact Xi_ne (by omega))
              have w269 : Xi U10 904 78 = Xi T2 904 78 := (show Xi U10 904 78 = Xi T2 904 78 from by rw [eU10]; exact Xi_ne (by omega))
              refine y_callV rfl rfl rfl (t_mo_adjective__p hHU10 v1 (Xi U10 951 (((Xi T2 904 78)).toNat)) (Xi U10 918 ((z68).toNat)) 0 1 ⟨by omega, by omega⟩ ⟨by omega, by omega⟩ ⟨by omega, by omega⟩ ⟨by omega, by omega⟩ ⟨by omega, by omega⟩ (by first | assumption | exact (LSP_FR (FR_e eU10) rfl rfl (by assumption : LSP T2))) (by first | assumption | omega) (by first | assumption | exact (LXR_FR (FR_e eU10) rfl rfl (by assumption : LXR T2))) (by first | assumption | exact (ABV_FR hFU10 rfl (by assumption : ABV S))) (by first | assumption | omega) _) ?_
              rintro _ T14 ⟨hHT14, w271, z270, rfl, w270, f263, g263⟩
              have hFT14 : FR md_mo_doFifteen__4 S T14 := FR.tr hFU10 w271 rfl
              show Pl _ _ _ _ _ _ [iv z270] _ _
              have F263 : FR l15 T2 T14 := FR.tr F230 (by assumption : FR md_mo_adjective__p U10 T14) rfl
              have x263 : Xi T14 904 60 = (if (v2.toNat) = 0 then o15R S (v2.toNat) else Xi T2 904 60) := ((by assumption : FR md_mo_adjective__p U10 T14).x 904 60 rfl).trans x230
              have e263 : Xi T14 904 113 = a15R S (o15R S (v2.toNat)) := by have t := g263; rw [acR_am m230.o, i190, e243, e249] at t; unfold a15R h15R; first | (rw [if_pos (by omega)]; exact t) | (rw [if_neg (by omega)]; exact t)
              have m263 : Hid (AMR S T14) := AMR_t M4.o (AMR_FR F263 rfl rfl)
              have k263 : Hid (∀ j, Xi T14 918 j = Xi S 918 j) := fun j => (F263.x 918 j rfl).trans (K4.o j)
              have z263 : Xi T14 904 106 = 0 := ((by assumption : FR md_mo_adjective__p U10 T14).x 904 106 rfl).trans z230
              clear f263 g263
              refine y_pop rfl rfl ?_
              refine y_aload_n rfl rfl ?_
              refine y_iload_n rfl rfl ?_
              refine y_aload_n rfl rfl ?_
              refine y_gfi rfl rfl rfl rfl rfl ?_
              have w272 : -2147483648 ≤ (Xi T14 904 113) ∧ (Xi T14 904 113) ≤ 2147483647 := Xi_rgI
              refine y_aload_n rfl rfl ?_
              refine y_gfi rfl rfl rfl rfl rfl ?_
              have w273 : (Xi T14 904 75) = (Xi T2 904 75) := (show Xi T14 904 75 = Xi U10 904 75 from w271.x _ _ rfl).trans ((show Xi U10 904 75 = Xi T2 904 75 from by rw [eU10]; exact Xi_ne (by omega)))
              rw [w273]
              have e274 : (Xi T2 904 75) = Xi S 904 75 := by omega
              refine y_if_ne rfl rfl (by unfold rg; omega) (fun w274 => ?_) (fun w275 => ?_)
              · exfalso; omega
              · refine y_iconst rfl ?_
                refine y_goto rfl rfl ?_
                have w276 : Xi T14 904 106 = Xi T2 904 106 := (show Xi T14 904 106 = Xi U10 904 106 from w271.x _ _ rfl).trans ((show Xi U10 904 106 = Xi T2 904 106 from by rw [eU10]; exact Xi_ne (by omega)))
                have w277 : Xi T14 904 142 = Xi T2 904 142 := (show Xi T14 904 142 = Xi U10 904 142 from w271.x _ _ rfl).trans ((show Xi U10 904 142 = Xi T2 904 142 from by rw [eU10]; exact Xi_ne (by omega)))
                have w278 : Xi T14 904 15 = Xi T2 904 15 := (show Xi T14 904 15 = Xi U10 904 15 from w271.x _ _ rfl).trans ((show Xi U10 904 15 = Xi T2 904 15 from by rw [eU10]; exact Xi_ne (by omega)))
                have w279 : Xi T14 904 32 = Xi T2 904 32 := (show Xi T14 904 32 = Xi U10 904 32 from w271.x _ _ rfl).trans ((show Xi U10 904 32 = Xi T2 904 32 from by rw [eU10]; exact Xi_ne (by omega)))
                have w280 : Xi T14 904 71 = Xi T2 904 71 := (show Xi T14 904 71 = Xi U10 904 71 from w271.x _ _ rfl).trans ((show Xi U10 904 71 = Xi T2 904 71 from by rw [eU10]; exact Xi_ne (by omega)))
                have w281 : Xi T14 904 72 = Xi T2 904 72 := (show Xi T14 904 72 = Xi U10 904 72 from w271.x _ _ rfl).trans ((show Xi U10 904 72 = Xi T2 904 72 from by rw [eU10]; exact Xi_ne (by omega)))
                have w282 : Xi T14 904 75 = Xi T2 904 75 := (show Xi T14 904 75 = Xi U10 904 75 from w271.x _ _ rfl).trans ((show Xi U10 904 75 = Xi T2 904 75 from by rw [eU10]; exact Xi_ne (by omega)))
                have w283 : Xi T14 904 78 = Xi T2 904 78 := (show Xi T14 904 78 = Xi U10 904 78 from w271.x _ _ rfl).trans ((show Xi U10 904 78 = Xi T2 904 78 from by rw [eU10]; exact Xi_ne (by omega)))
                refine y_callV rfl rfl rfl (t_mo_tellRead__p hHT14 z68 (Xi T14 904 113) 1 ⟨by omega, by omega⟩ ⟨by omega, by omega⟩ ⟨by omega, by omega⟩ (fun j => by rw [(hFT14.cx 922 rfl j).1]; exact hct.o j) _) ?_
                rintro _ T15 ⟨hHT15, w285, z284, rfl, w284, o285⟩
                have hFT15 : FR md_mo_doFifteen__4 S T15 := FR.tr hFT14 w285 rfl
                show Pl _ _ _ _ _ _ [iv z284] _ _
                have O285 : Hid (∀ y : Int, y = z284 → RV1 S T2 T15 (v2.toNat) y) := fun y hy => ⟨_, F263, x263, by have t := o285; rw [e213, e263, ← hy] at t; unfold h15R; first | (rw [if_pos (by omega)]; exact t) | (rw [if_neg (by omega)]; exact t)⟩
                have T285 : Hid (TRD T14 T15 z284 (o15R S (v2.toNat)) (a15R S (o15R S (v2.toNat))) (h15R S)) := by have t := o285; rw [e213, e263] at t; unfold h15R; first | (rw [if_pos (by omega)]; exact t) | (rw [if_neg (by omega)]; exact t)
                clear o285
                have F285 := (by assumption : FR md_mo_tellRead__p T14 T15)
                have m285 : Hid (AMR S T15) := AMR_t m263.o (AMR_FR F285 rfl rfl)
                have k285 : Hid (∀ j, Xi T15 918 j = Xi S 918 j) := fun j => (F285.x 918 j rfl).trans (k263.o j)
                have z285 : Xi T15 904 106 = 0 := ((by assumption : FR md_mo_tellRead__p T14 T15).x 904 106 rfl).trans z263
                obtain ⟨zz, hzz⟩ : ∃ w : Int, w = z284 := ⟨_, rfl⟩
                refine y_if_ne rfl rfl (by unfold rg; omega) (fun w286 => ?_) (fun w287 => ?_)
                · refine y_iinc rfl rfl rfl rfl ?_
                  have R307 : Hid ((Xi T15 904 106 = 0 → RVC S (v2 + 1).toNat T15) ∧ (Xi T15 904 106 ≠ 0 → RVF S T15)) := by rw [show (v2 + 1).toNat = v2.toNat + 1 by omega]; first | (have t := K304; exact ⟨fun q => by omega, fun _ => ⟨v2.toNat, _, _, by omega, D205.o, O285.o 0 (by omega), Y304⟩⟩) | exact ⟨fun _ => ⟨_, D205.o, O285.o 1 (by omega)⟩, fun q => absurd z285 q⟩
                  have M307 : Hid (AMR S T15) := by first | (have t := K304; exact AMR_t m285.o (AMR_FR F304 rfl rfl)) | exact m285
                  have k307 : Hid (∀ j, Xi T15 918 j = Xi S 918 j) := by first | (have t := K304; exact fun j => (F304.x 918 j rfl).trans (k285.o j)) | exact k285
                  refine y_goto rfl rfl ?_
                  have w288 : Xi T15 904 106 = Xi T2 904 106 := (show Xi T15 904 106 = Xi T14 904 106 from w285.x _ _ rfl).trans ( (show Xi T14 904 106 = Xi U10 904 106 from w271.x _ _ rfl).trans ((show Xi U10 904 106 = Xi T2 904 106 from by rw [eU10]; exact Xi_ne (by omega))))
                  have w289 : Xi T15 904 142 = Xi T2 904 142 := (show Xi T15 904 142 = Xi T14 904 142 from w285.x _ _ rfl).trans ( (show Xi T14 904 142 = Xi U10 904 142 from w271.x _ _ rfl).trans ((show Xi U10 904 142 = Xi T2 904 142 from by rw [eU10]; exact Xi_ne (by omega))))
                  have w290 : Xi T15 904 15 = Xi T2 904 15 := (show Xi T15 904 15 = Xi T14 904 15 from w285.x _ _ rfl).trans ( (show Xi T14 904 15 = Xi U10 904 15 from w271.x _ _ rfl).trans ((show Xi U10 904 15 = Xi T2 904 15 from by rw [eU10]; exact Xi_ne (by omega))))
                  have w291 : Xi T15 904 32 = Xi T2 904 32 := (show Xi T15 904 32 = Xi T14 904 32 from w285.x _ _ rfl).trans ( (show Xi T14 904 32 = Xi U10 904 32 from w271.x _ _ rfl).trans ((show Xi U10 904 32 = Xi T2 904 32 from by rw [eU10]; exact Xi_ne (by omega))))
                  have w292 : Xi T15 904 71 = Xi T2 904 71 := (show Xi T15 904 71 = Xi T14 904 71 from w285.x _ _ rfl).trans ( (show Xi T14 904 71 = Xi U10 904 71 from w271.x _ _ rfl).trans ((show Xi U10 904 71 = Xi T2 904 71 from by rw [eU10]; exact Xi_ne (by omega))))
                  have w293 : Xi T15 904 72 = Xi T2 904 72 := (show Xi T15 904 72 = Xi T14 904 72 from w285.x _ _ rfl).trans ( (show Xi T14 904 72 = Xi U10 904 72 from w271.x _ _ rfl).trans ((show Xi U10 904 72 = Xi T2 904 72 from by rw [eU10]; exact Xi_ne (by omega))))
                  have w294 : Xi T15 904 75 = Xi T2 904 75 := (show Xi T15 904 75 = Xi T14 904 75 from w285.x _ _ rfl).trans ( (show Xi T14 904 75 = Xi U10 904 75 from w271.x _ _ rfl).trans ((show Xi U10 904 75 = Xi T2 904 75 from by rw [eU10]; exact Xi_ne (by omega))))
                  have w295 : Xi T15 904 78 = Xi T2 904 78 := (show Xi T15 904 78 = Xi T14 904 78 from w285.x _ _ rfl).trans ( (show Xi T14 904 78 = Xi U10 904 78 from w271.x _ _ rfl).trans ((show Xi U10 904 78 = Xi T2 904 78 from by rw [eU10]; exact Xi_ne (by omega))))
                  exact Pl_weak (ih190 (by omega) T15 hHT15 hFT15 (v1) ((v2 + 1)) (by omega) (by omega) (by omega) (by first | exact i190 | rfl) (by first | exact R307.o.1 | exact fun _ => rfl) (by first | exact R307.o.2 | exact fun q => absurd hz0 q) (by first | exact M307 | exact AMR.rf) (by first | exact k307 | exact fun _ => rfl) (by first | exact lsp_sm M307.o.1 hLS | exact hLS) (by first | exact lxr_sm M307.o.1 hLX | exact hLX) (by omega) (by omega) (by omega) (by omega) (by omega) (by omega) (by omega)) (by omega) (And.intro rfl (And.intro rfl (And.intro rfl (True.intro))))
                · refine y_aload_n rfl rfl ?_
                  refine y_iconst rfl ?_
                  refine y_aload_n rfl rfl ?_
                  refine y_gfr rfl rfl rfl rfl rfl (hHT15.r 904 67 950 rfl) ?_
                  refine y_aload_n rfl rfl ?_
                  refine y_gfi rfl rfl rfl rfl rfl ?_
                  have w296 : (Xi T15 904 71) = (Xi T2 904 71) := (show Xi T15 904 71 = Xi T14 904 71 from w285.x _ _ rfl).trans ( (show Xi T14 904 71 = Xi U10 904 71 from w271.x _ _ rfl).trans ((show Xi U10 904 71 = Xi T2 904 71 from by rw [eU10]; exact Xi_ne (by omega))))
                  rw [w296]
                  refine y_iload_n rfl rfl ?_
                  refine y_iadd rfl ?_
                  refine y_ialoadP (n := 2600) rfl rfl (by unfold rg; omega) (fun w297 w298 => ?_)
                  have w299 : -2147483648 ≤ (Xi T15 950 ((((Xi T2 904 71) + v2)).toNat)) ∧ (Xi T15 950 ((((Xi T2 904 71) + v2)).toNat)) ≤ 2147483647 := Xi_rgI
                  have w300 : Xi T15 904 106 = Xi T2 904 106 := (show Xi T15 904 106 = Xi T14 904 106 from w285.x _ _ rfl).trans ( (show Xi T14 904 106 = Xi U10 904 106 from w271.x _ _ rfl).trans ((show Xi U10 904 106 = Xi T2 904 106 from by rw [eU10]; exact Xi_ne (by omega))))
                  have w304 : Xi T15 904 71 = Xi T2 904 71 := (show Xi T15 904 71 = Xi T14 904 71 from w285.x _ _ rfl).trans ( (show Xi T14 904 71 = Xi U10 904 71 from w271.x _ _ rfl).trans ((show Xi U10 904 71 = Xi T2 904 71 from by rw [eU10]; exact Xi_ne (by omega))))
                  refine y_callV rfl rfl rfl (t_mo_wrong__p hHT15 5 (Xi T15 950 ((((Xi T2 904 71) + v2)).toNat)) ⟨by omega, by omega⟩ ⟨by omega, by omega⟩ _) ?_
                  rintro _ T16 ⟨hHT16, w310, rfl, w304, w308⟩
                  have hFT16 : FR md_mo_doFifteen__4 S T16 := FR.tr hFT15 w310 rfl
                  show Pl _ _ _ _ _ _ [] _ _
                  have K304 : True := trivial
                  have F304 := (by assumption : FR md_mo_wrong__p T15 T16)
                  have Y304 : NTB (NT3 T16) 5 (pR S (Xi S 904 71 + (v2.toNat))) := by have t := w304 z285; rw [m285.o.1.2.1 908 _ (by omega), m285.o.1.2.1 950 _ (by omega), show (Xi T2 904 71 + v2 : Int) = Xi S 904 71 + ((v2.toNat : Nat) : Int) by omega] at t; exact t
                  have x304 : Xi T16 904 106 = 5 := Y304.1
                  refine y_iinc rfl rfl rfl rfl ?_
                  have R307 : Hid ((Xi T16 904 106 = 0 → RVC S (v2 + 1).toNat T16) ∧ (Xi T16 904 106 ≠ 0 → RVF S T16)) := by rw [show (v2 + 1).toNat = v2.toNat + 1 by omega]; first | (have t := K304; exact ⟨fun q => by omega, fun _ => ⟨v2.toNat, _, _, by omega, D205.o, O285.o 0 (by omega), Y304⟩⟩) | exact ⟨fun _ => ⟨_, D205.o, O285.o 1 (by omega)⟩, fun q => absurd z285 q⟩
                  have M307 : Hid (AMR S T16) := by first | (have t := K304; exact AMR_t m285.o (AMR_FR F304 rfl rfl)) | exact m285
                  have k307 : Hid (∀ j, Xi T16 918 j = Xi S 918 j) := by first | (have t := K304; exact fun j => (F304.x 918 j rfl).trans (k285.o j)) | exact k285
                  refine y_goto rfl rfl ?_
                  have w311 : Xi T16 904 142 = Xi T2 904 142 := (show Xi T16 904 142 = Xi T15 904 142 from w310.x _ _ rfl).trans ( (show Xi T15 904 142 = Xi T14 904 142 from w285.x _ _ rfl).trans ( (show Xi T14 904 142 = Xi U10 904 142 from w271.x _ _ rfl).trans ((show Xi U10 904 142 = Xi T2 904 142 from by rw [eU10]; exact Xi_ne (by omega)))))
                  have w312 : Xi T16 904 15 = Xi T2 904 15 := (show Xi T16 904 15 = Xi T15 904 15 from w310.x _ _ rfl).trans ( (show Xi T15 904 15 = Xi T14 904 15 from w285.x _ _ rfl).trans ( (show Xi T14 904 15 = Xi U10 904 15 from w271.x _ _ rfl).trans ((show Xi U10 904 15 = Xi T2 904 15 from by rw [eU10]; exact Xi_ne (by omega)))))
                  have w313 : Xi T16 904 32 = Xi T2 904 32 := (show Xi T16 904 32 = Xi T15 904 32 from w310.x _ _ rfl).trans ( (show Xi T15 904 32 = Xi T14 904 32 from w285.x _ _ rfl).trans ( (show Xi T14 904 32 = Xi U10 904 32 from w271.x _ _ rfl).trans ((show Xi U10 904 32 = Xi T2 904 32 from by rw [eU10]; exact Xi_ne (by omega)))))
                  have w314 : Xi T16 904 71 = Xi T2 904 71 := (show Xi T16 904 71 = Xi T15 904 71 from w310.x _ _ rfl).trans ( (show Xi T15 904 71 = Xi T14 904 71 from w285.x _ _ rfl).trans ( (show Xi T14 904 71 = Xi U10 904 71 from w271.x _ _ rfl).trans ((show Xi U10 904 71 = Xi T2 904 71 from by rw [eU10]; exact Xi_ne (by omega)))))
                  have w315 : Xi T16 904 72 = Xi T2 904 72 := (show Xi T16 904 72 = Xi T15 904 72 from w310.x _ _ rfl).trans ( (show Xi T15 904 72 = Xi T14 904 72 from w285.x _ _ rfl).trans ( (show Xi T14 904 72 = Xi U10 904 72 from w271.x _ _ rfl).trans ((show Xi U10 904 72 = Xi T2 904 72 from by rw [eU10]; exact Xi_ne (by omega)))))
                  have w316 : Xi T16 904 75 = Xi T2 904 75 := (show Xi T16 904 75 = Xi T15 904 75 from w310.x _ _ rfl).trans ( (show Xi T15 904 75 = Xi T14 904 75 from w285.x _ _ rfl).trans ( (show Xi T14 904 75 = Xi U10 904 75 from w271.x _ _ rfl).trans ((show Xi U10 904 75 = Xi T2 904 75 from by rw [eU10]; exact Xi_ne (by omega)))))
                  have w317 : Xi T16 904 78 = Xi T2 904 78 := (show Xi T16 904 78 = Xi T15 904 78 from w310.x _ _ rfl).trans ( (show Xi T15 904 78 = Xi T14 904 78 from w285.x _ _ rfl).trans ( (show Xi T14 904 78 = Xi U10 904 78 from w271.x _ _ rfl).trans ((show Xi U10 904 78 = Xi T2 904 78 from by rw [eU10]; exact Xi_ne (by omega)))))
                  exact Pl_weak (ih190 (by omega) T16 hHT16 hFT16 (v1) ((v2 + 1)) (by omega) (by omega) (by omega) (by first | exact i190 | rfl) (by first | exact R307.o.1 | exact fun _ => rfl) (by first | exact R307.o.2 | exact fun q => absurd hz0 q) (by first | exact M307 | exact AMR.rf) (by first | exact k307 | exact fun _ => rfl) (by first | exact lsp_sm M307.o.1 hLS | exact hLS) (by first | exact lxr_sm M307.o.1 hLX | exact hLX) (by omega) (by omega) (by omega) (by omega) (by omega) (by omega) (by omega)) (by omega) (And.intro rfl (And.intro rfl (And.intro rfl (True.intro))))
  refine y_aload_n rfl rfl ?_
  refine y_gfr rfl rfl rfl rfl rfl (hH.r 904 67 950 rfl) ?_
  refine y_aload_n rfl rfl ?_
  refine y_gfi rfl rfl rfl rfl rfl ?_
  refine y_ialoadP (n := 2600) rfl rfl (by unfold rg; omega) (fun w318 w319 => ?_)
  have w320 : -2147483648 ≤ (Xi S 950 (((Xi S 904 78)).toNat)) ∧ (Xi S 950 (((Xi S 904 78)).toNat)) ≤ 2147483647 := Xi_rgI
  refine y_istore_n rfl rfl rfl ?_
  refine y_aload_n rfl rfl ?_
  refine y_gfi rfl rfl rfl rfl rfl ?_
  refine y_iconst rfl ?_
  refine y_icmp_ne rfl rfl (by unfold rg; omega) (by unfold rg; omega) (fun w321 => ?_) (fun w322 => ?_)
  · refine y_aload_n rfl rfl ?_
    refine y_gfi rfl rfl rfl rfl rfl ?_
    refine y_iconst rfl ?_
    refine y_icmp_ne rfl rfl (by unfold rg; omega) (by unfold rg; omega) (fun w323 => ?_) (fun w324 => ?_)
    · refine y_aload_n rfl rfl ?_
      refine y_gfi rfl rfl rfl rfl rfl ?_
      refine y_iconst rfl ?_
      refine y_icmp_ne rfl rfl (by unfold rg; omega) (by unfold rg; omega) (fun w325 => ?_) (fun w326 => ?_)
      · refine y_iconst rfl ?_
        refine y_istore_n rfl rfl rfl ?_
        exact Pl_weak (C190 fu (by omega) S hH hF ((Xi S 950 (((Xi S 904 78)).toNat))) (0) (by omega) (by omega) (by omega) (by first | exact i190 | rfl) (by first | exact R307.o.1 | exact fun _ => rfl) (by first | exact R307.o.2 | exact fun q => absurd hz0 q) (by first | exact M307 | exact AMR.rf) (by first | exact k307 | exact fun _ => rfl) (by first | exact lsp_sm M307.o.1 hLS | exact hLS) (by first | exact lxr_sm M307.o.1 hLX | exact hLX) (by omega) (by omega) (by omega) (by omega) (by omega) (by omega) (by omega)) (by omega) (And.intro rfl (And.intro rfl (And.intro rfl (True.intro))))
      · exfalso; omega
    · exfalso; omega
  · exfalso; omega
end
section
/-! 15, 16: the reference does: values -/
def RT1 (W V : sS) (tp r : Int) : Prop := ∃ A B : sS, A = uI W 927 (Xi W 904 30).toNat (Int32.ofInt tp) ∧ FR md_mo_tellRun__p A B ∧ TLW A B A 6 (Xi W 904 30) r ∧ V = uI B 904 30 (Int32.ofInt (Xi W 904 30 + 1))
def RTC (S : sS) (tp : Int) : Nat → sS → Prop
  | 0, V => V = S
  | n + 1, V => ∃ W : sS, RTC S tp n W ∧ RT1 W V tp (Xi S 904 78 + n)
def RD16 (S S1 : sS) : Prop := RTC S (r2R S (Xi S 904 71) 2 3) (Xi S 904 69 - Xi S 904 78).toNat S1

def md_mo_doFifteen__2 : List rec := [(904, 905, 15, 16), (904, 905, 19, 20), (904, 905, 30, 31), (904, 905, 60, 61), (904, 905, 64, 65), (904, 905, 73, 74), (904, 905, 105, 106), (904, 905, 106, 107), (904, 905, 113, 114), (912, 913, 0, 100000), (913, 914, 0, 100000), (914, 915, 0, 100000), (915, 916, 0, 100000), (916, 917, 0, 100000), (918, 919, 0, 100000), (919, 920, 0, 100000), (920, 921, 0, 100000), (925, 926, 0, 100000), (926, 927, 0, 100000), (927, 928, 0, 100000), (930, 931, 0, 100000), (931, 932, 0, 100000), (932, 933, 0, 100000), (933, 934, 0, 100000), (934, 935, 0, 100000), (935, 936, 0, 100000)]
abbrev Q_mo_doFifteen__2 (S : sS) : pst := fun r S1 => RI S1 ∧ FR md_mo_doFifteen__2 S S1 ∧ (r = none ∧ (RD16 S S1))
set_option maxRecDepth 100000 in
theorem t_mo_doFifteen__2 {S : sS} (hH : RI S) (hLS : LSP S) (h15 : 0 ≤ Xi S 904 15) (hRB : RBD S) (hLX : LXR S) (hh : Xi S 904 142 = 2) (hw : 0 ≤ Xi S 904 78 ∧ Xi S 904 78 ≤ Xi S 904 69 ∧ Xi S 904 69 ≤ 2600) (hv : 0 ≤ Xi S 904 30 ∧ Xi S 904 30 + (Xi S 904 69 - Xi S 904 78) ≤ 64) (d : Nat) : Mp lay0 (d + 7) m_mo_doFifteen [.ref 904] S (Q_mo_doFifteen__2 S) := by
  refine Mp_R rfl rfl (fun fu => ?_)
  have hF : FR md_mo_doFifteen__2 S S := FR.rf
  have w1 : -2147483648 ≤ Xi S 904 142 ∧ Xi S 904 142 ≤ 2147483647 := Xi_rgI
  have w2 : -2147483648 ≤ Xi S 904 15 ∧ Xi S 904 15 ≤ 2147483647 := Xi_rgI
  have w3 : -2147483648 ≤ Xi S 904 30 ∧ Xi S 904 30 ≤ 2147483647 := Xi_rgI
  have w4 : -2147483648 ≤ Xi S 904 69 ∧ Xi S 904 69 ≤ 2147483647 := Xi_rgI
  have w5 : -2147483648 ≤ Xi S 904 71 ∧ Xi S 904 71 ≤ 2147483647 := Xi_rgI
  have w6 : -2147483648 ≤ Xi S 904 78 ∧ Xi S 904 78 ≤ 2147483647 := Xi_rgI
  have C120 : ∀ (n120 : Nat) (_ : n120 ≤ fu) (T1 : sS) (_ : RI T1) (_ : FR md_mo_doFifteen__2 S T1) (v2 : Int) (v3 : Int), (-2147483648 ≤ v2 ∧ v2 ≤ 2147483647) → (0 ≤ v3 ∧ v3 ≤ 2600) → (Xi S 904 78 ≤ v3 ∧ v3 ≤ Xi S 904 69) → (v2 = r2R S (Xi S 904 71) 2 3) → (Hid (RTC S v2 (v3 - Xi S 904 78).toNat T1)) → (Xi T1 904 69 = Xi S 904 69) → (Xi T1 904 78 = Xi S 904 78) → (Xi T1 904 142 = 2) → (Xi T1 904 30 = Xi S 904 30 + (v3 - Xi S 904 78)) → Pl n120 lay0 (d + 6) m_mo_doFifteen 120 [(0, .ref 904), (2, iv v2), (3, iv v3)] [] T1 (Q_mo_doFifteen__2 S) := by
    intro n120
    induction n120 with
    | zero => intros; exact Pl_0
    | succ n120 ih120 =>
      intro hm120 T1 hHT1 hFT1 v2 v3 w7 w8 w9 i120 T4 w10 w11 w12 w13
      have w14 : Xi T1 904 110 = Xi S 904 110 := hFT1.x _ _ rfl
      have w15 : Xi T1 904 112 = Xi S 904 112 := hFT1.x _ _ rfl
      have w16 : Xi T1 904 142 = Xi S 904 142 := hFT1.x _ _ rfl
      have w17 : Xi T1 904 16 = Xi S 904 16 := hFT1.x _ _ rfl
      have w18 : Xi T1 904 23 = Xi S 904 23 := hFT1.x _ _ rfl
      have w19 : Xi T1 904 32 = Xi S 904 32 := hFT1.x _ _ rfl
      have w20 : Xi T1 904 69 = Xi S 904 69 := hFT1.x _ _ rfl
      have w21 : Xi T1 904 70 = Xi S 904 70 := hFT1.x _ _ rfl
      have w22 : Xi T1 904 71 = Xi S 904 71 := hFT1.x _ _ rfl
      have w23 : Xi T1 904 72 = Xi S 904 72 := hFT1.x _ _ rfl
      have w24 : Xi T1 904 74 = Xi S 904 74 := hFT1.x _ _ rfl
      have w25 : Xi T1 904 78 = Xi S 904 78 := hFT1.x _ _ rfl
      have w26 : -2147483648 ≤ Xi T1 904 142 ∧ Xi T1 904 142 ≤ 2147483647 := Xi_rgI
      have w27 : -2147483648 ≤ Xi T1 904 15 ∧ Xi T1 904 15 ≤ 2147483647 := Xi_rgI
      have w28 : -2147483648 ≤ Xi T1 904 30 ∧ Xi T1 904 30 ≤ 2147483647 := Xi_rgI
      have w29 : -2147483648 ≤ Xi T1 904 69 ∧ Xi T1 904 69 ≤ 2147483647 := Xi_rgI
      have w30 : -2147483648 ≤ Xi T1 904 71 ∧ Xi T1 904 71 ≤ 2147483647 := Xi_rgI
      have w31 : -2147483648 ≤ Xi T1 904 78 ∧ Xi T1 904 78 ≤ 2147483647 := Xi_rgI
      refine ys_iload_n rfl rfl ?_
      refine y_aload_n rfl rfl ?_
      refine y_gfi rfl rfl rfl rfl rfl ?_
      refine y_icmp_ge rfl rfl (by unfold rg; omega) (by unfold rg; omega) (fun w32 => ?_) (fun w33 => ?_)
      · refine y_goto rfl rfl ?_
        refine y_return rfl rfl ?_
        exact ⟨hHT1, hFT1, rfl, (by have t := T4.o; rw [show v3 = Xi S 904 69 by omega, i120] at t; exact t)⟩
      · refine y_aload_n rfl rfl ?_
        refine y_gfr rfl rfl rfl rfl rfl (hHT1.r 904 31 927 rfl) ?_
        refine y_aload_n rfl rfl ?_
        refine y_gfi rfl rfl rfl rfl rfl ?_
        refine y_iload_n rfl rfl ?_
        refine y_iastoreP (n := 64) rfl rfl (by unfold rg; omega) (fun w34 w35 => ?_)
        obtain ⟨U2, eU2⟩ : ∃ T : sS, T = uI T1 927 (((Xi T1 904 30)).toNat) (Int32.ofInt v2) := ⟨_, rfl⟩
        rw [← eU2]
        have hHU2 : RI U2 := by rw [eU2]; exact RI_w hHT1
        have hFU2 : FR md_mo_doFifteen__2 S U2 := by rw [eU2]; exact FR.wI hFT1 (mdf_i (r := (927, 928, 0, 100000)) (List.mem_of_getElem? (i := 19) rfl) (inR_i (by omega) (by omega) (by omega) (by omega)))
        have w36 : Xi U2 927 (((Xi T1 904 30)).toNat) = v2 := by rw [eU2]; exact Xi_same (by unfold rg; omega)
        have ee137 := eU2
        refine y_aload_n rfl rfl ?_
        refine y_bipush rfl rfl ?_
        refine y_aload_n rfl rfl ?_
        refine y_gfi rfl rfl rfl rfl rfl ?_
        have w37 : (Xi U2 904 30) = (Xi T1 904 30) := (show Xi U2 904 30 = Xi T1 904 30 from by rw [eU2]; exact Xi_ne (by omega))
        rw [w37]
        refine y_iload_n rfl rfl ?_
        have w40 : Xi U2 904 30 = Xi T1 904 30 := (show Xi U2 904 30 = Xi T1 904 30 from by rw [eU2]; exact Xi_ne (by omega))
        refine y_callV rfl rfl rfl (t_mo_tellRun__p hHU2 6 (Xi T1 904 30) v3 ⟨by omega, by omega⟩ ⟨by omega, by omega⟩ ⟨by omega, by omega⟩ (by first | assumption | exact (RBD_FR hFU2 rfl (by assumption : RBD S))) _) ?_
        rintro _ T3 ⟨hHT3, w45, rfl, e146⟩
        have hFT3 : FR md_mo_doFifteen__2 S T3 := FR.tr hFU2 w45 rfl
        show Pl _ _ _ _ _ _ [] _ _
        have F146 := (by assumption : FR md_mo_tellRun__p U2 T3)
        have E146 := Hid.i e146
        clear e146
        refine y_aload_n rfl rfl ?_
        refine y_dup rfl rfl ?_
        refine y_gfi rfl rfl rfl rfl rfl ?_
        have w46 : (Xi T3 904 30) = (Xi T1 904 30) := (show Xi T3 904 30 = Xi U2 904 30 from w45.x _ _ rfl).trans ((show Xi U2 904 30 = Xi T1 904 30 from by rw [eU2]; exact Xi_ne (by omega)))
        rw [w46]
        refine y_iconst rfl ?_
        refine y_iadd rfl ?_
        refine y_pfi rfl rfl rfl rfl ?_
        obtain ⟨U4, eU4⟩ : ∃ T : sS, T = uI T3 904 30 (Int32.ofInt ((Xi T1 904 30) + 1)) := ⟨_, rfl⟩
        rw [← eU4]
        have hHU4 : RI U4 := by rw [eU4]; exact RI_w hHT3
        have hFU4 : FR md_mo_doFifteen__2 S U4 := by rw [eU4]; exact FR.wI hFT3 (mdf_i (r := (904, 905, 30, 31)) (List.mem_of_getElem? (i := 2) rfl) (inR_i (by omega) (by omega) (by omega) (by omega)))
        have w47 : Xi U4 904 30 = ((Xi T1 904 30) + 1) := by rw [eU4]; exact Xi_same (by unfold rg; omega)
        have ee156 : U4 = uI T3 904 30 (Int32.ofInt (Xi T1 904 30 + 1)) := by first | exact eU4 | (rw [eU4]; rw [show Xi T3 904 30 = Xi T1 904 30 by omega])
        refine y_iinc rfl rfl rfl rfl ?_
        refine y_goto rfl rfl ?_
        have w48 : Xi U4 904 142 = Xi T1 904 142 := (show Xi U4 904 142 = Xi T3 904 142 from by rw [eU4]; exact Xi_ne (by omega)).trans ( (show Xi T3 904 142 = Xi U2 904 142 from w45.x _ _ rfl).trans ((show Xi U2 904 142 = Xi T1 904 142 from by rw [eU2]; exact Xi_ne (by omega))))
        have w49 : Xi U4 904 15 = Xi T3 904 15 := (show Xi U4 904 15 = Xi T3 904 15 from by rw [eU4]; exact Xi_ne (by omega))
        have w50 : Xi U4 904 69 = Xi T1 904 69 := (show Xi U4 904 69 = Xi T3 904 69 from by rw [eU4]; exact Xi_ne (by omega)).trans ( (show Xi T3 904 69 = Xi U2 904 69 from w45.x _ _ rfl).trans ((show Xi U2 904 69 = Xi T1 904 69 from by rw [eU2]; exact Xi_ne (by omega))))
        have w51 : Xi U4 904 71 = Xi T1 904 71 := (show Xi U4 904 71 = Xi T3 904 71 from by rw [eU4]; exact Xi_ne (by omega)).trans ( (show Xi T3 904 71 = Xi U2 904 71 from w45.x _ _ rfl).trans ((show Xi U2 904 71 = Xi T1 904 71 from by rw [eU2]; exact Xi_ne (by omega))))
        have w52 : Xi U4 904 78 = Xi T1 904 78 := (show Xi U4 904 78 = Xi T3 904 78 from by rw [eU4]; exact Xi_ne (by omega)).trans ( (show Xi T3 904 78 = Xi U2 904 78 from w45.x _ _ rfl).trans ((show Xi U2 904 78 = Xi T1 904 78 from by rw [eU2]; exact Xi_ne (by omega))))
        exact Pl_weak (ih120 (by omega) U4 hHU4 hFU4 (v2) ((v3 + 1)) (by omega) (by omega) (by omega) (by first | exact i120 | exact f111) (by first | (rw [show (v3 + 1 - Xi S 904 78).toNat = (v3 - Xi S 904 78).toNat + 1 by omega]; exact ⟨_, T4.o, _, _, ee137, F146, (by have t := E146.o; rw [show Xi S 904 78 + (((v3 - Xi S 904 78).toNat : Nat) : Int) = v3 by omega]; exact t), ee156⟩) | (rw [show (Xi S 904 78 - Xi S 904 78).toNat = 0 by omega]; rfl)) (by omega) (by omega) (by omega) (by omega)) (by omega) (And.intro rfl (And.intro rfl (And.intro rfl (True.intro))))
  have C190 : ∀ (n190 : Nat) (_ : n190 ≤ fu) (T5 : sS) (_ : RI T5) (_ : FR md_mo_doFifteen__2 S T5) (v1 : Int) (v2 : Int), (-2147483648 ≤ v1 ∧ v1 ≤ 2147483647) → (-2147483648 ≤ v2 ∧ v2 ≤ 2147483647) → ((1 : Int) = 0) → Pl n190 lay0 (d + 6) m_mo_doFifteen 190 [(0, .ref 904), (1, iv v1), (2, iv v2)] [] T5 (Q_mo_doFifteen__2 S) := by
    intro n190
    induction n190 with
    | zero => intros; exact Pl_0
    | succ n190 ih190 =>
      intro hm190 T5 hHT5 hFT5 v1 v2 w53 w54 w55
      have w56 : Xi T5 904 110 = Xi S 904 110 := hFT5.x _ _ rfl
      have w57 : Xi T5 904 112 = Xi S 904 112 := hFT5.x _ _ rfl
      have w58 : Xi T5 904 142 = Xi S 904 142 := hFT5.x _ _ rfl
      have w59 : Xi T5 904 16 = Xi S 904 16 := hFT5.x _ _ rfl
      have w60 : Xi T5 904 23 = Xi S 904 23 := hFT5.x _ _ rfl
      have w61 : Xi T5 904 32 = Xi S 904 32 := hFT5.x _ _ rfl
      have w62 : Xi T5 904 69 = Xi S 904 69 := hFT5.x _ _ rfl
      have w63 : Xi T5 904 70 = Xi S 904 70 := hFT5.x _ _ rfl
      have w64 : Xi T5 904 71 = Xi S 904 71 := hFT5.x _ _ rfl
      have w65 : Xi T5 904 72 = Xi S 904 72 := hFT5.x _ _ rfl
      have w66 : Xi T5 904 74 = Xi S 904 74 := hFT5.x _ _ rfl
      have w67 : Xi T5 904 78 = Xi S 904 78 := hFT5.x _ _ rfl
      have w68 : -2147483648 ≤ Xi T5 904 142 ∧ Xi T5 904 142 ≤ 2147483647 := Xi_rgI
      have w69 : -2147483648 ≤ Xi T5 904 15 ∧ Xi T5 904 15 ≤ 2147483647 := Xi_rgI
      have w70 : -2147483648 ≤ Xi T5 904 30 ∧ Xi T5 904 30 ≤ 2147483647 := Xi_rgI
      have w71 : -2147483648 ≤ Xi T5 904 69 ∧ Xi T5 904 69 ≤ 2147483647 := Xi_rgI
      have w72 : -2147483648 ≤ Xi T5 904 71 ∧ Xi T5 904 71 ≤ 2147483647 := Xi_rgI
      have w73 : -2147483648 ≤ Xi T5 904 78 ∧ Xi T5 904 78 ≤ 2147483647 := Xi_rgI
      exfalso; omega
  refine y_aload_n rfl rfl ?_
  refine y_gfr rfl rfl rfl rfl rfl (hH.r 904 67 950 rfl) ?_
  refine y_aload_n rfl rfl ?_
  refine y_gfi rfl rfl rfl rfl rfl ?_
  refine y_ialoadP (n := 2600) rfl rfl (by unfold rg; omega) (fun w74 w75 => ?_)
  have w76 : -2147483648 ≤ (Xi S 950 (((Xi S 904 78)).toNat)) ∧ (Xi S 950 (((Xi S 904 78)).toNat)) ≤ 2147483647 := Xi_rgI
  refine y_istore_n rfl rfl rfl ?_
  refine y_aload_n rfl rfl ?_
  refine y_gfi rfl rfl rfl rfl rfl ?_
  refine y_iconst rfl ?_
  refine y_icmp_ne rfl rfl (by unfold rg; omega) (by unfold rg; omega) (fun w77 => ?_) (fun w78 => ?_)
  · refine y_aload_n rfl rfl ?_
    refine y_gfi rfl rfl rfl rfl rfl ?_
    refine y_iconst rfl ?_
    refine y_icmp_ne rfl rfl (by unfold rg; omega) (by unfold rg; omega) (fun w79 => ?_) (fun w80 => ?_)
    · refine y_aload_n rfl rfl ?_
      refine y_gfi rfl rfl rfl rfl rfl ?_
      refine y_iconst rfl ?_
      refine y_icmp_ne rfl rfl (by unfold rg; omega) (by unfold rg; omega) (fun w81 => ?_) (fun w82 => ?_)
      · exfalso; omega
      · exfalso; omega
    · refine y_aload_n rfl rfl ?_
      refine y_aload_n rfl rfl ?_
      refine y_gfi rfl rfl rfl rfl rfl ?_
      refine y_callV rfl rfl rfl (t_mo_typeOrPlural__p hH (Xi S 904 71) ⟨by omega, by omega⟩ (by first | assumption | exact (by assumption : LSP S)) (by first | assumption | omega) (by first | assumption | exact (RBD_FR hF rfl (by assumption : RBD S))) _) ?_
      rintro _ _ ⟨rfl, z83, rfl, w83, f111⟩
      show Pl _ _ _ _ _ _ [iv z83] _ _
      refine y_istore_n rfl rfl rfl ?_
      refine y_aload_n rfl rfl ?_
      refine y_gfi rfl rfl rfl rfl rfl ?_
      refine y_istore_n rfl rfl rfl ?_
      exact Pl_weak (C120 fu (by omega) S hH hF (z83) ((Xi S 904 78)) (by omega) (by omega) (by omega) (by first | exact i120 | exact f111) (by first | (rw [show (v3 + 1 - Xi S 904 78).toNat = (v3 - Xi S 904 78).toNat + 1 by omega]; exact ⟨_, T4.o, _, _, ee137, F146, (by have t := E146.o; rw [show Xi S 904 78 + (((v3 - Xi S 904 78).toNat : Nat) : Int) = v3 by omega]; exact t), ee156⟩) | (rw [show (Xi S 904 78 - Xi S 904 78).toNat = 0 by omega]; rfl)) (by omega) (by omega) (by omega) (by omega)) (by omega) (And.intro rfl (And.intro rfl (And.intro rfl (True.intro))))
  · exfalso; omega
end
section
/-! 15, 16: the reference asks: values -/
def cv6 (S : sS) (tp : Int) : Nat → Int
  | 0 => 0
  | n + 1 => cv6 S tp n + (if Xi S 927 n = tp then 1 else 0)
/-- a RUN must be new, with so many there -/
def MBN (W V : sS) (r there most : Int) : Prop :=
  (nwR W r → NT3 V = (if there < most then NT3 W else ntF (NT3 W) 9 (pR W r)) ∧ Xi V 904 108 = Xi W 904 108 + 1 ∧ Xi V 966 (Xi W 904 108).toNat = r ∧ ∀ k : Nat, (k : Int) < Xi W 904 108 → Xi V 966 k = Xi W 966 k) ∧
  (¬ nwR W r → NT3 V = ntF (NT3 W) 3 (pR W r) ∧ Xi V 904 108 = Xi W 904 108 ∧ ∀ k : Nat, Xi V 966 k = Xi W 966 k)
def AV1 (W V : sS) (r tp k k1 : Int) : Prop := FR md_mo_mustBeNew__p W V ∧ MBN W V r (if 1 < tp then k else 0) 8 ∧ (nwR W r → k1 = k + 1) ∧ (¬ nwR W r → k1 = k)
def AVC (S : sS) (tp : Int) : Nat → sS → Int → Prop
  | 0, V, k => V = S ∧ k = cv6 S tp (Xi S 904 30).toNat
  | n + 1, V, k1 => ∃ (W : sS) (k : Int), AVC S tp n W k ∧ AV1 W V (Xi S 904 78 + n) tp k k1
def RAV (S S1 : sS) (tp : Int) : Prop := ∃ k : Int, AVC S tp (Xi S 904 69 - Xi S 904 78).toNat S1 k

def md_mo_askValues__p : List rec := [(904, 905, 104, 105), (904, 905, 105, 106), (904, 905, 106, 107), (904, 905, 108, 109), (966, 967, 0, 100000)]
abbrev Q_mo_askValues__p (S : sS) (type : Int) : pst := fun r S1 => RI S1 ∧ FR md_mo_askValues__p S S1 ∧ (r = none ∧ (RAV S S1 type))
set_option maxRecDepth 100000 in
theorem t_mo_askValues__p {S : sS} (hH : RI S) (type : Int) (htype : -2147483648 ≤ type ∧ type ≤ 2147483647) (hLS : LSP S) (h15 : 0 ≤ Xi S 904 15) (hRB : RBD S) (hn0 : 0 ≤ Xi S 904 108 ∧ Xi S 904 108 ≤ 100) (hw : 0 ≤ Xi S 904 78 ∧ Xi S 904 78 ≤ Xi S 904 69 ∧ Xi S 904 69 ≤ 2600) (hv : 0 ≤ Xi S 904 30 ∧ Xi S 904 30 ≤ 64) (d : Nat) : Mp lay0 (d + 5) m_mo_askValues [.ref 904, iv type] S (Q_mo_askValues__p S type) := by
  refine Mp_R rfl rfl (fun fu => ?_)
  have hF : FR md_mo_askValues__p S S := FR.rf
  have w1 : -2147483648 ≤ Xi S 904 108 ∧ Xi S 904 108 ≤ 2147483647 := Xi_rgI
  have w2 : -2147483648 ≤ Xi S 904 15 ∧ Xi S 904 15 ≤ 2147483647 := Xi_rgI
  have w3 : -2147483648 ≤ Xi S 904 30 ∧ Xi S 904 30 ≤ 2147483647 := Xi_rgI
  have w4 : -2147483648 ≤ Xi S 904 69 ∧ Xi S 904 69 ≤ 2147483647 := Xi_rgI
  have w5 : -2147483648 ≤ Xi S 904 78 ∧ Xi S 904 78 ≤ 2147483647 := Xi_rgI
  have C4 : ∀ (n4 : Nat) (_ : n4 ≤ fu) (v2 : Int) (v3 : Int), (0 ≤ v2 ∧ v2 ≤ 100000) → (0 ≤ v3 ∧ v3 ≤ 2600) → (0 ≤ v3 ∧ v3 ≤ Xi S 904 30) → (S = S) → (v2 = cv6 S type (v3).toNat) → (0 ≤ v2 ∧ v2 ≤ v3) → Pl n4 lay0 (d + 4) m_mo_askValues 4 [(0, .ref 904), (1, iv type), (2, iv v2), (3, iv v3)] [] S (Q_mo_askValues__p S type) := by
    intro n4
    induction n4 with
    | zero => intros; exact Pl_0
    | succ n4 ih4 =>
      intro hm4 v2 v3 w6 w7 w8 e4 c4 w9
      have C41 : ∀ (n41 : Nat) (_ : n41 ≤ n4) (T1 : sS) (_ : RI T1) (_ : FR md_mo_askValues__p S T1) (v2 : Int) (v3 : Int), (0 ≤ v2 ∧ v2 ≤ 100000) → (0 ≤ v3 ∧ v3 ≤ 2600) → (Xi S 904 78 ≤ v3 ∧ v3 ≤ Xi S 904 69) → (0 ≤ v2 ∧ v2 ≤ 64 + v3) → (Hid (AVC S type (v3 - Xi S 904 78).toNat T1 v2)) → (0 ≤ Xi T1 904 108) → (Xi T1 904 69 = Xi S 904 69) → (Xi T1 904 78 = Xi S 904 78) → (Xi T1 904 15 = Xi S 904 15) → Pl n41 lay0 (d + 4) m_mo_askValues 41 [(0, .ref 904), (1, iv type), (2, iv v2), (3, iv v3)] [] T1 (Q_mo_askValues__p S type) := by
        intro n41
        induction n41 with
        | zero => intros; exact Pl_0
        | succ n41 ih41 =>
          intro hm41 T1 hHT1 hFT1 v2 v3 w10 w11 w12 w13 A41 w14 w15 w16 w17
          have w18 : Xi T1 904 15 = Xi S 904 15 := hFT1.x _ _ rfl
          have w19 : Xi T1 904 30 = Xi S 904 30 := hFT1.x _ _ rfl
          have w20 : Xi T1 904 69 = Xi S 904 69 := hFT1.x _ _ rfl
          have w21 : Xi T1 904 78 = Xi S 904 78 := hFT1.x _ _ rfl
          have w22 : -2147483648 ≤ Xi T1 904 108 ∧ Xi T1 904 108 ≤ 2147483647 := Xi_rgI
          have w23 : -2147483648 ≤ Xi T1 904 15 ∧ Xi T1 904 15 ≤ 2147483647 := Xi_rgI
          have w24 : -2147483648 ≤ Xi T1 904 30 ∧ Xi T1 904 30 ≤ 2147483647 := Xi_rgI
          have w25 : -2147483648 ≤ Xi T1 904 69 ∧ Xi T1 904 69 ≤ 2147483647 := Xi_rgI
          have w26 : -2147483648 ≤ Xi T1 904 78 ∧ Xi T1 904 78 ≤ 2147483647 := Xi_rgI
          refine ys_iload_n rfl rfl ?_
          refine y_aload_n rfl rfl ?_
          refine y_gfi rfl rfl rfl rfl rfl ?_
          refine y_icmp_ge rfl rfl (by unfold rg; omega) (by unfold rg; omega) (fun w27 => ?_) (fun w28 => ?_)
          · refine y_return rfl rfl ?_
            exact ⟨hHT1, hFT1, rfl, (⟨v2, by have t := A41.o; rw [show v3 = Xi S 904 69 by omega] at t; exact t⟩)⟩
          · refine y_aload_n rfl rfl ?_
            refine y_iload_n rfl rfl ?_
            refine y_callV rfl rfl rfl (t_mo_isNew__p hHT1 v3 ⟨by omega, by omega⟩ (by first | assumption | exact (LSP_FR hFT1 rfl rfl (by assumption : LSP S))) (by first | assumption | omega) (by first | assumption | exact (RBD_FR hFT1 rfl (by assumption : RBD S))) (by first | assumption | omega) _) ?_
            rintro _ _ ⟨rfl, z29, rfl, w29, f51⟩
            show Pl _ _ _ _ _ _ [iv z29] _ _
            have f51_ := Hid.i f51
            clear f51
            refine y_istore rfl rfl rfl ?_
            refine y_aload_n rfl rfl ?_
            refine y_iload_n rfl rfl ?_
            refine y_iload_n rfl rfl ?_
            refine y_iconst rfl ?_
            refine y_icmp_le rfl rfl (by unfold rg; omega) (by unfold rg; omega) (fun w30 => ?_) (fun w31 => ?_)
            · refine y_iconst rfl ?_
              refine y_bipush rfl rfl ?_
              refine y_callV rfl rfl rfl (t_mo_mustBeNew__p hHT1 v3 0 8 ⟨by omega, by omega⟩ ⟨by omega, by omega⟩ ⟨by omega, by omega⟩ (by first | assumption | exact (LSP_FR hFT1 rfl rfl (by assumption : LSP S))) (by first | assumption | omega) (by first | assumption | exact (RBD_FR hFT1 rfl (by assumption : RBD S))) (by first | assumption | omega) _) ?_
              rintro _ T2 ⟨hHT2, w33, rfl, y70, n70⟩
              have hFT2 : FR md_mo_askValues__p S T2 := FR.tr hFT1 w33 rfl
              show Pl _ _ _ _ _ _ [] _ _
              have y70_ := Hid.i y70
              have n70_ := Hid.i n70
              clear y70 n70
              have M70 : Hid (MBN T1 T2 v3 (if 1 < type then v2 else 0) 8) := by first | (rw [if_pos (by omega)]; exact ⟨y70_.o, n70_.o⟩) | (rw [if_neg (by omega)]; exact ⟨y70_.o, n70_.o⟩)
              have F70 := (by assumption : FR md_mo_mustBeNew__p T1 T2)
              have g70 : 0 ≤ Xi T2 904 108 := by by_cases q : nwR T1 v3; (have t := (M70.o.1 q).2.1; omega); (have t := (M70.o.2 q).2.1; omega)
              refine y_iload_n rfl rfl ?_
              refine y_iload rfl rfl ?_
              refine y_if_eq rfl rfl (by unfold rg; omega) (fun w34 => ?_) (fun w35 => ?_)
              · refine y_iconst rfl ?_
                refine y_iadd rfl ?_
                refine y_istore_n rfl rfl rfl ?_
                have A85 : Hid (AVC S type (v3 + 1 - Xi S 904 78).toNat T2 (v2 + 0)) := by rw [show (v3 + 1 - Xi S 904 78).toNat = (v3 - Xi S 904 78).toNat + 1 by omega]; exact ⟨_, v2, A41.o, by rw [show Xi S 904 78 + (((v3 - Xi S 904 78).toNat : Nat) : Int) = v3 by omega]; exact ⟨F70, M70.o, fun q => by first | omega | exact absurd q (f51_.o.2 (by omega)), fun q => by first | omega | exact absurd (f51_.o.1 (by omega)) q⟩⟩
                refine y_iinc rfl rfl rfl rfl ?_
                refine y_goto rfl rfl ?_
                have w36 : Xi T2 904 15 = Xi T1 904 15 := (show Xi T2 904 15 = Xi T1 904 15 from w33.x _ _ rfl)
                have w37 : Xi T2 904 30 = Xi T1 904 30 := (show Xi T2 904 30 = Xi T1 904 30 from w33.x _ _ rfl)
                have w38 : Xi T2 904 69 = Xi T1 904 69 := (show Xi T2 904 69 = Xi T1 904 69 from w33.x _ _ rfl)
                have w39 : Xi T2 904 78 = Xi T1 904 78 := (show Xi T2 904 78 = Xi T1 904 78 from w33.x _ _ rfl)
                exact Pl_weak (ih41 (by omega) T2 hHT2 hFT2 ((v2 + 0)) ((v3 + 1)) (by omega) (by omega) (by omega) (by omega) (by first | exact A85 | (rw [show (Xi S 904 78 - Xi S 904 78).toNat = 0 by omega]; exact ⟨e4, by rw [c4, show v3 = Xi S 904 30 by omega]⟩)) (by omega) (by omega) (by omega) (by omega)) (by omega) (And.intro rfl (And.intro rfl (And.intro rfl (And.intro rfl (True.intro)))))
              · refine y_iconst rfl ?_
                refine y_goto rfl rfl ?_
                refine y_iadd rfl ?_
                refine y_istore_n rfl rfl rfl ?_
                have A85 : Hid (AVC S type (v3 + 1 - Xi S 904 78).toNat T2 (v2 + 1)) := by rw [show (v3 + 1 - Xi S 904 78).toNat = (v3 - Xi S 904 78).toNat + 1 by omega]; exact ⟨_, v2, A41.o, by rw [show Xi S 904 78 + (((v3 - Xi S 904 78).toNat : Nat) : Int) = v3 by omega]; exact ⟨F70, M70.o, fun q => by first | omega | exact absurd q (f51_.o.2 (by omega)), fun q => by first | omega | exact absurd (f51_.o.1 (by omega)) q⟩⟩
                refine y_iinc rfl rfl rfl rfl ?_
                refine y_goto rfl rfl ?_
                have w40 : Xi T2 904 15 = Xi T1 904 15 := (show Xi T2 904 15 = Xi T1 904 15 from w33.x _ _ rfl)
                have w41 : Xi T2 904 30 = Xi T1 904 30 := (show Xi T2 904 30 = Xi T1 904 30 from w33.x _ _ rfl)
                have w42 : Xi T2 904 69 = Xi T1 904 69 := (show Xi T2 904 69 = Xi T1 904 69 from w33.x _ _ rfl)
                have w43 : Xi T2 904 78 = Xi T1 904 78 := (show Xi T2 904 78 = Xi T1 904 78 from w33.x _ _ rfl)
                exact Pl_weak (ih41 (by omega) T2 hHT2 hFT2 ((v2 + 1)) ((v3 + 1)) (by omega) (by omega) (by omega) (by omega) (by first | exact A85 | (rw [show (Xi S 904 78 - Xi S 904 78).toNat = 0 by omega]; exact ⟨e4, by rw [c4, show v3 = Xi S 904 30 by omega]⟩)) (by omega) (by omega) (by omega) (by omega)) (by omega) (And.intro rfl (And.intro rfl (And.intro rfl (And.intro rfl (True.intro)))))
            · refine y_iload_n rfl rfl ?_
              refine y_goto rfl rfl ?_
              refine y_bipush rfl rfl ?_
              refine y_callV rfl rfl rfl (t_mo_mustBeNew__p hHT1 v3 v2 8 ⟨by omega, by omega⟩ ⟨by omega, by omega⟩ ⟨by omega, by omega⟩ (by first | assumption | exact (LSP_FR hFT1 rfl rfl (by assumption : LSP S))) (by first | assumption | omega) (by first | assumption | exact (RBD_FR hFT1 rfl (by assumption : RBD S))) (by first | assumption | omega) _) ?_
              rintro _ T3 ⟨hHT3, w45, rfl, y70, n70⟩
              have hFT3 : FR md_mo_askValues__p S T3 := FR.tr hFT1 w45 rfl
              show Pl _ _ _ _ _ _ [] _ _
              have y70_ := Hid.i y70
              have n70_ := Hid.i n70
              clear y70 n70
              have M70 : Hid (MBN T1 T3 v3 (if 1 < type then v2 else 0) 8) := by first | (rw [if_pos (by omega)]; exact ⟨y70_.o, n70_.o⟩) | (rw [if_neg (by omega)]; exact ⟨y70_.o, n70_.o⟩)
              have F70 := (by assumption : FR md_mo_mustBeNew__p T1 T3)
              have g70 : 0 ≤ Xi T3 904 108 := by by_cases q : nwR T1 v3; (have t := (M70.o.1 q).2.1; omega); (have t := (M70.o.2 q).2.1; omega)
              refine y_iload_n rfl rfl ?_
              refine y_iload rfl rfl ?_
              refine y_if_eq rfl rfl (by unfold rg; omega) (fun w46 => ?_) (fun w47 => ?_)
              · refine y_iconst rfl ?_
                refine y_iadd rfl ?_
                refine y_istore_n rfl rfl rfl ?_
                have A85 : Hid (AVC S type (v3 + 1 - Xi S 904 78).toNat T3 (v2 + 0)) := by rw [show (v3 + 1 - Xi S 904 78).toNat = (v3 - Xi S 904 78).toNat + 1 by omega]; exact ⟨_, v2, A41.o, by rw [show Xi S 904 78 + (((v3 - Xi S 904 78).toNat : Nat) : Int) = v3 by omega]; exact ⟨F70, M70.o, fun q => by first | omega | exact absurd q (f51_.o.2 (by omega)), fun q => by first | omega | exact absurd (f51_.o.1 (by omega)) q⟩⟩
                refine y_iinc rfl rfl rfl rfl ?_
                refine y_goto rfl rfl ?_
                have w48 : Xi T3 904 15 = Xi T1 904 15 := (show Xi T3 904 15 = Xi T1 904 15 from w45.x _ _ rfl)
                have w49 : Xi T3 904 30 = Xi T1 904 30 := (show Xi T3 904 30 = Xi T1 904 30 from w45.x _ _ rfl)
                have w50 : Xi T3 904 69 = Xi T1 904 69 := (show Xi T3 904 69 = Xi T1 904 69 from w45.x _ _ rfl)
                have w51 : Xi T3 904 78 = Xi T1 904 78 := (show Xi T3 904 78 = Xi T1 904 78 from w45.x _ _ rfl)
                exact Pl_weak (ih41 (by omega) T3 hHT3 hFT3 ((v2 + 0)) ((v3 + 1)) (by omega) (by omega) (by omega) (by omega) (by first | exact A85 | (rw [show (Xi S 904 78 - Xi S 904 78).toNat = 0 by omega]; exact ⟨e4, by rw [c4, show v3 = Xi S 904 30 by omega]⟩)) (by omega) (by omega) (by omega) (by omega)) (by omega) (And.intro rfl (And.intro rfl (And.intro rfl (And.intro rfl (True.intro)))))
              · refine y_iconst rfl ?_
                refine y_goto rfl rfl ?_
                refine y_iadd rfl ?_
                refine y_istore_n rfl rfl rfl ?_
                have A85 : Hid (AVC S type (v3 + 1 - Xi S 904 78).toNat T3 (v2 + 1)) := by rw [show (v3 + 1 - Xi S 904 78).toNat = (v3 - Xi S 904 78).toNat + 1 by omega]; exact ⟨_, v2, A41.o, by rw [show Xi S 904 78 + (((v3 - Xi S 904 78).toNat : Nat) : Int) = v3 by omega]; exact ⟨F70, M70.o, fun q => by first | omega | exact absurd q (f51_.o.2 (by omega)), fun q => by first | omega | exact absurd (f51_.o.1 (by omega)) q⟩⟩
                refine y_iinc rfl rfl rfl rfl ?_
                refine y_goto rfl rfl ?_
                have w52 : Xi T3 904 15 = Xi T1 904 15 := (show Xi T3 904 15 = Xi T1 904 15 from w45.x _ _ rfl)
                have w53 : Xi T3 904 30 = Xi T1 904 30 := (show Xi T3 904 30 = Xi T1 904 30 from w45.x _ _ rfl)
                have w54 : Xi T3 904 69 = Xi T1 904 69 := (show Xi T3 904 69 = Xi T1 904 69 from w45.x _ _ rfl)
                have w55 : Xi T3 904 78 = Xi T1 904 78 := (show Xi T3 904 78 = Xi T1 904 78 from w45.x _ _ rfl)
                exact Pl_weak (ih41 (by omega) T3 hHT3 hFT3 ((v2 + 1)) ((v3 + 1)) (by omega) (by omega) (by omega) (by omega) (by first | exact A85 | (rw [show (Xi S 904 78 - Xi S 904 78).toNat = 0 by omega]; exact ⟨e4, by rw [c4, show v3 = Xi S 904 30 by omega]⟩)) (by omega) (by omega) (by omega) (by omega)) (by omega) (And.intro rfl (And.intro rfl (And.intro rfl (And.intro rfl (True.intro)))))
      refine ys_iload_n rfl rfl ?_
      refine y_aload_n rfl rfl ?_
      refine y_gfi rfl rfl rfl rfl rfl ?_
      refine y_icmp_ge rfl rfl (by unfold rg; omega) (by unfold rg; omega) (fun w56 => ?_) (fun w57 => ?_)
      · refine y_aload_n rfl rfl ?_
        refine y_gfi rfl rfl rfl rfl rfl ?_
        refine y_istore_n rfl rfl rfl ?_
        exact Pl_weak (C41 n4 (by omega) S hH hF (v2) ((Xi S 904 78)) (by omega) (by omega) (by omega) (by omega) (by first | exact A85 | (rw [show (Xi S 904 78 - Xi S 904 78).toNat = 0 by omega]; exact ⟨e4, by rw [c4, show v3 = Xi S 904 30 by omega]⟩)) (by omega) (by omega) (by omega) (by omega)) (by omega) (And.intro rfl (And.intro rfl (And.intro rfl (And.intro rfl (True.intro)))))
      · refine y_iload_n rfl rfl ?_
        refine y_aload_n rfl rfl ?_
        refine y_gfr rfl rfl rfl rfl rfl (hH.r 904 31 927 rfl) ?_
        refine y_iload_n rfl rfl ?_
        refine y_ialoadP (n := 64) rfl rfl (by unfold rg; omega) (fun w58 w59 => ?_)
        have w60 : -2147483648 ≤ (Xi S 927 ((v3).toNat)) ∧ (Xi S 927 ((v3).toNat)) ≤ 2147483647 := Xi_rgI
        have e18 : (Xi S 927 ((v3).toNat)) = Xi S 927 v3.toNat := by rw [e4]
        refine y_iload_n rfl rfl ?_
        refine y_icmp_ne rfl rfl (by unfold rg; omega) (by unfold rg; omega) (fun w61 => ?_) (fun w62 => ?_)
        · refine y_iconst rfl ?_
          refine y_iadd rfl ?_
          refine y_istore_n rfl rfl rfl ?_
          have c29 : (v2 + 0) = cv6 S type (v3 + 1).toNat := by rw [show (v3 + 1).toNat = v3.toNat + 1 by omega]; show _ = cv6 S type v3.toNat + (if Xi S 927 v3.toNat = type then 1 else 0); first | (rw [if_pos (by omega)]; omega) | (rw [if_neg (by omega)]; omega)
          refine y_iinc rfl rfl rfl rfl ?_
          refine y_goto rfl rfl ?_
          exact Pl_weak (ih4 (by omega) ((v2 + 0)) ((v3 + 1)) (by omega) (by omega) (by omega) (by first | exact e4 | rfl) (by first | exact c29 | rfl) (by omega)) (by omega) (And.intro rfl (And.intro rfl (And.intro rfl (And.intro rfl (True.intro)))))
        · refine y_iconst rfl ?_
          refine y_goto rfl rfl ?_
          refine y_iadd rfl ?_
          refine y_istore_n rfl rfl rfl ?_
          have c29 : (v2 + 1) = cv6 S type (v3 + 1).toNat := by rw [show (v3 + 1).toNat = v3.toNat + 1 by omega]; show _ = cv6 S type v3.toNat + (if Xi S 927 v3.toNat = type then 1 else 0); first | (rw [if_pos (by omega)]; omega) | (rw [if_neg (by omega)]; omega)
          refine y_iinc rfl rfl rfl rfl ?_
          refine y_goto rfl rfl ?_
          exact Pl_weak (ih4 (by omega) ((v2 + 1)) ((v3 + 1)) (by omega) (by omega) (by omega) (by first | exact e4 | rfl) (by first | exact c29 | rfl) (by omega)) (by omega) (And.intro rfl (And.intro rfl (And.intro rfl (And.intro rfl (True.intro)))))
  refine y_iconst rfl ?_
  refine y_istore_n rfl rfl rfl ?_
  refine y_iconst rfl ?_
  refine y_istore_n rfl rfl rfl ?_
  exact Pl_weak (C4 fu (by omega) (0) (0) (by omega) (by omega) (by omega) (by first | exact e4 | rfl) (by first | exact c29 | rfl) (by omega)) (by omega) (And.intro rfl (And.intro rfl (And.intro rfl (And.intro rfl (True.intro)))))
end
