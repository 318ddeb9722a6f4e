section
/-! 1: the reference asks and does -/
theorem TXOR_K {S T U : sS} {a to z : Int} (o : TXOR S T a to z) (h0 : Xi U 904 150 = Xi T 904 150) (h1 : Xi U 904 151 = Xi T 904 151) (h2 : ∀ j, Xj U 991 j = Xj T 991 j) (h3 : ∀ j, Xj U 992 j = Xj T 992 j) : TXOR S U a to z := by
  refine ⟨o.1, fun q => ?_⟩
  have x := o.2 q
  exact ⟨h1.trans x.1, x.2.1, x.2.2.1, h0.trans x.2.2.2.1, x.2.2.2.2.1, fun p => ⟨(x.2.2.2.2.2.1 p).1, ⟨h0.trans (x.2.2.2.2.2.1 p).2.1, fun j a b => (h2 j).trans ((x.2.2.2.2.2.1 p).2.2 j a b)⟩⟩, fun j a => (h3 j).trans (x.2.2.2.2.2.2 j a)⟩
theorem TXOR_FR {l : List rec} {S T U : sS} {a to z : Int} (h : FR l T U) (e : mD l [150, 151] = true) (e2 : kdis l [(991, 993)] = true) (o : TXOR S T a to z) : TXOR S U a to z := by
  have q : mdf l 904 150 = false ∧ mdf l 904 151 = false := by
    simp only [mD, List.all_cons, List.all_nil, Bool.and_true, Bool.and_eq_true, Bool.not_eq_true'] at e
    exact ⟨e.1, e.2⟩
  exact TXOR_K o (h.x 904 150 q.1) (h.x 904 151 q.2) (fun j => SMK_j (h.smk e2) 991 rfl j) (fun j => SMK_j (h.smk e2) 992 rfl j)
theorem txor_S {l : List rec} {S P U : sS} {a to z : Int} (h : FR l S P) (e : kdis l [(906, 907)] = true) (e2 : kdis l [(911, 912)] = true) (o : TXOR P U a to z) : TXOR S U a to z := by
  have x : Xi P 906 = Xi S 906 := funext (fun j => (h.smk e).x 906 rfl j)
  have y : Xj P 911 = Xj S 911 := funext (fun j => SMK_j (h.smk e2) 911 rfl j)
  have kk : kfR P = kfR S := by funext i j; unfold kfR; rw [x, y]
  unfold TXOR TXRR GPRR at o ⊢
  rw [x, kk] at o
  exact o
noncomputable def fmC (S T : sS) : Int := if 1 ≤ Xi T 904 150 ∧ Xi T 904 150 ≤ 3 then fdR S (Xj T 991 0) (if 1 < Xi T 904 150 then Xj T 991 1 else 0) (if 2 < Xi T 904 150 then Xj T 991 2 else 0) (Xi T 904 150) (Xi S 904 15).toNat else -1
theorem fmC_l {S T : sS} {v : Int} (h15 : 0 ≤ Xi S 904 15) (e : v = fmC S T) (h : v ≠ -1) : ((v.toNat : Nat) : Int) < Xi S 904 15 := by
  unfold fmC at e
  by_cases q : 1 ≤ Xi T 904 150 ∧ Xi T 904 150 ≤ 3
  · rw [if_pos q] at e
    have r := fdR_rg (S := S) (a := Xj T 991 0) (b := if 1 < Xi T 904 150 then Xj T 991 1 else 0) (c := if 2 < Xi T 904 150 then Xj T 991 2 else 0) (n := Xi T 904 150) (Xi S 904 15).toNat
    rw [← e] at r
    omega
  · rw [if_neg q] at e
    exact absurd e h
def okKC (S T : sS) (k : Int) : Prop := (k = -1 → Xi T 904 150 = 0) ∧ (k = -2 → Xi T 904 150 = 1 ∧ Xj T 991 0 = 4726783092206) ∧ (k ≠ -1 → k ≠ -2 → fmC S T ≠ -1 ∧ Xi S 914 (fmC S T).toNat = 0 ∧ blR S (Xi S 915 (fmC S T).toNat) k ≠ 0)
def okC (S T : sS) (a x : Int) : Prop := x ≠ 0 ∧ (a ≠ -1 → okKC S T (Xi S 942 a.toNat))
def nkC (S T : sS) (a x n : Int) : Prop := (x = 0 ∨ a = -1 → n = -1) ∧ (x ≠ 0 → a ≠ -1 → (Xi S 942 a.toNat = -1 → n = -1) ∧ (Xi S 942 a.toNat = -2 → n = -2) ∧ (Xi S 942 a.toNat ≠ -1 → Xi S 942 a.toNat ≠ -2 → okC S T a x → n = Xi S 915 (fmC S T).toNat))
def QCM (S T : sS) (a f to v : Int) : Prop := ∃ x : Int, TXOR S T f to x ∧ (v ≠ 0 → okC S T a x) ∧ (v = 0 → ¬ okC S T a x) ∧ nkC S T a x (Xi T 904 153)
theorem qcm_0 {S T : sS} {a f to v : Int} (o : TXOR S T f to v) (h : v = 0 ∨ a = -1) (hn : Xi T 904 153 = -1) : QCM S T a f to v :=
  ⟨v, o, fun q => ⟨q, fun w => absurd (h.resolve_left q) w⟩, fun q w => w.1 q, fun _ => hn, fun q w => absurd (h.resolve_left q) w⟩
theorem qcm_k {S T : sS} {a f to x v : Int} (o : TXOR S T f to x) (hx : x ≠ 0) (ha : a ≠ -1) (h1 : v ≠ 0 → okKC S T (Xi S 942 a.toNat)) (h0 : v = 0 → ¬ okKC S T (Xi S 942 a.toNat)) (hn : (Xi S 942 a.toNat = -1 → Xi T 904 153 = -1) ∧ (Xi S 942 a.toNat = -2 → Xi T 904 153 = -2) ∧ (Xi S 942 a.toNat ≠ -1 → Xi S 942 a.toNat ≠ -2 → v ≠ 0 → Xi T 904 153 = Xi S 915 (fmC S T).toNat)) : QCM S T a f to v :=
  ⟨x, o, fun q => ⟨hx, fun _ => h1 q⟩, fun q w => h0 q (w.2 ha), fun q => (q.elim (fun z => absurd z hx) (fun z => absurd z ha)), fun _ _ => ⟨hn.1, hn.2.1, fun p q w => hn.2.2 p q (fun z => h0 z (w.2 ha))⟩⟩
def n1C (S : sS) : Int × Int × Int := if Xi S 904 55 < 20 then NT3 S else ntF (NT3 S) 9 (Xi S 908 (Xi S 904 81).toNat)
noncomputable def n2C (S : sS) : Int × Int × Int := if rnR S 0 11 ≠ -1 then n1C S else ntF (n1C S) 4 (pR S 0)
def RCO (S S1 : sS) : Prop := ∃ v : Int, QCM S S1 (rnR S 0 11) (Xi S 908 (Xi S 904 81).toNat + 1) (Xi S 908 (Xi S 904 81).toNat + 1 + Xi S 909 (Xi S 904 81).toNat) v ∧ NT3 S1 = (if v ≠ 0 then n2C S else ntF (n2C S) 8 (Xi S 908 (Xi S 904 81).toNat))
theorem QCM_FR {l : List rec} {S T U : sS} {a f to v : Int} (h : FR l T U) (e : mD l [150, 151, 153] = true) (e2 : kdis l [(991, 993)] = true) (o : QCM S T a f to v) : QCM S U a f to v := by
  have q : mdf l 904 150 = false ∧ mdf l 904 151 = false ∧ mdf l 904 153 = false := by
    simp only [mD, List.all_cons, List.all_nil, Bool.and_true, Bool.and_eq_true, Bool.not_eq_true'] at e
    exact ⟨e.1, e.2.1, e.2.2⟩
  have h0 := h.x 904 150 q.1
  have h2 : ∀ j, Xj U 991 j = Xj T 991 j := fun j => SMK_j (h.smk e2) 991 rfl j
  have fm : fmC S U = fmC S T := by unfold fmC; rw [h0, h2, h2, h2]
  have kk : ∀ k, okKC S U k = okKC S T k := fun k => by unfold okKC; rw [h0, h2, fm]
  obtain ⟨x, t, a1, a2, a3⟩ := o
  refine ⟨x, TXOR_K t h0 (h.x 904 151 q.2.1) h2 (fun j => SMK_j (h.smk e2) 992 rfl j), ?_, ?_, ?_⟩
  · unfold okC; rw [kk]; exact a1
  · unfold okC; rw [kk]; exact a2
  · unfold nkC okC; rw [kk, fm, h.x 904 153 q.2.2]; exact a3
theorem fmC_u {S T U : sS} {v : Int32} (e : U = uI T 904 153 v) : fmC S U = fmC S T := by
  have h0 : Xi U 904 150 = Xi T 904 150 := by rw [e]; exact Xi_ne (by omega)
  have h2 : ∀ j, Xj U 991 j = Xj T 991 j := fun j => by rw [e]; rfl
  unfold fmC
  rw [h0, h2, h2, h2]
theorem txor_p {S T : sS} {a to z : Int} (o : TXOR S T a to z) (h : z = 1) : 0 ≤ Xi T 904 150 := by
  have := (o.2 h).2.2.2.1
  omega
def RDCM (S S1 : sS) : Prop := S1 = uI (cpJ (uI (uI (uI S 946 (Xi S 904 55).toNat (Int32.ofInt (rnR S 0 11))) 947 (Xi S 904 55).toNat (Int32.ofInt (Xi S 904 151))) 949 (Xi S 904 55).toNat (Int32.ofInt (Xi S 904 153))) 992 948 (0 : Int).toNat (8 * Xi S 904 55).toNat (8 : Int).toNat) 904 55 (Int32.ofInt (Xi S 904 55 + 1))

def md_mo_askCommand__p : List rec := [(904, 905, 104, 105), (904, 905, 105, 106), (904, 905, 106, 107), (904, 905, 150, 151), (904, 905, 151, 152), (904, 905, 153, 154), (991, 992, 0, 100000), (992, 993, 0, 100000)]
abbrev Q_mo_askCommand__p (S : sS) : pst := fun r S1 => RI S1 ∧ FR md_mo_askCommand__p S S1 ∧ (r = none ∧ (RCO S S1))
set_option maxRecDepth 100000 in
theorem t_mo_askCommand__p {S : sS} (hH : RI S) (hLS : LSP S) (h15 : 0 ≤ Xi S 904 15) (hRB : RBD S) (hB : ABV S) (hb6 : BYT S 906) (hkx : Hid (∀ j : Nat, -1 ≤ Xi S 915 j ∧ Xi S 915 j ≤ 300)) (hlx : Hid (∀ j : Nat, (j : Int) < Xi S 904 15 → Xi S 914 j = 0 → Xi S 915 j ≤ 15)) (htt : 0 ≤ (Xi S 908 (Xi S 904 81).toNat) ∧ 0 ≤ Xi S 909 (Xi S 904 81).toNat ∧ (Xi S 908 (Xi S 904 81).toNat + 1 + Xi S 909 (Xi S 904 81).toNat) < 5000) (d : Nat) : Mp lay0 (d + 6) m_mo_askCommand [.ref 904] S (Q_mo_askCommand__p S) := by
  refine Mp_R rfl rfl (fun fu => ?_)
  have hF : FR md_mo_askCommand__p S S := FR.rf
  have w1 : -2147483648 ≤ Xi S 904 106 ∧ Xi S 904 106 ≤ 2147483647 := Xi_rgI
  have w2 : -2147483648 ≤ Xi S 904 15 ∧ Xi S 904 15 ≤ 2147483647 := Xi_rgI
  have w3 : -2147483648 ≤ Xi S 904 150 ∧ Xi S 904 150 ≤ 2147483647 := Xi_rgI
  have w4 : -2147483648 ≤ Xi S 904 153 ∧ Xi S 904 153 ≤ 2147483647 := Xi_rgI
  have w5 : -2147483648 ≤ Xi S 904 55 ∧ Xi S 904 55 ≤ 2147483647 := Xi_rgI
  have w6 : -2147483648 ≤ Xi S 904 81 ∧ Xi S 904 81 ≤ 2147483647 := Xi_rgI
  have C78 : ∀  (T1 : sS) (_ : RI T1) (_ : FR md_mo_askCommand__p S T1) (v1 : Int) (v2 : Int), (0 ≤ v1 ∧ v1 ≤ 1) → (-2147483648 ≤ v2 ∧ v2 ≤ 2147483647) → (0 ≤ v1 ∧ v1 ≤ 1) → (v2 = (rnR S 0 11)) → (Hid (TXOR S T1 (Xi S 908 (Xi S 904 81).toNat + 1) (Xi S 908 (Xi S 904 81).toNat + 1 + Xi S 909 (Xi S 904 81).toNat) v1)) → (NT3 T1 = n2C S) → Pl fu lay0 (d + 5) m_mo_askCommand 78 [(0, .ref 904), (1, iv v1), (2, iv v2)] [] T1 (Q_mo_askCommand__p S) := by
    intro T1 hHT1 hFT1 v1 v2 w7 w8 w9 v78 X78 N78
    have w10 : Xi T1 904 15 = Xi S 904 15 := hFT1.x _ _ rfl
    have w11 : Xi T1 904 69 = Xi S 904 69 := hFT1.x _ _ rfl
    have w12 : Xi T1 904 81 = Xi S 904 81 := hFT1.x _ _ rfl
    have w13 : -2147483648 ≤ Xi T1 904 106 ∧ Xi T1 904 106 ≤ 2147483647 := Xi_rgI
    have w14 : -2147483648 ≤ Xi T1 904 15 ∧ Xi T1 904 15 ≤ 2147483647 := Xi_rgI
    have w15 : -2147483648 ≤ Xi T1 904 150 ∧ Xi T1 904 150 ≤ 2147483647 := Xi_rgI
    have w16 : -2147483648 ≤ Xi T1 904 153 ∧ Xi T1 904 153 ≤ 2147483647 := Xi_rgI
    have w17 : -2147483648 ≤ Xi T1 904 55 ∧ Xi T1 904 55 ≤ 2147483647 := Xi_rgI
    have w18 : -2147483648 ≤ Xi T1 904 81 ∧ Xi T1 904 81 ≤ 2147483647 := Xi_rgI
    have C295 : ∀  (T2 : sS) (_ : RI T2) (_ : FR md_mo_askCommand__p S T2) (v1 : Int), (0 ≤ v1 ∧ v1 ≤ 1) → (0 ≤ v1 ∧ v1 ≤ 1) → (Hid (QCM S T2 (rnR S 0 11) (Xi S 908 (Xi S 904 81).toNat + 1) (Xi S 908 (Xi S 904 81).toNat + 1 + Xi S 909 (Xi S 904 81).toNat) v1)) → (NT3 T2 = n2C S) → Pl fu lay0 (d + 5) m_mo_askCommand 295 [(0, .ref 904), (1, iv v1)] [] T2 (Q_mo_askCommand__p S) := by
      intro T2 hHT2 hFT2 v1 w19 w20 Q295 N295
      have w21 : Xi T2 904 15 = Xi S 904 15 := hFT2.x _ _ rfl
      have w22 : Xi T2 904 69 = Xi S 904 69 := hFT2.x _ _ rfl
      have w23 : Xi T2 904 81 = Xi S 904 81 := hFT2.x _ _ rfl
      have w24 : -2147483648 ≤ Xi T2 904 106 ∧ Xi T2 904 106 ≤ 2147483647 := Xi_rgI
      have w25 : -2147483648 ≤ Xi T2 904 15 ∧ Xi T2 904 15 ≤ 2147483647 := Xi_rgI
      have w26 : -2147483648 ≤ Xi T2 904 150 ∧ Xi T2 904 150 ≤ 2147483647 := Xi_rgI
      have w27 : -2147483648 ≤ Xi T2 904 153 ∧ Xi T2 904 153 ≤ 2147483647 := Xi_rgI
      have w28 : -2147483648 ≤ Xi T2 904 55 ∧ Xi T2 904 55 ≤ 2147483647 := Xi_rgI
      have w29 : -2147483648 ≤ Xi T2 904 81 ∧ Xi T2 904 81 ≤ 2147483647 := Xi_rgI
      refine y_aload_n rfl rfl ?_
      refine y_iload_n rfl rfl ?_
      refine y_bipush rfl rfl ?_
      refine y_aload_n rfl rfl ?_
      refine y_gfi rfl rfl rfl rfl rfl ?_
      refine y_callV rfl rfl rfl (t_mo_need__p hHT2 v1 8 (Xi T2 904 81) ⟨by omega, by omega⟩ ⟨by omega, by omega⟩ ⟨by omega, by omega⟩ _) ?_
      rintro _ T3 ⟨hHT3, w31, rfl, nt303⟩
      have hFT3 : FR md_mo_askCommand__p S T3 := FR.tr hFT2 w31 rfl
      show Pl _ _ _ _ _ _ [] _ _
      have F303 := (by assumption : FR md_mo_need__p T2 T3)
      have N303 : NT3 T3 = (if v1 ≠ 0 then n2C S else ntF (n2C S) 8 (Xi S 908 (Xi S 904 81).toNat)) := by have t := nt303; rw [N295, show Xi T2 904 81 = Xi S 904 81 by omega, (hFT2.cx 908 rfl _).1] at t; by_cases q : v1 = 0; (rw [if_neg (fun w => w q)]; rw [if_pos q] at t; exact t); (rw [if_pos q]; rw [if_neg q] at t; exact t)
      refine y_return rfl rfl ?_
      exact ⟨hHT3, hFT3, rfl, (⟨_, QCM_FR F303 rfl rfl Q295.o, N303⟩)⟩
    have C238 : ∀  (T4 : sS) (_ : RI T4) (_ : FR md_mo_askCommand__p S T4) (v2 : Int) (v3 : Int), (-2147483648 ≤ v2 ∧ v2 ≤ 2147483647) → (-2147483648 ≤ v3 ∧ v3 ≤ 2147483647) → (Xi T4 904 153 = -1) → (v2 = (rnR S 0 11)) → (v2 ≠ -1 ∧ Xi S 942 (rnR S 0 11).toNat ≠ -1 ∧ Xi S 942 (rnR S 0 11).toNat ≠ -2) → (Hid (TXOR S T4 (Xi S 908 (Xi S 904 81).toNat + 1) (Xi S 908 (Xi S 904 81).toNat + 1 + Xi S 909 (Xi S 904 81).toNat) 1)) → (NT3 T4 = n2C S) → (v3 = fmC S T4) → Pl fu lay0 (d + 5) m_mo_askCommand 238 [(0, .ref 904), (2, iv v2), (3, iv v3)] [] T4 (Q_mo_askCommand__p S) := by
      intro T4 hHT4 hFT4 v2 v3 w37 w38 w39 a238 b238 X238 N238 m238
      have w40 : Xi T4 904 15 = Xi S 904 15 := hFT4.x _ _ rfl
      have w41 : Xi T4 904 69 = Xi S 904 69 := hFT4.x _ _ rfl
      have w42 : Xi T4 904 81 = Xi S 904 81 := hFT4.x _ _ rfl
      have w43 : -2147483648 ≤ Xi T4 904 106 ∧ Xi T4 904 106 ≤ 2147483647 := Xi_rgI
      have w44 : -2147483648 ≤ Xi T4 904 15 ∧ Xi T4 904 15 ≤ 2147483647 := Xi_rgI
      have w45 : -2147483648 ≤ Xi T4 904 150 ∧ Xi T4 904 150 ≤ 2147483647 := Xi_rgI
      have w46 : -2147483648 ≤ Xi T4 904 153 ∧ Xi T4 904 153 ≤ 2147483647 := Xi_rgI
      have w47 : -2147483648 ≤ Xi T4 904 55 ∧ Xi T4 904 55 ≤ 2147483647 := Xi_rgI
      have w48 : -2147483648 ≤ Xi T4 904 81 ∧ Xi T4 904 81 ≤ 2147483647 := Xi_rgI
      refine y_iload_n rfl rfl ?_
      refine y_iconst rfl ?_
      refine y_icmp_eq rfl rfl (by unfold rg; omega) (by unfold rg; omega) (fun w49 => ?_) (fun w50 => ?_)
      · refine y_iconst rfl ?_
        refine y_istore_n rfl rfl rfl ?_
        refine y_aload_n rfl rfl ?_
        refine y_iload_n rfl rfl ?_
        refine y_if_eq rfl rfl (by unfold rg; omega) (fun w51 => ?_) (fun w52 => absurd w52 (by omega))
        · refine y_iconst rfl ?_
          refine y_pfi rfl rfl rfl rfl ?_
          obtain ⟨U5, eU5⟩ : ∃ T : sS, T = uI T4 904 153 (Int32.ofInt (-1)) := ⟨_, rfl⟩
          rw [← eU5]
          have hHU5 : RI U5 := by rw [eU5]; exact RI_w hHT4
          have hFU5 : FR md_mo_askCommand__p S U5 := by rw [eU5]; exact FR.wI hFT4 (mdf_i (r := (904, 905, 153, 154)) (List.mem_of_getElem? (i := 5) rfl) (inR_i (by omega) (by omega) (by omega) (by omega)))
          have w53 : Xi U5 904 153 = (-1) := by rw [eU5]; exact Xi_same (by unfold rg; omega)
          have e292 := eU5
          have m292 : fmC S U5 = v3 := (fmC_u e292).trans m238.symm
          have Q292 : Hid (QCM S U5 (rnR S 0 11) (Xi S 908 (Xi S 904 81).toNat + 1) (Xi S 908 (Xi S 904 81).toNat + 1 + Xi S 909 (Xi S 904 81).toNat) 0) := qcm_k (TXOR_FR (FR_e e292) rfl rfl X238.o) (by omega) (by omega) (fun q => by first | exact absurd q (by omega) | exact ⟨fun w => absurd w (by omega), fun w => absurd w (by omega), fun _ _ => by rw [m292]; exact ⟨by omega, by omega, by rw [← b265]; omega⟩⟩) (fun q w => by first | omega | (have u := w.2.2 (by omega) (by omega); rw [m292] at u; first | omega | (rw [← b265] at u; omega))) ⟨fun w => absurd w (by omega), fun w => absurd w (by omega), fun _ _ q => by first | exact absurd q (by omega) | (rw [m292, e292, Xi_same (by unfold rg; omega)]; exact s287)⟩
          have w54 : Xi U5 904 106 = Xi T4 904 106 := (show Xi U5 904 106 = Xi T4 904 106 from by rw [eU5]; exact Xi_ne (by omega))
          have w55 : Xi U5 904 15 = Xi T4 904 15 := (show Xi U5 904 15 = Xi T4 904 15 from by rw [eU5]; exact Xi_ne (by omega))
          have w56 : Xi U5 904 150 = Xi T4 904 150 := (show Xi U5 904 150 = Xi T4 904 150 from by rw [eU5]; exact Xi_ne (by omega))
          have w57 : Xi U5 904 55 = Xi T4 904 55 := (show Xi U5 904 55 = Xi T4 904 55 from by rw [eU5]; exact Xi_ne (by omega))
          have w58 : Xi U5 904 81 = Xi T4 904 81 := (show Xi U5 904 81 = Xi T4 904 81 from by rw [eU5]; exact Xi_ne (by omega))
          exact Pl_weak (C295 U5 hHU5 hFU5 (0) (by omega) (by omega) (by first | exact Q292 | exact Q162 | exact Q114 | exact qcm_0 X80.o (by omega) m80) (by first | exact (NT3_FR (FR_e e292) rfl).trans N238 | exact (NT3_FR (FR_e e162) rfl).trans N80 | exact N80)) (by omega) (And.intro rfl (And.intro rfl (True.intro)))
      · refine y_aload_n rfl rfl ?_
        refine y_gfr rfl rfl rfl rfl rfl (hHT4.r 904 12 914 rfl) ?_
        refine y_iload_n rfl rfl ?_
        refine y_ialoadP (n := 300) rfl rfl (by unfold rg; omega) (fun w59 w60 => ?_)
        have w61 : -2147483648 ≤ (Xi T4 914 ((v3).toNat)) ∧ (Xi T4 914 ((v3).toNat)) ≤ 2147483647 := Xi_rgI
        have s248 : (Xi T4 914 ((v3).toNat)) = Xi S 914 (v3).toNat := (hFT4.cx 914 rfl _).1
        refine y_if_ne rfl rfl (by unfold rg; omega) (fun w62 => ?_) (fun w63 => ?_)
        · refine y_iconst rfl ?_
          refine y_istore_n rfl rfl rfl ?_
          refine y_aload_n rfl rfl ?_
          refine y_iload_n rfl rfl ?_
          refine y_if_eq rfl rfl (by unfold rg; omega) (fun w64 => ?_) (fun w65 => absurd w65 (by omega))
          · refine y_iconst rfl ?_
            refine y_pfi rfl rfl rfl rfl ?_
            obtain ⟨U6, eU6⟩ : ∃ T : sS, T = uI T4 904 153 (Int32.ofInt (-1)) := ⟨_, rfl⟩
            rw [← eU6]
            have hHU6 : RI U6 := by rw [eU6]; exact RI_w hHT4
            have hFU6 : FR md_mo_askCommand__p S U6 := by rw [eU6]; exact FR.wI hFT4 (mdf_i (r := (904, 905, 153, 154)) (List.mem_of_getElem? (i := 5) rfl) (inR_i (by omega) (by omega) (by omega) (by omega)))
            have w66 : Xi U6 904 153 = (-1) := by rw [eU6]; exact Xi_same (by unfold rg; omega)
            have e292 := eU6
            have m292 : fmC S U6 = v3 := (fmC_u e292).trans m238.symm
            have Q292 : Hid (QCM S U6 (rnR S 0 11) (Xi S 908 (Xi S 904 81).toNat + 1) (Xi S 908 (Xi S 904 81).toNat + 1 + Xi S 909 (Xi S 904 81).toNat) 0) := qcm_k (TXOR_FR (FR_e e292) rfl rfl X238.o) (by omega) (by omega) (fun q => by first | exact absurd q (by omega) | exact ⟨fun w => absurd w (by omega), fun w => absurd w (by omega), fun _ _ => by rw [m292]; exact ⟨by omega, by omega, by rw [← b265]; omega⟩⟩) (fun q w => by first | omega | (have u := w.2.2 (by omega) (by omega); rw [m292] at u; first | omega | (rw [← b265] at u; omega))) ⟨fun w => absurd w (by omega), fun w => absurd w (by omega), fun _ _ q => by first | exact absurd q (by omega) | (rw [m292, e292, Xi_same (by unfold rg; omega)]; exact s287)⟩
            have w67 : Xi U6 904 106 = Xi T4 904 106 := (show Xi U6 904 106 = Xi T4 904 106 from by rw [eU6]; exact Xi_ne (by omega))
            have w68 : Xi U6 904 15 = Xi T4 904 15 := (show Xi U6 904 15 = Xi T4 904 15 from by rw [eU6]; exact Xi_ne (by omega))
            have w69 : Xi U6 904 150 = Xi T4 904 150 := (show Xi U6 904 150 = Xi T4 904 150 from by rw [eU6]; exact Xi_ne (by omega))
            have w70 : Xi U6 904 55 = Xi T4 904 55 := (show Xi U6 904 55 = Xi T4 904 55 from by rw [eU6]; exact Xi_ne (by omega))
            have w71 : Xi U6 904 81 = Xi T4 904 81 := (show Xi U6 904 81 = Xi T4 904 81 from by rw [eU6]; exact Xi_ne (by omega))
            exact Pl_weak (C295 U6 hHU6 hFU6 (0) (by omega) (by omega) (by first | exact Q292 | exact Q162 | exact Q114 | exact qcm_0 X80.o (by omega) m80) (by first | exact (NT3_FR (FR_e e292) rfl).trans N238 | exact (NT3_FR (FR_e e162) rfl).trans N80 | exact N80)) (by omega) (And.intro rfl (And.intro rfl (True.intro)))
        · refine y_aload_n rfl rfl ?_
          refine y_aload_n rfl rfl ?_
          refine y_gfr rfl rfl rfl rfl rfl (hHT4.r 904 13 915 rfl) ?_
          refine y_iload_n rfl rfl ?_
          refine y_ialoadP (n := 300) rfl rfl (by unfold rg; omega) (fun w72 w73 => ?_)
          have w74 : -2147483648 ≤ (Xi T4 915 ((v3).toNat)) ∧ (Xi T4 915 ((v3).toNat)) ≤ 2147483647 := Xi_rgI
          have s258 : (Xi T4 915 ((v3).toNat)) = Xi S 915 (v3).toNat := (hFT4.cx 915 rfl _).1
          have r258 := hkx.o (v3).toNat
          have q258 := hlx.o (v3).toNat (fmC_l h15 m238 (by omega)) (by omega)
          refine y_aload_n rfl rfl ?_
          refine y_gfr rfl rfl rfl rfl rfl (hHT4.r 904 50 942 rfl) ?_
          refine y_iload_n rfl rfl ?_
          refine y_ialoadP (n := 12) rfl rfl (by unfold rg; omega) (fun w75 w76 => ?_)
          have w77 : -2147483648 ≤ (Xi T4 942 ((v2).toNat)) ∧ (Xi T4 942 ((v2).toNat)) ≤ 2147483647 := Xi_rgI
          have s264 : (Xi T4 942 ((v2).toNat)) = Xi S 942 (rnR S 0 11).toNat := by rw [(hFT4.cx 942 rfl _).1, a238]
          refine y_callV rfl rfl rfl (t_mo_isBelow__p hHT4 (Xi T4 915 ((v3).toNat)) (Xi T4 942 ((v2).toNat)) ⟨by omega, by omega⟩ ⟨by omega, by omega⟩ (by first | assumption | exact (ABV_FR hFT4 rfl (by assumption : ABV S))) _) ?_
          rintro _ _ ⟨rfl, z78, rfl, w78, f265⟩
          show Pl _ _ _ _ _ _ [iv z78] _ _
          have K265 : True := trivial
          have b265 : z78 = blR S (Xi S 915 (v3).toNat) (Xi S 942 (rnR S 0 11).toNat) := by have t := f265; rw [blR_fr hFT4 rfl, s258, s264] at t; exact t
          refine y_if_eq rfl rfl (by unfold rg; omega) (fun w79 => ?_) (fun w80 => ?_)
          · refine y_iconst rfl ?_
            refine y_istore_n rfl rfl rfl ?_
            refine y_aload_n rfl rfl ?_
            refine y_iload_n rfl rfl ?_
            refine y_if_eq rfl rfl (by unfold rg; omega) (fun w81 => ?_) (fun w82 => absurd w82 (by omega))
            · refine y_iconst rfl ?_
              refine y_pfi rfl rfl rfl rfl ?_
              obtain ⟨U7, eU7⟩ : ∃ T : sS, T = uI T4 904 153 (Int32.ofInt (-1)) := ⟨_, rfl⟩
              rw [← eU7]
              have hHU7 : RI U7 := by rw [eU7]; exact RI_w hHT4
              have hFU7 : FR md_mo_askCommand__p S U7 := by rw [eU7]; exact FR.wI hFT4 (mdf_i (r := (904, 905, 153, 154)) (List.mem_of_getElem? (i := 5) rfl) (inR_i (by omega) (by omega) (by omega) (by omega)))
              have w83 : Xi U7 904 153 = (-1) := by rw [eU7]; exact Xi_same (by unfold rg; omega)
              have e292 := eU7
              have m292 : fmC S U7 = v3 := (fmC_u e292).trans m238.symm
              have Q292 : Hid (QCM S U7 (rnR S 0 11) (Xi S 908 (Xi S 904 81).toNat + 1) (Xi S 908 (Xi S 904 81).toNat + 1 + Xi S 909 (Xi S 904 81).toNat) 0) := qcm_k (TXOR_FR (FR_e e292) rfl rfl X238.o) (by omega) (by omega) (fun q => by first | exact absurd q (by omega) | exact ⟨fun w => absurd w (by omega), fun w => absurd w (by omega), fun _ _ => by rw [m292]; exact ⟨by omega, by omega, by rw [← b265]; omega⟩⟩) (fun q w => by first | omega | (have u := w.2.2 (by omega) (by omega); rw [m292] at u; first | omega | (rw [← b265] at u; omega))) ⟨fun w => absurd w (by omega), fun w => absurd w (by omega), fun _ _ q => by first | exact absurd q (by omega) | (rw [m292, e292, Xi_same (by unfold rg; omega)]; exact s287)⟩
              have w84 : Xi U7 904 106 = Xi T4 904 106 := (show Xi U7 904 106 = Xi T4 904 106 from by rw [eU7]; exact Xi_ne (by omega))
              have w85 : Xi U7 904 15 = Xi T4 904 15 := (show Xi U7 904 15 = Xi T4 904 15 from by rw [eU7]; exact Xi_ne (by omega))
              have w86 : Xi U7 904 150 = Xi T4 904 150 := (show Xi U7 904 150 = Xi T4 904 150 from by rw [eU7]; exact Xi_ne (by omega))
              have w87 : Xi U7 904 55 = Xi T4 904 55 := (show Xi U7 904 55 = Xi T4 904 55 from by rw [eU7]; exact Xi_ne (by omega))
              have w88 : Xi U7 904 81 = Xi T4 904 81 := (show Xi U7 904 81 = Xi T4 904 81 from by rw [eU7]; exact Xi_ne (by omega))
              exact Pl_weak (C295 U7 hHU7 hFU7 (0) (by omega) (by omega) (by first | exact Q292 | exact Q162 | exact Q114 | exact qcm_0 X80.o (by omega) m80) (by first | exact (NT3_FR (FR_e e292) rfl).trans N238 | exact (NT3_FR (FR_e e162) rfl).trans N80 | exact N80)) (by omega) (And.intro rfl (And.intro rfl (True.intro)))
          · refine y_iconst rfl ?_
            refine y_goto rfl rfl ?_
            refine y_istore_n rfl rfl rfl ?_
            refine y_aload_n rfl rfl ?_
            refine y_iload_n rfl rfl ?_
            refine y_if_eq rfl rfl (by unfold rg; omega) (fun w89 => absurd w89 (by omega)) (fun w90 => ?_)
            · refine y_aload_n rfl rfl ?_
              refine y_gfr rfl rfl rfl rfl rfl (hHT4.r 904 13 915 rfl) ?_
              refine y_iload_n rfl rfl ?_
              refine y_ialoadP (n := 300) rfl rfl (by unfold rg; omega) (fun w91 w92 => ?_)
              have s287 : (Xi T4 915 ((v3).toNat)) = Xi S 915 (v3).toNat := (hFT4.cx 915 rfl _).1
              refine y_goto rfl rfl ?_
              refine y_pfi rfl rfl rfl rfl ?_
              obtain ⟨U8, eU8⟩ : ∃ T : sS, T = uI T4 904 153 (Int32.ofInt (Xi T4 915 ((v3).toNat))) := ⟨_, rfl⟩
              rw [← eU8]
              have hHU8 : RI U8 := by rw [eU8]; exact RI_w hHT4
              have hFU8 : FR md_mo_askCommand__p S U8 := by rw [eU8]; exact FR.wI hFT4 (mdf_i (r := (904, 905, 153, 154)) (List.mem_of_getElem? (i := 5) rfl) (inR_i (by omega) (by omega) (by omega) (by omega)))
              have w93 : Xi U8 904 153 = (Xi T4 915 ((v3).toNat)) := by rw [eU8]; exact Xi_same (by unfold rg; omega)
              have e292 := eU8
              have m292 : fmC S U8 = v3 := (fmC_u e292).trans m238.symm
              have Q292 : Hid (QCM S U8 (rnR S 0 11) (Xi S 908 (Xi S 904 81).toNat + 1) (Xi S 908 (Xi S 904 81).toNat + 1 + Xi S 909 (Xi S 904 81).toNat) 1) := qcm_k (TXOR_FR (FR_e e292) rfl rfl X238.o) (by omega) (by omega) (fun q => by first | exact absurd q (by omega) | exact ⟨fun w => absurd w (by omega), fun w => absurd w (by omega), fun _ _ => by rw [m292]; exact ⟨by omega, by omega, by rw [← b265]; omega⟩⟩) (fun q w => by first | omega | (have u := w.2.2 (by omega) (by omega); rw [m292] at u; first | omega | (rw [← b265] at u; omega))) ⟨fun w => absurd w (by omega), fun w => absurd w (by omega), fun _ _ q => by first | exact absurd q (by omega) | (rw [m292, e292, Xi_same (by unfold rg; omega)]; exact s287)⟩
              have w94 : Xi U8 904 106 = Xi T4 904 106 := (show Xi U8 904 106 = Xi T4 904 106 from by rw [eU8]; exact Xi_ne (by omega))
              have w95 : Xi U8 904 15 = Xi T4 904 15 := (show Xi U8 904 15 = Xi T4 904 15 from by rw [eU8]; exact Xi_ne (by omega))
              have w96 : Xi U8 904 150 = Xi T4 904 150 := (show Xi U8 904 150 = Xi T4 904 150 from by rw [eU8]; exact Xi_ne (by omega))
              have w97 : Xi U8 904 55 = Xi T4 904 55 := (show Xi U8 904 55 = Xi T4 904 55 from by rw [eU8]; exact Xi_ne (by omega))
              have w98 : Xi U8 904 81 = Xi T4 904 81 := (show Xi U8 904 81 = Xi T4 904 81 from by rw [eU8]; exact Xi_ne (by omega))
              exact Pl_weak (C295 U8 hHU8 hFU8 (1) (by omega) (by omega) (by first | exact Q292 | exact Q162 | exact Q114 | exact qcm_0 X80.o (by omega) m80) (by first | exact (NT3_FR (FR_e e292) rfl).trans N238 | exact (NT3_FR (FR_e e162) rfl).trans N80 | exact N80)) (by omega) (And.intro rfl (And.intro rfl (True.intro)))
    refine y_aload_n rfl rfl ?_
    refine y_iconst rfl ?_
    refine y_pfi rfl rfl rfl rfl ?_
    obtain ⟨U9, eU9⟩ : ∃ T : sS, T = uI T1 904 153 (Int32.ofInt (-1)) := ⟨_, rfl⟩
    rw [← eU9]
    have hHU9 : RI U9 := by rw [eU9]; exact RI_w hHT1
    have hFU9 : FR md_mo_askCommand__p S U9 := by rw [eU9]; exact FR.wI hFT1 (mdf_i (r := (904, 905, 153, 154)) (List.mem_of_getElem? (i := 5) rfl) (inR_i (by omega) (by omega) (by omega) (by omega)))
    have w99 : Xi U9 904 153 = (-1) := by rw [eU9]; exact Xi_same (by unfold rg; omega)
    have e80 := eU9
    have X80 : Hid (TXOR S U9 (Xi S 908 (Xi S 904 81).toNat + 1) (Xi S 908 (Xi S 904 81).toNat + 1 + Xi S 909 (Xi S 904 81).toNat) v1) := TXOR_FR (FR_e e80) rfl rfl X78.o
    have N80 : NT3 U9 = n2C S := (NT3_FR (FR_e e80) rfl).trans N78
    have m80 : Xi U9 904 153 = -1 := by rw [e80]; exact Xi_same (by unfold rg; omega)
    have g80 : v1 = 1 → 0 ≤ Xi U9 904 150 := fun q => txor_p X80.o q
    refine y_iload_n rfl rfl ?_
    refine y_if_eq rfl rfl (by unfold rg; omega) (fun w100 => ?_) (fun w101 => ?_)
    · have w102 : Xi U9 904 106 = Xi T1 904 106 := (show Xi U9 904 106 = Xi T1 904 106 from by rw [eU9]; exact Xi_ne (by omega))
      have w103 : Xi U9 904 15 = Xi T1 904 15 := (show Xi U9 904 15 = Xi T1 904 15 from by rw [eU9]; exact Xi_ne (by omega))
      have w104 : Xi U9 904 150 = Xi T1 904 150 := (show Xi U9 904 150 = Xi T1 904 150 from by rw [eU9]; exact Xi_ne (by omega))
      have w105 : Xi U9 904 55 = Xi T1 904 55 := (show Xi U9 904 55 = Xi T1 904 55 from by rw [eU9]; exact Xi_ne (by omega))
      have w106 : Xi U9 904 81 = Xi T1 904 81 := (show Xi U9 904 81 = Xi T1 904 81 from by rw [eU9]; exact Xi_ne (by omega))
      exact Pl_weak (C295 U9 hHU9 hFU9 (v1) (by omega) (by omega) (by first | exact Q292 | exact Q162 | exact Q114 | exact qcm_0 X80.o (by omega) m80) (by first | exact (NT3_FR (FR_e e292) rfl).trans N238 | exact (NT3_FR (FR_e e162) rfl).trans N80 | exact N80)) (by omega) (And.intro rfl (And.intro rfl (True.intro)))
    · refine y_iload_n rfl rfl ?_
      refine y_iconst rfl ?_
      refine y_icmp_eq rfl rfl (by unfold rg; omega) (by unfold rg; omega) (fun w107 => ?_) (fun w108 => ?_)
      · have w109 : Xi U9 904 106 = Xi T1 904 106 := (show Xi U9 904 106 = Xi T1 904 106 from by rw [eU9]; exact Xi_ne (by omega))
        have w110 : Xi U9 904 15 = Xi T1 904 15 := (show Xi U9 904 15 = Xi T1 904 15 from by rw [eU9]; exact Xi_ne (by omega))
        have w111 : Xi U9 904 150 = Xi T1 904 150 := (show Xi U9 904 150 = Xi T1 904 150 from by rw [eU9]; exact Xi_ne (by omega))
        have w112 : Xi U9 904 55 = Xi T1 904 55 := (show Xi U9 904 55 = Xi T1 904 55 from by rw [eU9]; exact Xi_ne (by omega))
        have w113 : Xi U9 904 81 = Xi T1 904 81 := (show Xi U9 904 81 = Xi T1 904 81 from by rw [eU9]; exact Xi_ne (by omega))
        exact Pl_weak (C295 U9 hHU9 hFU9 (v1) (by omega) (by omega) (by first | exact Q292 | exact Q162 | exact Q114 | exact qcm_0 X80.o (by omega) m80) (by first | exact (NT3_FR (FR_e e292) rfl).trans N238 | exact (NT3_FR (FR_e e162) rfl).trans N80 | exact N80)) (by omega) (And.intro rfl (And.intro rfl (True.intro)))
      · refine y_aload_n rfl rfl ?_
        refine y_gfr rfl rfl rfl rfl rfl (hHU9.r 904 50 942 rfl) ?_
        refine y_iload_n rfl rfl ?_
        refine y_ialoadP (n := 12) rfl rfl (by unfold rg; omega) (fun w114 w115 => ?_)
        have w116 : -2147483648 ≤ (Xi U9 942 ((v2).toNat)) ∧ (Xi U9 942 ((v2).toNat)) ≤ 2147483647 := Xi_rgI
        have k97 : (Xi U9 942 ((v2).toNat)) = Xi S 942 (rnR S 0 11).toNat := by rw [(hFU9.cx 942 rfl _).1, v78]
        refine y_iconst rfl ?_
        refine y_icmp_ne rfl rfl (by unfold rg; omega) (by unfold rg; omega) (fun w117 => ?_) (fun w118 => ?_)
        · refine y_aload_n rfl rfl ?_
          refine y_gfr rfl rfl rfl rfl rfl (hHU9.r 904 50 942 rfl) ?_
          refine y_iload_n rfl rfl ?_
          refine y_ialoadP (n := 12) rfl rfl (by unfold rg; omega) (fun w119 w120 => ?_)
          refine y_bipush rfl rfl ?_
          refine y_icmp_ne rfl rfl (by unfold rg; omega) (by unfold rg; omega) (fun w121 => ?_) (fun w122 => ?_)
          · refine y_aload_n rfl rfl ?_
            refine y_gfi rfl rfl rfl rfl rfl ?_
            have w123 : (Xi U9 904 150) = (Xi T1 904 150) := (show Xi U9 904 150 = Xi T1 904 150 from by rw [eU9]; exact Xi_ne (by omega))
            rw [w123]
            refine y_iconst rfl ?_
            refine y_icmp_gt rfl rfl (by unfold rg; omega) (by unfold rg; omega) (fun w124 => ?_) (fun w125 => ?_)
            · refine y_iconst rfl ?_
              refine y_goto rfl rfl ?_
              refine y_istore_n rfl rfl rfl ?_
              have w126 : Xi U9 904 106 = Xi T1 904 106 := (show Xi U9 904 106 = Xi T1 904 106 from by rw [eU9]; exact Xi_ne (by omega))
              have w127 : Xi U9 904 15 = Xi T1 904 15 := (show Xi U9 904 15 = Xi T1 904 15 from by rw [eU9]; exact Xi_ne (by omega))
              have w128 : Xi U9 904 150 = Xi T1 904 150 := (show Xi U9 904 150 = Xi T1 904 150 from by rw [eU9]; exact Xi_ne (by omega))
              have w129 : Xi U9 904 55 = Xi T1 904 55 := (show Xi U9 904 55 = Xi T1 904 55 from by rw [eU9]; exact Xi_ne (by omega))
              have w130 : Xi U9 904 81 = Xi T1 904 81 := (show Xi U9 904 81 = Xi T1 904 81 from by rw [eU9]; exact Xi_ne (by omega))
              exact Pl_weak (C238 U9 hHU9 hFU9 (v2) ((-1)) (by omega) (by omega) (by omega) (v78) (⟨by omega, by omega, by omega⟩) (by have t := X80; rw [show v1 = 1 by omega] at t; exact t) (N80) (by first | exact m234 | (unfold fmC; rw [if_neg (by omega)]))) (by omega) (And.intro rfl (And.intro rfl (And.intro rfl (True.intro))))
            · refine y_aload_n rfl rfl ?_
              refine y_gfi rfl rfl rfl rfl rfl ?_
              have w131 : (Xi U9 904 150) = (Xi T1 904 150) := (show Xi U9 904 150 = Xi T1 904 150 from by rw [eU9]; exact Xi_ne (by omega))
              rw [w131]
              refine y_if_ne rfl rfl (by unfold rg; omega) (fun w132 => ?_) (fun w133 => ?_)
              · refine y_aload_n rfl rfl ?_
                refine y_aload_n rfl rfl ?_
                refine y_gfr rfl rfl rfl rfl rfl (hHU9.r 904 149 991 rfl) ?_
                refine y_iconst rfl ?_
                refine y_laloadP (n := 3) rfl rfl (by unfold rg; omega) (fun w134 w135 => ?_)
                have w136 : -9223372036854775808 ≤ (Xj U9 991 ((0 : Int).toNat)) ∧ (Xj U9 991 ((0 : Int).toNat)) < 9223372036854775808 := Xj_rg
                refine y_aload_n rfl rfl ?_
                refine y_gfi rfl rfl rfl rfl rfl ?_
                have w137 : (Xi U9 904 150) = (Xi T1 904 150) := (show Xi U9 904 150 = Xi T1 904 150 from by rw [eU9]; exact Xi_ne (by omega))
                rw [w137]
                refine y_iconst rfl ?_
                refine y_icmp_le rfl rfl (by unfold rg; omega) (by unfold rg; omega) (fun w138 => ?_) (fun w139 => ?_)
                · refine y_lconst (z := 0) rfl rfl ?_
                  refine y_aload_n rfl rfl ?_
                  refine y_gfi rfl rfl rfl rfl rfl ?_
                  have w140 : (Xi U9 904 150) = (Xi T1 904 150) := (show Xi U9 904 150 = Xi T1 904 150 from by rw [eU9]; exact Xi_ne (by omega))
                  rw [w140]
                  refine y_iconst rfl ?_
                  refine y_icmp_le rfl rfl (by unfold rg; omega) (by unfold rg; omega) (fun w141 => ?_) (fun w142 => ?_)
                  · refine y_lconst (z := 0) rfl rfl ?_
                    refine y_aload_n rfl rfl ?_
                    refine y_gfi rfl rfl rfl rfl rfl ?_
                    have w143 : (Xi U9 904 150) = (Xi T1 904 150) := (show Xi U9 904 150 = Xi T1 904 150 from by rw [eU9]; exact Xi_ne (by omega))
                    rw [w143]
                    have w144 : Xi U9 904 106 = Xi T1 904 106 := (show Xi U9 904 106 = Xi T1 904 106 from by rw [eU9]; exact Xi_ne (by omega))
                    have w145 : Xi U9 904 15 = Xi T1 904 15 := (show Xi U9 904 15 = Xi T1 904 15 from by rw [eU9]; exact Xi_ne (by omega))
                    have w146 : Xi U9 904 150 = Xi T1 904 150 := (show Xi U9 904 150 = Xi T1 904 150 from by rw [eU9]; exact Xi_ne (by omega))
                    have w147 : Xi U9 904 55 = Xi T1 904 55 := (show Xi U9 904 55 = Xi T1 904 55 from by rw [eU9]; exact Xi_ne (by omega))
                    have w148 : Xi U9 904 81 = Xi T1 904 81 := (show Xi U9 904 81 = Xi T1 904 81 from by rw [eU9]; exact Xi_ne (by omega))
                    refine y_callV rfl rfl rfl (t_mo_find__p hHU9 (Xj U9 991 ((0 : Int).toNat)) 0 0 (Xi T1 904 150) ⟨by omega, by omega⟩ (Xj_rg) (by first | exact Xj_rg | (unfold rgL; omega)) (by first | exact Xj_rg | (unfold rgL; omega)) (by first | assumption | omega) (by first | assumption | exact (LSP_FR hFU9 rfl rfl (by assumption : LSP S))) _) ?_
                    rintro _ _ ⟨rfl, z149, rfl, w149, f234⟩
                    show Pl _ _ _ _ _ _ [iv z149] _ _
                    have m234 : z149 = fmC S U9 := by have t := f234; rw [fdR_sm (SMR_FR hFU9 rfl rfl), show Xi U9 904 15 = Xi S 904 15 by omega, show Xi T1 904 150 = Xi U9 904 150 by omega] at t; unfold fmC; rw [if_pos (by omega)]; first | (exfalso; omega) | (rw [if_pos (show 1 < Xi U9 904 150 by omega), if_pos (show 2 < Xi U9 904 150 by omega)]; exact t) | (rw [if_pos (show 1 < Xi U9 904 150 by omega), if_neg (show ¬ 2 < Xi U9 904 150 by omega)]; exact t) | (rw [if_neg (show ¬ 1 < Xi U9 904 150 by omega), if_neg (show ¬ 2 < Xi U9 904 150 by omega)]; exact t)
                    clear f234
                    refine y_istore_n rfl rfl rfl ?_
                    exact Pl_weak (C238 U9 hHU9 hFU9 (v2) (z149) (by omega) (by omega) (by omega) (v78) (⟨by omega, by omega, by omega⟩) (by have t := X80; rw [show v1 = 1 by omega] at t; exact t) (N80) (by first | exact m234 | (unfold fmC; rw [if_neg (by omega)]))) (by omega) (And.intro rfl (And.intro rfl (And.intro rfl (True.intro))))
                  · refine y_aload_n rfl rfl ?_
                    refine y_gfr rfl rfl rfl rfl rfl (hHU9.r 904 149 991 rfl) ?_
                    refine y_iconst rfl ?_
                    refine y_laloadP (n := 3) rfl rfl (by unfold rg; omega) (fun w155 w156 => ?_)
                    have w157 : -9223372036854775808 ≤ (Xj U9 991 ((2 : Int).toNat)) ∧ (Xj U9 991 ((2 : Int).toNat)) < 9223372036854775808 := Xj_rg
                    refine y_goto rfl rfl ?_
                    refine y_aload_n rfl rfl ?_
                    refine y_gfi rfl rfl rfl rfl rfl ?_
                    have w158 : (Xi U9 904 150) = (Xi T1 904 150) := (show Xi U9 904 150 = Xi T1 904 150 from by rw [eU9]; exact Xi_ne (by omega))
                    rw [w158]
                    have w159 : Xi U9 904 106 = Xi T1 904 106 := (show Xi U9 904 106 = Xi T1 904 106 from by rw [eU9]; exact Xi_ne (by omega))
                    have w160 : Xi U9 904 15 = Xi T1 904 15 := (show Xi U9 904 15 = Xi T1 904 15 from by rw [eU9]; exact Xi_ne (by omega))
                    have w161 : Xi U9 904 150 = Xi T1 904 150 := (show Xi U9 904 150 = Xi T1 904 150 from by rw [eU9]; exact Xi_ne (by omega))
                    have w162 : Xi U9 904 55 = Xi T1 904 55 := (show Xi U9 904 55 = Xi T1 904 55 from by rw [eU9]; exact Xi_ne (by omega))
                    have w163 : Xi U9 904 81 = Xi T1 904 81 := (show Xi U9 904 81 = Xi T1 904 81 from by rw [eU9]; exact Xi_ne (by omega))
                    refine y_callV rfl rfl rfl (t_mo_find__p hHU9 (Xj U9 991 ((0 : Int).toNat)) 0 (Xj U9 991 ((2 : Int).toNat)) (Xi T1 904 150) ⟨by omega, by omega⟩ (Xj_rg) (by first | exact Xj_rg | (unfold rgL; omega)) (by first | exact Xj_rg | (unfold rgL; omega)) (by first | assumption | omega) (by first | assumption | exact (LSP_FR hFU9 rfl rfl (by assumption : LSP S))) _) ?_
                    rintro _ _ ⟨rfl, z164, rfl, w164, f234⟩
                    show Pl _ _ _ _ _ _ [iv z164] _ _
                    have m234 : z164 = fmC S U9 := by have t := f234; rw [fdR_sm (SMR_FR hFU9 rfl rfl), show Xi U9 904 15 = Xi S 904 15 by omega, show Xi T1 904 150 = Xi U9 904 150 by omega] at t; unfold fmC; rw [if_pos (by omega)]; first | (exfalso; omega) | (rw [if_pos (show 1 < Xi U9 904 150 by omega), if_pos (show 2 < Xi U9 904 150 by omega)]; exact t) | (rw [if_pos (show 1 < Xi U9 904 150 by omega), if_neg (show ¬ 2 < Xi U9 904 150 by omega)]; exact t) | (rw [if_neg (show ¬ 1 < Xi U9 904 150 by omega), if_neg (show ¬ 2 < Xi U9 904 150 by omega)]; exact t)
                    clear f234
                    refine y_istore_n rfl rfl rfl ?_
                    exact Pl_weak (C238 U9 hHU9 hFU9 (v2) (z164) (by omega) (by omega) (by omega) (v78) (⟨by omega, by omega, by omega⟩) (by have t := X80; rw [show v1 = 1 by omega] at t; exact t) (N80) (by first | exact m234 | (unfold fmC; rw [if_neg (by omega)]))) (by omega) (And.intro rfl (And.intro rfl (And.intro rfl (True.intro))))
                · refine y_aload_n rfl rfl ?_
                  refine y_gfr rfl rfl rfl rfl rfl (hHU9.r 904 149 991 rfl) ?_
                  refine y_iconst rfl ?_
                  refine y_laloadP (n := 3) rfl rfl (by unfold rg; omega) (fun w170 w171 => ?_)
                  have w172 : -9223372036854775808 ≤ (Xj U9 991 ((1 : Int).toNat)) ∧ (Xj U9 991 ((1 : Int).toNat)) < 9223372036854775808 := Xj_rg
                  refine y_goto rfl rfl ?_
                  refine y_aload_n rfl rfl ?_
                  refine y_gfi rfl rfl rfl rfl rfl ?_
                  have w173 : (Xi U9 904 150) = (Xi T1 904 150) := (show Xi U9 904 150 = Xi T1 904 150 from by rw [eU9]; exact Xi_ne (by omega))
                  rw [w173]
                  refine y_iconst rfl ?_
                  refine y_icmp_le rfl rfl (by unfold rg; omega) (by unfold rg; omega) (fun w174 => ?_) (fun w175 => ?_)
                  · refine y_lconst (z := 0) rfl rfl ?_
                    refine y_aload_n rfl rfl ?_
                    refine y_gfi rfl rfl rfl rfl rfl ?_
                    have w176 : (Xi U9 904 150) = (Xi T1 904 150) := (show Xi U9 904 150 = Xi T1 904 150 from by rw [eU9]; exact Xi_ne (by omega))
                    rw [w176]
                    have w177 : Xi U9 904 106 = Xi T1 904 106 := (show Xi U9 904 106 = Xi T1 904 106 from by rw [eU9]; exact Xi_ne (by omega))
                    have w178 : Xi U9 904 15 = Xi T1 904 15 := (show Xi U9 904 15 = Xi T1 904 15 from by rw [eU9]; exact Xi_ne (by omega))
                    have w179 : Xi U9 904 150 = Xi T1 904 150 := (show Xi U9 904 150 = Xi T1 904 150 from by rw [eU9]; exact Xi_ne (by omega))
                    have w180 : Xi U9 904 55 = Xi T1 904 55 := (show Xi U9 904 55 = Xi T1 904 55 from by rw [eU9]; exact Xi_ne (by omega))
                    have w181 : Xi U9 904 81 = Xi T1 904 81 := (show Xi U9 904 81 = Xi T1 904 81 from by rw [eU9]; exact Xi_ne (by omega))
                    refine y_callV rfl rfl rfl (t_mo_find__p hHU9 (Xj U9 991 ((0 : Int).toNat)) (Xj U9 991 ((1 : Int).toNat)) 0 (Xi T1 904 150) ⟨by omega, by omega⟩ (Xj_rg) (by first | exact Xj_rg | (unfold rgL; omega)) (by first | exact Xj_rg | (unfold rgL; omega)) (by first | assumption | omega) (by first | assumption | exact (LSP_FR hFU9 rfl rfl (by assumption : LSP S))) _) ?_
                    rintro _ _ ⟨rfl, z182, rfl, w182, f234⟩
                    show Pl _ _ _ _ _ _ [iv z182] _ _
                    have m234 : z182 = fmC S U9 := by have t := f234; rw [fdR_sm (SMR_FR hFU9 rfl rfl), show Xi U9 904 15 = Xi S 904 15 by omega, show Xi T1 904 150 = Xi U9 904 150 by omega] at t; unfold fmC; rw [if_pos (by omega)]; first | (exfalso; omega) | (rw [if_pos (show 1 < Xi U9 904 150 by omega), if_pos (show 2 < Xi U9 904 150 by omega)]; exact t) | (rw [if_pos (show 1 < Xi U9 904 150 by omega), if_neg (show ¬ 2 < Xi U9 904 150 by omega)]; exact t) | (rw [if_neg (show ¬ 1 < Xi U9 904 150 by omega), if_neg (show ¬ 2 < Xi U9 904 150 by omega)]; exact t)
                    clear f234
                    refine y_istore_n rfl rfl rfl ?_
                    exact Pl_weak (C238 U9 hHU9 hFU9 (v2) (z182) (by omega) (by omega) (by omega) (v78) (⟨by omega, by omega, by omega⟩) (by have t := X80; rw [show v1 = 1 by omega] at t; exact t) (N80) (by first | exact m234 | (unfold fmC; rw [if_neg (by omega)]))) (by omega) (And.intro rfl (And.intro rfl (And.intro rfl (True.intro))))
                  · refine y_aload_n rfl rfl ?_
                    refine y_gfr rfl rfl rfl rfl rfl (hHU9.r 904 149 991 rfl) ?_
                    refine y_iconst rfl ?_
                    refine y_laloadP (n := 3) rfl rfl (by unfold rg; omega) (fun w188 w189 => ?_)
                    have w190 : -9223372036854775808 ≤ (Xj U9 991 ((2 : Int).toNat)) ∧ (Xj U9 991 ((2 : Int).toNat)) < 9223372036854775808 := Xj_rg
                    refine y_goto rfl rfl ?_
                    refine y_aload_n rfl rfl ?_
                    refine y_gfi rfl rfl rfl rfl rfl ?_
                    have w191 : (Xi U9 904 150) = (Xi T1 904 150) := (show Xi U9 904 150 = Xi T1 904 150 from by rw [eU9]; exact Xi_ne (by omega))
                    rw [w191]
                    have w192 : Xi U9 904 106 = Xi T1 904 106 := (show Xi U9 904 106 = Xi T1 904 106 from by rw [eU9]; exact Xi_ne (by omega))
                    have w193 : Xi U9 904 15 = Xi T1 904 15 := (show Xi U9 904 15 = Xi T1 904 15 from by rw [eU9]; exact Xi_ne (by omega))
                    have w194 : Xi U9 904 150 = Xi T1 904 150 := (show Xi U9 904 150 = Xi T1 904 150 from by rw [eU9]; exact Xi_ne (by omega))
                    have w195 : Xi U9 904 55 = Xi T1 904 55 := (show Xi U9 904 55 = Xi T1 904 55 from by rw [eU9]; exact Xi_ne (by omega))
                    have w196 : Xi U9 904 81 = Xi T1 904 81 := (show Xi U9 904 81 = Xi T1 904 81 from by rw [eU9]; exact Xi_ne (by omega))
                    refine y_callV rfl rfl rfl (t_mo_find__p hHU9 (Xj U9 991 ((0 : Int).toNat)) (Xj U9 991 ((1 : Int).toNat)) (Xj U9 991 ((2 : Int).toNat)) (Xi T1 904 150) ⟨by omega, by omega⟩ (Xj_rg) (by first | exact Xj_rg | (unfold rgL; omega)) (by first | exact Xj_rg | (unfold rgL; omega)) (by first | assumption | omega) (by first | assumption | exact (LSP_FR hFU9 rfl rfl (by assumption : LSP S))) _) ?_
                    rintro _ _ ⟨rfl, z197, rfl, w197, f234⟩
                    show Pl _ _ _ _ _ _ [iv z197] _ _
                    have m234 : z197 = fmC S U9 := by have t := f234; rw [fdR_sm (SMR_FR hFU9 rfl rfl), show Xi U9 904 15 = Xi S 904 15 by omega, show Xi T1 904 150 = Xi U9 904 150 by omega] at t; unfold fmC; rw [if_pos (by omega)]; first | (exfalso; omega) | (rw [if_pos (show 1 < Xi U9 904 150 by omega), if_pos (show 2 < Xi U9 904 150 by omega)]; exact t) | (rw [if_pos (show 1 < Xi U9 904 150 by omega), if_neg (show ¬ 2 < Xi U9 904 150 by omega)]; exact t) | (rw [if_neg (show ¬ 1 < Xi U9 904 150 by omega), if_neg (show ¬ 2 < Xi U9 904 150 by omega)]; exact t)
                    clear f234
                    refine y_istore_n rfl rfl rfl ?_
                    exact Pl_weak (C238 U9 hHU9 hFU9 (v2) (z197) (by omega) (by omega) (by omega) (v78) (⟨by omega, by omega, by omega⟩) (by have t := X80; rw [show v1 = 1 by omega] at t; exact t) (N80) (by first | exact m234 | (unfold fmC; rw [if_neg (by omega)]))) (by omega) (And.intro rfl (And.intro rfl (And.intro rfl (True.intro))))
              · refine y_iconst rfl ?_
                refine y_goto rfl rfl ?_
                refine y_istore_n rfl rfl rfl ?_
                have w203 : Xi U9 904 106 = Xi T1 904 106 := (show Xi U9 904 106 = Xi T1 904 106 from by rw [eU9]; exact Xi_ne (by omega))
                have w204 : Xi U9 904 15 = Xi T1 904 15 := (show Xi U9 904 15 = Xi T1 904 15 from by rw [eU9]; exact Xi_ne (by omega))
                have w205 : Xi U9 904 150 = Xi T1 904 150 := (show Xi U9 904 150 = Xi T1 904 150 from by rw [eU9]; exact Xi_ne (by omega))
                have w206 : Xi U9 904 55 = Xi T1 904 55 := (show Xi U9 904 55 = Xi T1 904 55 from by rw [eU9]; exact Xi_ne (by omega))
                have w207 : Xi U9 904 81 = Xi T1 904 81 := (show Xi U9 904 81 = Xi T1 904 81 from by rw [eU9]; exact Xi_ne (by omega))
                exact Pl_weak (C238 U9 hHU9 hFU9 (v2) ((-1)) (by omega) (by omega) (by omega) (v78) (⟨by omega, by omega, by omega⟩) (by have t := X80; rw [show v1 = 1 by omega] at t; exact t) (N80) (by first | exact m234 | (unfold fmC; rw [if_neg (by omega)]))) (by omega) (And.intro rfl (And.intro rfl (And.intro rfl (True.intro))))
          · refine y_aload_n rfl rfl ?_
            refine y_gfi rfl rfl rfl rfl rfl ?_
            have w208 : (Xi U9 904 150) = (Xi T1 904 150) := (show Xi U9 904 150 = Xi T1 904 150 from by rw [eU9]; exact Xi_ne (by omega))
            rw [w208]
            refine y_iconst rfl ?_
            refine y_icmp_ne rfl rfl (by unfold rg; omega) (by unfold rg; omega) (fun w209 => ?_) (fun w210 => ?_)
            · refine y_iconst rfl ?_
              refine y_istore_n rfl rfl rfl ?_
              refine y_aload_n rfl rfl ?_
              refine y_bipush rfl rfl ?_
              refine y_pfi rfl rfl rfl rfl ?_
              obtain ⟨U10, eU10⟩ : ∃ T : sS, T = uI U9 904 153 (Int32.ofInt (-2)) := ⟨_, rfl⟩
              rw [← eU10]
              have hHU10 : RI U10 := by rw [eU10]; exact RI_w hHU9
              have hFU10 : FR md_mo_askCommand__p S U10 := by rw [eU10]; exact FR.wI hFU9 (mdf_i (r := (904, 905, 153, 154)) (List.mem_of_getElem? (i := 5) rfl) (inR_i (by omega) (by omega) (by omega) (by omega)))
              have w211 : Xi U10 904 153 = (-2) := by rw [eU10]; exact Xi_same (by unfold rg; omega)
              have e162 := eU10
              have x162 : Xi U10 904 150 = Xi U9 904 150 := by rw [e162]; exact Xi_ne (by omega)
              have j162 : Xj U10 991 0 = Xj U9 991 0 := by rw [e162]; rfl
              have Q162 : Hid (QCM S U10 (rnR S 0 11) (Xi S 908 (Xi S 904 81).toNat + 1) (Xi S 908 (Xi S 904 81).toNat + 1 + Xi S 909 (Xi S 904 81).toNat) 0) := qcm_k (TXOR_FR (FR_e e162) rfl rfl X80.o) (by omega) (by omega) (fun q => by first | exact absurd q (by omega) | exact ⟨fun w => absurd w (by omega), fun _ => ⟨by omega, by omega⟩, fun _ w => absurd (by omega) w⟩) (fun q w => by first | omega | (have u := w.2.1 (by omega); omega)) ⟨fun w => absurd w (by omega), fun _ => by rw [e162]; exact Xi_same (by unfold rg; omega), fun _ w => absurd (by omega) w⟩
              refine y_goto rfl rfl ?_
              have w212 : Xi U10 904 106 = Xi T1 904 106 := (show Xi U10 904 106 = Xi U9 904 106 from by rw [eU10]; exact Xi_ne (by omega)).trans ((show Xi U9 904 106 = Xi T1 904 106 from by rw [eU9]; exact Xi_ne (by omega)))
              have w213 : Xi U10 904 15 = Xi T1 904 15 := (show Xi U10 904 15 = Xi U9 904 15 from by rw [eU10]; exact Xi_ne (by omega)).trans ((show Xi U9 904 15 = Xi T1 904 15 from by rw [eU9]; exact Xi_ne (by omega)))
              have w214 : Xi U10 904 150 = Xi T1 904 150 := (show Xi U10 904 150 = Xi U9 904 150 from by rw [eU10]; exact Xi_ne (by omega)).trans ((show Xi U9 904 150 = Xi T1 904 150 from by rw [eU9]; exact Xi_ne (by omega)))
              have w215 : Xi U10 904 55 = Xi T1 904 55 := (show Xi U10 904 55 = Xi U9 904 55 from by rw [eU10]; exact Xi_ne (by omega)).trans ((show Xi U9 904 55 = Xi T1 904 55 from by rw [eU9]; exact Xi_ne (by omega)))
              have w216 : Xi U10 904 81 = Xi T1 904 81 := (show Xi U10 904 81 = Xi U9 904 81 from by rw [eU10]; exact Xi_ne (by omega)).trans ((show Xi U9 904 81 = Xi T1 904 81 from by rw [eU9]; exact Xi_ne (by omega)))
              exact Pl_weak (C295 U10 hHU10 hFU10 (0) (by omega) (by omega) (by first | exact Q292 | exact Q162 | exact Q114 | exact qcm_0 X80.o (by omega) m80) (by first | exact (NT3_FR (FR_e e292) rfl).trans N238 | exact (NT3_FR (FR_e e162) rfl).trans N80 | exact N80)) (by omega) (And.intro rfl (And.intro rfl (True.intro)))
            · refine y_aload_n rfl rfl ?_
              refine y_gfr rfl rfl rfl rfl rfl (hHU9.r 904 149 991 rfl) ?_
              refine y_iconst rfl ?_
              refine y_laloadP (n := 3) rfl rfl (by unfold rg; omega) (fun w217 w218 => ?_)
              have w219 : -9223372036854775808 ≤ (Xj U9 991 ((0 : Int).toNat)) ∧ (Xj U9 991 ((0 : Int).toNat)) < 9223372036854775808 := Xj_rg
              have j142 : (Xj U9 991 ((0 : Int).toNat)) = Xj U9 991 0 := rfl
              refine y_ldcwR (i := 71) rfl rfl ?_
              have w220 : Xi U9 904 106 = Xi T1 904 106 := (show Xi U9 904 106 = Xi T1 904 106 from by rw [eU9]; exact Xi_ne (by omega))
              have w221 : Xi U9 904 15 = Xi T1 904 15 := (show Xi U9 904 15 = Xi T1 904 15 from by rw [eU9]; exact Xi_ne (by omega))
              have w222 : Xi U9 904 150 = Xi T1 904 150 := (show Xi U9 904 150 = Xi T1 904 150 from by rw [eU9]; exact Xi_ne (by omega))
              have w223 : Xi U9 904 55 = Xi T1 904 55 := (show Xi U9 904 55 = Xi T1 904 55 from by rw [eU9]; exact Xi_ne (by omega))
              have w224 : Xi U9 904 81 = Xi T1 904 81 := (show Xi U9 904 81 = Xi T1 904 81 from by rw [eU9]; exact Xi_ne (by omega))
              refine y_callS rfl rfl (by decide) rfl (t_mo_packed__p hHU9 71 _ rfl _) ?_
              rintro _ _ ⟨rfl, z225, rfl, v146⟩
              show Pl _ _ _ _ _ _ [jw z225, jw (Xj U9 991 ((0 : Int).toNat))] _ _
              have c146 : z225 = 4726783092206 := by rw [v146]; decide +kernel
              refine y_lcmp rfl (by unfold rgL; omega) (by unfold rgL; omega) (fun c226 w226 w226a w226b w226c => ?_)
              refine y_if_ne rfl rfl (by unfold rg; omega) (fun w227 => ?_) (fun w228 => ?_)
              · refine y_iconst rfl ?_
                refine y_istore_n rfl rfl rfl ?_
                refine y_aload_n rfl rfl ?_
                refine y_bipush rfl rfl ?_
                refine y_pfi rfl rfl rfl rfl ?_
                obtain ⟨U11, eU11⟩ : ∃ T : sS, T = uI U9 904 153 (Int32.ofInt (-2)) := ⟨_, rfl⟩
                rw [← eU11]
                have hHU11 : RI U11 := by rw [eU11]; exact RI_w hHU9
                have hFU11 : FR md_mo_askCommand__p S U11 := by rw [eU11]; exact FR.wI hFU9 (mdf_i (r := (904, 905, 153, 154)) (List.mem_of_getElem? (i := 5) rfl) (inR_i (by omega) (by omega) (by omega) (by omega)))
                have w229 : Xi U11 904 153 = (-2) := by rw [eU11]; exact Xi_same (by unfold rg; omega)
                have e162 := eU11
                have x162 : Xi U11 904 150 = Xi U9 904 150 := by rw [e162]; exact Xi_ne (by omega)
                have j162 : Xj U11 991 0 = Xj U9 991 0 := by rw [e162]; rfl
                have Q162 : Hid (QCM S U11 (rnR S 0 11) (Xi S 908 (Xi S 904 81).toNat + 1) (Xi S 908 (Xi S 904 81).toNat + 1 + Xi S 909 (Xi S 904 81).toNat) 0) := qcm_k (TXOR_FR (FR_e e162) rfl rfl X80.o) (by omega) (by omega) (fun q => by first | exact absurd q (by omega) | exact ⟨fun w => absurd w (by omega), fun _ => ⟨by omega, by omega⟩, fun _ w => absurd (by omega) w⟩) (fun q w => by first | omega | (have u := w.2.1 (by omega); omega)) ⟨fun w => absurd w (by omega), fun _ => by rw [e162]; exact Xi_same (by unfold rg; omega), fun _ w => absurd (by omega) w⟩
                refine y_goto rfl rfl ?_
                have w230 : Xi U11 904 106 = Xi T1 904 106 := (show Xi U11 904 106 = Xi U9 904 106 from by rw [eU11]; exact Xi_ne (by omega)).trans ((show Xi U9 904 106 = Xi T1 904 106 from by rw [eU9]; exact Xi_ne (by omega)))
                have w231 : Xi U11 904 15 = Xi T1 904 15 := (show Xi U11 904 15 = Xi U9 904 15 from by rw [eU11]; exact Xi_ne (by omega)).trans ((show Xi U9 904 15 = Xi T1 904 15 from by rw [eU9]; exact Xi_ne (by omega)))
                have w232 : Xi U11 904 150 = Xi T1 904 150 := (show Xi U11 904 150 = Xi U9 904 150 from by rw [eU11]; exact Xi_ne (by omega)).trans ((show Xi U9 904 150 = Xi T1 904 150 from by rw [eU9]; exact Xi_ne (by omega)))
                have w233 : Xi U11 904 55 = Xi T1 904 55 := (show Xi U11 904 55 = Xi U9 904 55 from by rw [eU11]; exact Xi_ne (by omega)).trans ((show Xi U9 904 55 = Xi T1 904 55 from by rw [eU9]; exact Xi_ne (by omega)))
                have w234 : Xi U11 904 81 = Xi T1 904 81 := (show Xi U11 904 81 = Xi U9 904 81 from by rw [eU11]; exact Xi_ne (by omega)).trans ((show Xi U9 904 81 = Xi T1 904 81 from by rw [eU9]; exact Xi_ne (by omega)))
                exact Pl_weak (C295 U11 hHU11 hFU11 (0) (by omega) (by omega) (by first | exact Q292 | exact Q162 | exact Q114 | exact qcm_0 X80.o (by omega) m80) (by first | exact (NT3_FR (FR_e e292) rfl).trans N238 | exact (NT3_FR (FR_e e162) rfl).trans N80 | exact N80)) (by omega) (And.intro rfl (And.intro rfl (True.intro)))
              · refine y_iconst rfl ?_
                refine y_goto rfl rfl ?_
                refine y_istore_n rfl rfl rfl ?_
                refine y_aload_n rfl rfl ?_
                refine y_bipush rfl rfl ?_
                refine y_pfi rfl rfl rfl rfl ?_
                obtain ⟨U12, eU12⟩ : ∃ T : sS, T = uI U9 904 153 (Int32.ofInt (-2)) := ⟨_, rfl⟩
                rw [← eU12]
                have hHU12 : RI U12 := by rw [eU12]; exact RI_w hHU9
                have hFU12 : FR md_mo_askCommand__p S U12 := by rw [eU12]; exact FR.wI hFU9 (mdf_i (r := (904, 905, 153, 154)) (List.mem_of_getElem? (i := 5) rfl) (inR_i (by omega) (by omega) (by omega) (by omega)))
                have w235 : Xi U12 904 153 = (-2) := by rw [eU12]; exact Xi_same (by unfold rg; omega)
                have e162 := eU12
                have x162 : Xi U12 904 150 = Xi U9 904 150 := by rw [e162]; exact Xi_ne (by omega)
                have j162 : Xj U12 991 0 = Xj U9 991 0 := by rw [e162]; rfl
                have Q162 : Hid (QCM S U12 (rnR S 0 11) (Xi S 908 (Xi S 904 81).toNat + 1) (Xi S 908 (Xi S 904 81).toNat + 1 + Xi S 909 (Xi S 904 81).toNat) 1) := qcm_k (TXOR_FR (FR_e e162) rfl rfl X80.o) (by omega) (by omega) (fun q => by first | exact absurd q (by omega) | exact ⟨fun w => absurd w (by omega), fun _ => ⟨by omega, by omega⟩, fun _ w => absurd (by omega) w⟩) (fun q w => by first | omega | (have u := w.2.1 (by omega); omega)) ⟨fun w => absurd w (by omega), fun _ => by rw [e162]; exact Xi_same (by unfold rg; omega), fun _ w => absurd (by omega) w⟩
                refine y_goto rfl rfl ?_
                have w236 : Xi U12 904 106 = Xi T1 904 106 := (show Xi U12 904 106 = Xi U9 904 106 from by rw [eU12]; exact Xi_ne (by omega)).trans ((show Xi U9 904 106 = Xi T1 904 106 from by rw [eU9]; exact Xi_ne (by omega)))
                have w237 : Xi U12 904 15 = Xi T1 904 15 := (show Xi U12 904 15 = Xi U9 904 15 from by rw [eU12]; exact Xi_ne (by omega)).trans ((show Xi U9 904 15 = Xi T1 904 15 from by rw [eU9]; exact Xi_ne (by omega)))
                have w238 : Xi U12 904 150 = Xi T1 904 150 := (show Xi U12 904 150 = Xi U9 904 150 from by rw [eU12]; exact Xi_ne (by omega)).trans ((show Xi U9 904 150 = Xi T1 904 150 from by rw [eU9]; exact Xi_ne (by omega)))
                have w239 : Xi U12 904 55 = Xi T1 904 55 := (show Xi U12 904 55 = Xi U9 904 55 from by rw [eU12]; exact Xi_ne (by omega)).trans ((show Xi U9 904 55 = Xi T1 904 55 from by rw [eU9]; exact Xi_ne (by omega)))
                have w240 : Xi U12 904 81 = Xi T1 904 81 := (show Xi U12 904 81 = Xi U9 904 81 from by rw [eU12]; exact Xi_ne (by omega)).trans ((show Xi U9 904 81 = Xi T1 904 81 from by rw [eU9]; exact Xi_ne (by omega)))
                exact Pl_weak (C295 U12 hHU12 hFU12 (1) (by omega) (by omega) (by first | exact Q292 | exact Q162 | exact Q114 | exact qcm_0 X80.o (by omega) m80) (by first | exact (NT3_FR (FR_e e292) rfl).trans N238 | exact (NT3_FR (FR_e e162) rfl).trans N80 | exact N80)) (by omega) (And.intro rfl (And.intro rfl (True.intro)))
        · refine y_aload_n rfl rfl ?_
          refine y_gfi rfl rfl rfl rfl rfl ?_
          have w241 : (Xi U9 904 150) = (Xi T1 904 150) := (show Xi U9 904 150 = Xi T1 904 150 from by rw [eU9]; exact Xi_ne (by omega))
          rw [w241]
          refine y_if_ne rfl rfl (by unfold rg; omega) (fun w242 => ?_) (fun w243 => ?_)
          · refine y_iconst rfl ?_
            refine y_istore_n rfl rfl rfl ?_
            have Q114 : Hid (QCM S U9 (rnR S 0 11) (Xi S 908 (Xi S 904 81).toNat + 1) (Xi S 908 (Xi S 904 81).toNat + 1 + Xi S 909 (Xi S 904 81).toNat) 0) := qcm_k X80.o (by omega) (by omega) (fun q => by first | exact absurd q (by omega) | exact ⟨fun _ => by omega, fun w => absurd w (by omega), fun w => absurd (by omega) w⟩) (fun q w => by first | omega | (have u := w.1 (by omega); omega)) ⟨fun _ => m80, fun w => absurd w (by omega), fun w => absurd (by omega) w⟩
            refine y_goto rfl rfl ?_
            have w244 : Xi U9 904 106 = Xi T1 904 106 := (show Xi U9 904 106 = Xi T1 904 106 from by rw [eU9]; exact Xi_ne (by omega))
            have w245 : Xi U9 904 15 = Xi T1 904 15 := (show Xi U9 904 15 = Xi T1 904 15 from by rw [eU9]; exact Xi_ne (by omega))
            have w246 : Xi U9 904 150 = Xi T1 904 150 := (show Xi U9 904 150 = Xi T1 904 150 from by rw [eU9]; exact Xi_ne (by omega))
            have w247 : Xi U9 904 55 = Xi T1 904 55 := (show Xi U9 904 55 = Xi T1 904 55 from by rw [eU9]; exact Xi_ne (by omega))
            have w248 : Xi U9 904 81 = Xi T1 904 81 := (show Xi U9 904 81 = Xi T1 904 81 from by rw [eU9]; exact Xi_ne (by omega))
            exact Pl_weak (C295 U9 hHU9 hFU9 (0) (by omega) (by omega) (by first | exact Q292 | exact Q162 | exact Q114 | exact qcm_0 X80.o (by omega) m80) (by first | exact (NT3_FR (FR_e e292) rfl).trans N238 | exact (NT3_FR (FR_e e162) rfl).trans N80 | exact N80)) (by omega) (And.intro rfl (And.intro rfl (True.intro)))
          · refine y_iconst rfl ?_
            refine y_goto rfl rfl ?_
            refine y_istore_n rfl rfl rfl ?_
            have Q114 : Hid (QCM S U9 (rnR S 0 11) (Xi S 908 (Xi S 904 81).toNat + 1) (Xi S 908 (Xi S 904 81).toNat + 1 + Xi S 909 (Xi S 904 81).toNat) 1) := qcm_k X80.o (by omega) (by omega) (fun q => by first | exact absurd q (by omega) | exact ⟨fun _ => by omega, fun w => absurd w (by omega), fun w => absurd (by omega) w⟩) (fun q w => by first | omega | (have u := w.1 (by omega); omega)) ⟨fun _ => m80, fun w => absurd w (by omega), fun w => absurd (by omega) w⟩
            refine y_goto rfl rfl ?_
            have w249 : Xi U9 904 106 = Xi T1 904 106 := (show Xi U9 904 106 = Xi T1 904 106 from by rw [eU9]; exact Xi_ne (by omega))
            have w250 : Xi U9 904 15 = Xi T1 904 15 := (show Xi U9 904 15 = Xi T1 904 15 from by rw [eU9]; exact Xi_ne (by omega))
            have w251 : Xi U9 904 150 = Xi T1 904 150 := (show Xi U9 904 150 = Xi T1 904 150 from by rw [eU9]; exact Xi_ne (by omega))
            have w252 : Xi U9 904 55 = Xi T1 904 55 := (show Xi U9 904 55 = Xi T1 904 55 from by rw [eU9]; exact Xi_ne (by omega))
            have w253 : Xi U9 904 81 = Xi T1 904 81 := (show Xi U9 904 81 = Xi T1 904 81 from by rw [eU9]; exact Xi_ne (by omega))
            exact Pl_weak (C295 U9 hHU9 hFU9 (1) (by omega) (by omega) (by first | exact Q292 | exact Q162 | exact Q114 | exact qcm_0 X80.o (by omega) m80) (by first | exact (NT3_FR (FR_e e292) rfl).trans N238 | exact (NT3_FR (FR_e e162) rfl).trans N80 | exact N80)) (by omega) (And.intro rfl (And.intro rfl (True.intro)))
  refine y_aload_n rfl rfl ?_
  refine y_aload_n rfl rfl ?_
  refine y_gfi rfl rfl rfl rfl rfl ?_
  refine y_bipush rfl rfl ?_
  refine y_icmp_ge rfl rfl (by unfold rg; omega) (by unfold rg; omega) (fun w254 => ?_) (fun w255 => ?_)
  · refine y_iconst rfl ?_
    refine y_bipush rfl rfl ?_
    refine y_aload_n rfl rfl ?_
    refine y_gfi rfl rfl rfl rfl rfl ?_
    refine y_callV rfl rfl rfl (t_mo_need__p hH 0 9 (Xi S 904 81) ⟨by omega, by omega⟩ ⟨by omega, by omega⟩ ⟨by omega, by omega⟩ _) ?_
    rintro _ T13 ⟨hHT13, w257, rfl, nt21⟩
    have hFT13 : FR md_mo_askCommand__p S T13 := FR.tr hF w257 rfl
    show Pl _ _ _ _ _ _ [] _ _
    have N21 : NT3 T13 = n1C S := by have t := nt21; unfold n1C; first | (rw [if_pos (show Xi S 904 55 < 20 by omega)]; rw [if_neg (show ¬ (1 : Int) = 0 by decide)] at t; exact t) | (rw [if_neg (show ¬ Xi S 904 55 < 20 by omega)]; rw [if_pos (show (0 : Int) = 0 from rfl)] at t; exact t)
    clear nt21
    have A21 := (by assumption : FR md_mo_need__p S T13)
    have t21 : Xi T13 904 81 = Xi S 904 81 := A21.x 904 81 rfl
    refine y_aload_n rfl rfl ?_
    refine y_aload_n rfl rfl ?_
    refine y_gfr rfl rfl rfl rfl rfl (hHT13.r 904 5 908 rfl) ?_
    refine y_aload_n rfl rfl ?_
    refine y_gfi rfl rfl rfl rfl rfl ?_
    have w258 : (Xi T13 904 81) = (Xi S 904 81) := (show Xi T13 904 81 = Xi S 904 81 from w257.x _ _ rfl)
    rw [w258]
    refine y_ialoadP (n := 5002) rfl rfl (by unfold rg; omega) (fun w259 w260 => ?_)
    have w261 : -2147483648 ≤ (Xi T13 908 (((Xi S 904 81)).toNat)) ∧ (Xi T13 908 (((Xi S 904 81)).toNat)) ≤ 2147483647 := Xi_rgI
    have p33 : (Xi T13 908 (((Xi S 904 81)).toNat)) = (Xi S 908 (Xi S 904 81).toNat) := by rw [(hFT13.cx 908 rfl _).1]
    refine y_iconst rfl ?_
    refine y_iadd rfl ?_
    refine y_aload_n rfl rfl ?_
    refine y_gfr rfl rfl rfl rfl rfl (hHT13.r 904 6 909 rfl) ?_
    refine y_aload_n rfl rfl ?_
    refine y_gfi rfl rfl rfl rfl rfl ?_
    have w262 : (Xi T13 904 81) = (Xi S 904 81) := (show Xi T13 904 81 = Xi S 904 81 from w257.x _ _ rfl)
    rw [w262]
    refine y_ialoadP (n := 5002) rfl rfl (by unfold rg; omega) (fun w263 w264 => ?_)
    have w265 : -2147483648 ≤ (Xi T13 909 (((Xi S 904 81)).toNat)) ∧ (Xi T13 909 (((Xi S 904 81)).toNat)) ≤ 2147483647 := Xi_rgI
    have p44 : (Xi T13 909 (((Xi S 904 81)).toNat)) = Xi S 909 (Xi S 904 81).toNat := by rw [(hFT13.cx 909 rfl _).1]
    have w266 : Xi T13 904 15 = Xi S 904 15 := (show Xi T13 904 15 = Xi S 904 15 from w257.x _ _ rfl)
    have w267 : Xi T13 904 150 = Xi S 904 150 := (show Xi T13 904 150 = Xi S 904 150 from w257.x _ _ rfl)
    have w268 : Xi T13 904 153 = Xi S 904 153 := (show Xi T13 904 153 = Xi S 904 153 from w257.x _ _ rfl)
    have w269 : Xi T13 904 55 = Xi S 904 55 := (show Xi T13 904 55 = Xi S 904 55 from w257.x _ _ rfl)
    have w270 : Xi T13 904 81 = Xi S 904 81 := (show Xi T13 904 81 = Xi S 904 81 from w257.x _ _ rfl)
    refine y_callV rfl rfl rfl (t_mo_isCommand__p hHT13 ((Xi T13 908 (((Xi S 904 81)).toNat)) + 1) (Xi T13 909 (((Xi S 904 81)).toNat)) ⟨by omega, by omega⟩ ⟨by omega, by omega⟩ (BYT_R hFT13 rfl hb6) (by first | assumption | omega) _) ?_
    rintro _ T14 ⟨hHT14, w272, z271, rfl, w271, o45⟩
    have hFT14 : FR md_mo_askCommand__p S T14 := FR.tr hFT13 w272 rfl
    show Pl _ _ _ _ _ _ [iv z271] _ _
    have X45 : Hid (TXOR S T14 (Xi S 908 (Xi S 904 81).toNat + 1) (Xi S 908 (Xi S 904 81).toNat + 1 + Xi S 909 (Xi S 904 81).toNat) z271) := by have t := txor_S hFT13 rfl rfl o45; rw [p33, p44] at t; exact t
    clear o45
    have A45 := (by assumption : FR md_mo_isCommand__p T13 T14)
    have N45 : NT3 T14 = n1C S := (NT3_FR A45 rfl).trans N21
    refine y_istore_n rfl rfl rfl ?_
    refine y_aload_n rfl rfl ?_
    refine y_iconst rfl ?_
    refine y_bipush rfl rfl ?_
    have w273 : Xi T14 904 106 = Xi T13 904 106 := (show Xi T14 904 106 = Xi T13 904 106 from w272.x _ _ rfl)
    have w274 : Xi T14 904 15 = Xi S 904 15 := (show Xi T14 904 15 = Xi T13 904 15 from w272.x _ _ rfl).trans ((show Xi T13 904 15 = Xi S 904 15 from w257.x _ _ rfl))
    have w275 : Xi T14 904 153 = Xi S 904 153 := (show Xi T14 904 153 = Xi T13 904 153 from w272.x _ _ rfl).trans ((show Xi T13 904 153 = Xi S 904 153 from w257.x _ _ rfl))
    have w276 : Xi T14 904 55 = Xi S 904 55 := (show Xi T14 904 55 = Xi T13 904 55 from w272.x _ _ rfl).trans ((show Xi T13 904 55 = Xi S 904 55 from w257.x _ _ rfl))
    have w277 : Xi T14 904 81 = Xi S 904 81 := (show Xi T14 904 81 = Xi T13 904 81 from w272.x _ _ rfl).trans ((show Xi T13 904 81 = Xi S 904 81 from w257.x _ _ rfl))
    refine y_callV rfl rfl rfl (t_mo_meansRun__p hHT14 0 11 ⟨by omega, by omega⟩ ⟨by omega, by omega⟩ (by first | assumption | exact (LSP_FR hFT14 rfl rfl (by assumption : LSP S))) (by first | assumption | omega) (by first | assumption | exact (RBD_FR hFT14 rfl (by assumption : RBD S))) _) ?_
    rintro _ _ ⟨rfl, z278, rfl, w278, f53⟩
    show Pl _ _ _ _ _ _ [iv z278] _ _
    have a53 : z278 = (rnR S 0 11) := f53.trans (rnR_sm (SMR_FR hFT14 rfl rfl))
    clear f53
    refine y_istore_n rfl rfl rfl ?_
    refine y_aload_n rfl rfl ?_
    refine y_iload_n rfl rfl ?_
    refine y_iconst rfl ?_
    refine y_icmp_eq rfl rfl (by unfold rg; omega) (by unfold rg; omega) (fun w279 => ?_) (fun w280 => ?_)
    · refine y_iconst rfl ?_
      refine y_iconst rfl ?_
      refine y_aload_n rfl rfl ?_
      refine y_gfr rfl rfl rfl rfl rfl (hHT14.r 904 67 950 rfl) ?_
      refine y_iconst rfl ?_
      refine y_ialoadP (n := 2600) rfl rfl (by unfold rg; omega) (fun w281 w282 => ?_)
      have w283 : -2147483648 ≤ (Xi T14 950 ((0 : Int).toNat)) ∧ (Xi T14 950 ((0 : Int).toNat)) ≤ 2147483647 := Xi_rgI
      have w284 : (Xi T14 950 ((0 : Int).toNat)) = Xi T14 950 0 := rfl
      refine y_callV rfl rfl rfl (t_mo_need__p hHT14 0 4 (Xi T14 950 ((0 : Int).toNat)) ⟨by omega, by omega⟩ ⟨by omega, by omega⟩ ⟨by omega, by omega⟩ _) ?_
      rintro _ T15 ⟨hHT15, w291, rfl, nt75⟩
      have hFT15 : FR md_mo_askCommand__p S T15 := FR.tr hFT14 w291 rfl
      show Pl _ _ _ _ _ _ [] _ _
      have N75 : NT3 T15 = n2C S := by have t := nt75; rw [N45, show Xi T14 908 (Xi T14 950 (0 : Int).toNat).toNat = pR S 0 from (by rw [(hFT14.cx 950 rfl _).1, (hFT14.cx 908 rfl _).1]; rfl)] at t; unfold n2C; first | (rw [if_pos (show (rnR S 0 11) ≠ -1 by omega)]; rw [if_neg (show ¬ (1 : Int) = 0 by decide)] at t; exact t) | (rw [if_neg (show ¬ (rnR S 0 11) ≠ -1 by omega)]; rw [if_pos (show (0 : Int) = 0 from rfl)] at t; exact t)
      clear nt75
      have X75 : Hid (TXOR S T15 (Xi S 908 (Xi S 904 81).toNat + 1) (Xi S 908 (Xi S 904 81).toNat + 1 + Xi S 909 (Xi S 904 81).toNat) z271) := TXOR_FR (by assumption : FR md_mo_need__p T14 T15) rfl rfl X45.o
      have w292 : Xi T15 904 15 = Xi S 904 15 := (show Xi T15 904 15 = Xi T14 904 15 from w291.x _ _ rfl).trans ( (show Xi T14 904 15 = Xi T13 904 15 from w272.x _ _ rfl).trans ((show Xi T13 904 15 = Xi S 904 15 from w257.x _ _ rfl)))
      have w293 : Xi T15 904 150 = Xi T14 904 150 := (show Xi T15 904 150 = Xi T14 904 150 from w291.x _ _ rfl)
      have w294 : Xi T15 904 153 = Xi S 904 153 := (show Xi T15 904 153 = Xi T14 904 153 from w291.x _ _ rfl).trans ( (show Xi T14 904 153 = Xi T13 904 153 from w272.x _ _ rfl).trans ((show Xi T13 904 153 = Xi S 904 153 from w257.x _ _ rfl)))
      have w295 : Xi T15 904 55 = Xi S 904 55 := (show Xi T15 904 55 = Xi T14 904 55 from w291.x _ _ rfl).trans ( (show Xi T14 904 55 = Xi T13 904 55 from w272.x _ _ rfl).trans ((show Xi T13 904 55 = Xi S 904 55 from w257.x _ _ rfl)))
      have w296 : Xi T15 904 81 = Xi S 904 81 := (show Xi T15 904 81 = Xi T14 904 81 from w291.x _ _ rfl).trans ( (show Xi T14 904 81 = Xi T13 904 81 from w272.x _ _ rfl).trans ((show Xi T13 904 81 = Xi S 904 81 from w257.x _ _ rfl)))
      exact Pl_weak (C78 T15 hHT15 hFT15 (z271) (z278) (by omega) (by omega) (by omega) (a53) (X75) (N75)) (by omega) (And.intro rfl (And.intro rfl (And.intro rfl (True.intro))))
    · refine y_iconst rfl ?_
      refine y_goto rfl rfl ?_
      refine y_iconst rfl ?_
      refine y_aload_n rfl rfl ?_
      refine y_gfr rfl rfl rfl rfl rfl (hHT14.r 904 67 950 rfl) ?_
      refine y_iconst rfl ?_
      refine y_ialoadP (n := 2600) rfl rfl (by unfold rg; omega) (fun w297 w298 => ?_)
      have w299 : -2147483648 ≤ (Xi T14 950 ((0 : Int).toNat)) ∧ (Xi T14 950 ((0 : Int).toNat)) ≤ 2147483647 := Xi_rgI
      have w300 : (Xi T14 950 ((0 : Int).toNat)) = Xi T14 950 0 := rfl
      refine y_callV rfl rfl rfl (t_mo_need__p hHT14 1 4 (Xi T14 950 ((0 : Int).toNat)) ⟨by omega, by omega⟩ ⟨by omega, by omega⟩ ⟨by omega, by omega⟩ _) ?_
      rintro _ T16 ⟨hHT16, w307, rfl, nt75⟩
      have hFT16 : FR md_mo_askCommand__p S T16 := FR.tr hFT14 w307 rfl
      show Pl _ _ _ _ _ _ [] _ _
      have N75 : NT3 T16 = n2C S := by have t := nt75; rw [N45, show Xi T14 908 (Xi T14 950 (0 : Int).toNat).toNat = pR S 0 from (by rw [(hFT14.cx 950 rfl _).1, (hFT14.cx 908 rfl _).1]; rfl)] at t; unfold n2C; first | (rw [if_pos (show (rnR S 0 11) ≠ -1 by omega)]; rw [if_neg (show ¬ (1 : Int) = 0 by decide)] at t; exact t) | (rw [if_neg (show ¬ (rnR S 0 11) ≠ -1 by omega)]; rw [if_pos (show (0 : Int) = 0 from rfl)] at t; exact t)
      clear nt75
      have X75 : Hid (TXOR S T16 (Xi S 908 (Xi S 904 81).toNat + 1) (Xi S 908 (Xi S 904 81).toNat + 1 + Xi S 909 (Xi S 904 81).toNat) z271) := TXOR_FR (by assumption : FR md_mo_need__p T14 T16) rfl rfl X45.o
      have w308 : Xi T16 904 15 = Xi S 904 15 := (show Xi T16 904 15 = Xi T14 904 15 from w307.x _ _ rfl).trans ( (show Xi T14 904 15 = Xi T13 904 15 from w272.x _ _ rfl).trans ((show Xi T13 904 15 = Xi S 904 15 from w257.x _ _ rfl)))
      have w309 : Xi T16 904 150 = Xi T14 904 150 := (show Xi T16 904 150 = Xi T14 904 150 from w307.x _ _ rfl)
      have w310 : Xi T16 904 153 = Xi S 904 153 := (show Xi T16 904 153 = Xi T14 904 153 from w307.x _ _ rfl).trans ( (show Xi T14 904 153 = Xi T13 904 153 from w272.x _ _ rfl).trans ((show Xi T13 904 153 = Xi S 904 153 from w257.x _ _ rfl)))
      have w311 : Xi T16 904 55 = Xi S 904 55 := (show Xi T16 904 55 = Xi T14 904 55 from w307.x _ _ rfl).trans ( (show Xi T14 904 55 = Xi T13 904 55 from w272.x _ _ rfl).trans ((show Xi T13 904 55 = Xi S 904 55 from w257.x _ _ rfl)))
      have w312 : Xi T16 904 81 = Xi S 904 81 := (show Xi T16 904 81 = Xi T14 904 81 from w307.x _ _ rfl).trans ( (show Xi T14 904 81 = Xi T13 904 81 from w272.x _ _ rfl).trans ((show Xi T13 904 81 = Xi S 904 81 from w257.x _ _ rfl)))
      exact Pl_weak (C78 T16 hHT16 hFT16 (z271) (z278) (by omega) (by omega) (by omega) (a53) (X75) (N75)) (by omega) (And.intro rfl (And.intro rfl (And.intro rfl (True.intro))))
  · refine y_iconst rfl ?_
    refine y_goto rfl rfl ?_
    refine y_bipush rfl rfl ?_
    refine y_aload_n rfl rfl ?_
    refine y_gfi rfl rfl rfl rfl rfl ?_
    refine y_callV rfl rfl rfl (t_mo_need__p hH 1 9 (Xi S 904 81) ⟨by omega, by omega⟩ ⟨by omega, by omega⟩ ⟨by omega, by omega⟩ _) ?_
    rintro _ T17 ⟨hHT17, w314, rfl, nt21⟩
    have hFT17 : FR md_mo_askCommand__p S T17 := FR.tr hF w314 rfl
    show Pl _ _ _ _ _ _ [] _ _
    have N21 : NT3 T17 = n1C S := by have t := nt21; unfold n1C; first | (rw [if_pos (show Xi S 904 55 < 20 by omega)]; rw [if_neg (show ¬ (1 : Int) = 0 by decide)] at t; exact t) | (rw [if_neg (show ¬ Xi S 904 55 < 20 by omega)]; rw [if_pos (show (0 : Int) = 0 from rfl)] at t; exact t)
    clear nt21
    have A21 := (by assumption : FR md_mo_need__p S T17)
    have t21 : Xi T17 904 81 = Xi S 904 81 := A21.x 904 81 rfl
    refine y_aload_n rfl rfl ?_
    refine y_aload_n rfl rfl ?_
    refine y_gfr rfl rfl rfl rfl rfl (hHT17.r 904 5 908 rfl) ?_
    refine y_aload_n rfl rfl ?_
    refine y_gfi rfl rfl rfl rfl rfl ?_
    have w315 : (Xi T17 904 81) = (Xi S 904 81) := (show Xi T17 904 81 = Xi S 904 81 from w314.x _ _ rfl)
    rw [w315]
    refine y_ialoadP (n := 5002) rfl rfl (by unfold rg; omega) (fun w316 w317 => ?_)
    have w318 : -2147483648 ≤ (Xi T17 908 (((Xi S 904 81)).toNat)) ∧ (Xi T17 908 (((Xi S 904 81)).toNat)) ≤ 2147483647 := Xi_rgI
    have p33 : (Xi T17 908 (((Xi S 904 81)).toNat)) = (Xi S 908 (Xi S 904 81).toNat) := by rw [(hFT17.cx 908 rfl _).1]
    refine y_iconst rfl ?_
    refine y_iadd rfl ?_
    refine y_aload_n rfl rfl ?_
    refine y_gfr rfl rfl rfl rfl rfl (hHT17.r 904 6 909 rfl) ?_
    refine y_aload_n rfl rfl ?_
    refine y_gfi rfl rfl rfl rfl rfl ?_
    have w319 : (Xi T17 904 81) = (Xi S 904 81) := (show Xi T17 904 81 = Xi S 904 81 from w314.x _ _ rfl)
    rw [w319]
    refine y_ialoadP (n := 5002) rfl rfl (by unfold rg; omega) (fun w320 w321 => ?_)
    have w322 : -2147483648 ≤ (Xi T17 909 (((Xi S 904 81)).toNat)) ∧ (Xi T17 909 (((Xi S 904 81)).toNat)) ≤ 2147483647 := Xi_rgI
    have p44 : (Xi T17 909 (((Xi S 904 81)).toNat)) = Xi S 909 (Xi S 904 81).toNat := by rw [(hFT17.cx 909 rfl _).1]
    have w323 : Xi T17 904 15 = Xi S 904 15 := (show Xi T17 904 15 = Xi S 904 15 from w314.x _ _ rfl)
    have w324 : Xi T17 904 150 = Xi S 904 150 := (show Xi T17 904 150 = Xi S 904 150 from w314.x _ _ rfl)
    have w325 : Xi T17 904 153 = Xi S 904 153 := (show Xi T17 904 153 = Xi S 904 153 from w314.x _ _ rfl)
    have w326 : Xi T17 904 55 = Xi S 904 55 := (show Xi T17 904 55 = Xi S 904 55 from w314.x _ _ rfl)
    have w327 : Xi T17 904 81 = Xi S 904 81 := (show Xi T17 904 81 = Xi S 904 81 from w314.x _ _ rfl)
    refine y_callV rfl rfl rfl (t_mo_isCommand__p hHT17 ((Xi T17 908 (((Xi S 904 81)).toNat)) + 1) (Xi T17 909 (((Xi S 904 81)).toNat)) ⟨by omega, by omega⟩ ⟨by omega, by omega⟩ (BYT_R hFT17 rfl hb6) (by first | assumption | omega) _) ?_
    rintro _ T18 ⟨hHT18, w329, z328, rfl, w328, o45⟩
    have hFT18 : FR md_mo_askCommand__p S T18 := FR.tr hFT17 w329 rfl
    show Pl _ _ _ _ _ _ [iv z328] _ _
    have X45 : Hid (TXOR S T18 (Xi S 908 (Xi S 904 81).toNat + 1) (Xi S 908 (Xi S 904 81).toNat + 1 + Xi S 909 (Xi S 904 81).toNat) z328) := by have t := txor_S hFT17 rfl rfl o45; rw [p33, p44] at t; exact t
    clear o45
    have A45 := (by assumption : FR md_mo_isCommand__p T17 T18)
    have N45 : NT3 T18 = n1C S := (NT3_FR A45 rfl).trans N21
    refine y_istore_n rfl rfl rfl ?_
    refine y_aload_n rfl rfl ?_
    refine y_iconst rfl ?_
    refine y_bipush rfl rfl ?_
    have w330 : Xi T18 904 106 = Xi T17 904 106 := (show Xi T18 904 106 = Xi T17 904 106 from w329.x _ _ rfl)
    have w331 : Xi T18 904 15 = Xi S 904 15 := (show Xi T18 904 15 = Xi T17 904 15 from w329.x _ _ rfl).trans ((show Xi T17 904 15 = Xi S 904 15 from w314.x _ _ rfl))
    have w332 : Xi T18 904 153 = Xi S 904 153 := (show Xi T18 904 153 = Xi T17 904 153 from w329.x _ _ rfl).trans ((show Xi T17 904 153 = Xi S 904 153 from w314.x _ _ rfl))
    have w333 : Xi T18 904 55 = Xi S 904 55 := (show Xi T18 904 55 = Xi T17 904 55 from w329.x _ _ rfl).trans ((show Xi T17 904 55 = Xi S 904 55 from w314.x _ _ rfl))
    have w334 : Xi T18 904 81 = Xi S 904 81 := (show Xi T18 904 81 = Xi T17 904 81 from w329.x _ _ rfl).trans ((show Xi T17 904 81 = Xi S 904 81 from w314.x _ _ rfl))
    refine y_callV rfl rfl rfl (t_mo_meansRun__p hHT18 0 11 ⟨by omega, by omega⟩ ⟨by omega, by omega⟩ (by first | assumption | exact (LSP_FR hFT18 rfl rfl (by assumption : LSP S))) (by first | assumption | omega) (by first | assumption | exact (RBD_FR hFT18 rfl (by assumption : RBD S))) _) ?_
    rintro _ _ ⟨rfl, z335, rfl, w335, f53⟩
    show Pl _ _ _ _ _ _ [iv z335] _ _
    have a53 : z335 = (rnR S 0 11) := f53.trans (rnR_sm (SMR_FR hFT18 rfl rfl))
    clear f53
    refine y_istore_n rfl rfl rfl ?_
    refine y_aload_n rfl rfl ?_
    refine y_iload_n rfl rfl ?_
    refine y_iconst rfl ?_
    refine y_icmp_eq rfl rfl (by unfold rg; omega) (by unfold rg; omega) (fun w336 => ?_) (fun w337 => ?_)
    · refine y_iconst rfl ?_
      refine y_iconst rfl ?_
      refine y_aload_n rfl rfl ?_
      refine y_gfr rfl rfl rfl rfl rfl (hHT18.r 904 67 950 rfl) ?_
      refine y_iconst rfl ?_
      refine y_ialoadP (n := 2600) rfl rfl (by unfold rg; omega) (fun w338 w339 => ?_)
      have w340 : -2147483648 ≤ (Xi T18 950 ((0 : Int).toNat)) ∧ (Xi T18 950 ((0 : Int).toNat)) ≤ 2147483647 := Xi_rgI
      have w341 : (Xi T18 950 ((0 : Int).toNat)) = Xi T18 950 0 := rfl
      refine y_callV rfl rfl rfl (t_mo_need__p hHT18 0 4 (Xi T18 950 ((0 : Int).toNat)) ⟨by omega, by omega⟩ ⟨by omega, by omega⟩ ⟨by omega, by omega⟩ _) ?_
      rintro _ T19 ⟨hHT19, w348, rfl, nt75⟩
      have hFT19 : FR md_mo_askCommand__p S T19 := FR.tr hFT18 w348 rfl
      show Pl _ _ _ _ _ _ [] _ _
      have N75 : NT3 T19 = n2C S := by have t := nt75; rw [N45, show Xi T18 908 (Xi T18 950 (0 : Int).toNat).toNat = pR S 0 from (by rw [(hFT18.cx 950 rfl _).1, (hFT18.cx 908 rfl _).1]; rfl)] at t; unfold n2C; first | (rw [if_pos (show (rnR S 0 11) ≠ -1 by omega)]; rw [if_neg (show ¬ (1 : Int) = 0 by decide)] at t; exact t) | (rw [if_neg (show ¬ (rnR S 0 11) ≠ -1 by omega)]; rw [if_pos (show (0 : Int) = 0 from rfl)] at t; exact t)
      clear nt75
      have X75 : Hid (TXOR S T19 (Xi S 908 (Xi S 904 81).toNat + 1) (Xi S 908 (Xi S 904 81).toNat + 1 + Xi S 909 (Xi S 904 81).toNat) z328) := TXOR_FR (by assumption : FR md_mo_need__p T18 T19) rfl rfl X45.o
      have w349 : Xi T19 904 15 = Xi S 904 15 := (show Xi T19 904 15 = Xi T18 904 15 from w348.x _ _ rfl).trans ( (show Xi T18 904 15 = Xi T17 904 15 from w329.x _ _ rfl).trans ((show Xi T17 904 15 = Xi S 904 15 from w314.x _ _ rfl)))
      have w350 : Xi T19 904 150 = Xi T18 904 150 := (show Xi T19 904 150 = Xi T18 904 150 from w348.x _ _ rfl)
      have w351 : Xi T19 904 153 = Xi S 904 153 := (show Xi T19 904 153 = Xi T18 904 153 from w348.x _ _ rfl).trans ( (show Xi T18 904 153 = Xi T17 904 153 from w329.x _ _ rfl).trans ((show Xi T17 904 153 = Xi S 904 153 from w314.x _ _ rfl)))
      have w352 : Xi T19 904 55 = Xi S 904 55 := (show Xi T19 904 55 = Xi T18 904 55 from w348.x _ _ rfl).trans ( (show Xi T18 904 55 = Xi T17 904 55 from w329.x _ _ rfl).trans ((show Xi T17 904 55 = Xi S 904 55 from w314.x _ _ rfl)))
      have w353 : Xi T19 904 81 = Xi S 904 81 := (show Xi T19 904 81 = Xi T18 904 81 from w348.x _ _ rfl).trans ( (show Xi T18 904 81 = Xi T17 904 81 from w329.x _ _ rfl).trans ((show Xi T17 904 81 = Xi S 904 81 from w314.x _ _ rfl)))
      exact Pl_weak (C78 T19 hHT19 hFT19 (z328) (z335) (by omega) (by omega) (by omega) (a53) (X75) (N75)) (by omega) (And.intro rfl (And.intro rfl (And.intro rfl (True.intro))))
    · refine y_iconst rfl ?_
      refine y_goto rfl rfl ?_
      refine y_iconst rfl ?_
      refine y_aload_n rfl rfl ?_
      refine y_gfr rfl rfl rfl rfl rfl (hHT18.r 904 67 950 rfl) ?_
      refine y_iconst rfl ?_
      refine y_ialoadP (n := 2600) rfl rfl (by unfold rg; omega) (fun w354 w355 => ?_)
      have w356 : -2147483648 ≤ (Xi T18 950 ((0 : Int).toNat)) ∧ (Xi T18 950 ((0 : Int).toNat)) ≤ 2147483647 := Xi_rgI
      have w357 : (Xi T18 950 ((0 : Int).toNat)) = Xi T18 950 0 := rfl
      refine y_callV rfl rfl rfl (t_mo_need__p hHT18 1 4 (Xi T18 950 ((0 : Int).toNat)) ⟨by omega, by omega⟩ ⟨by omega, by omega⟩ ⟨by omega, by omega⟩ _) ?_
      rintro _ T20 ⟨hHT20, w364, rfl, nt75⟩
      have hFT20 : FR md_mo_askCommand__p S T20 := FR.tr hFT18 w364 rfl
      show Pl _ _ _ _ _ _ [] _ _
      have N75 : NT3 T20 = n2C S := by have t := nt75; rw [N45, show Xi T18 908 (Xi T18 950 (0 : Int).toNat).toNat = pR S 0 from (by rw [(hFT18.cx 950 rfl _).1, (hFT18.cx 908 rfl _).1]; rfl)] at t; unfold n2C; first | (rw [if_pos (show (rnR S 0 11) ≠ -1 by omega)]; rw [if_neg (show ¬ (1 : Int) = 0 by decide)] at t; exact t) | (rw [if_neg (show ¬ (rnR S 0 11) ≠ -1 by omega)]; rw [if_pos (show (0 : Int) = 0 from rfl)] at t; exact t)
      clear nt75
      have X75 : Hid (TXOR S T20 (Xi S 908 (Xi S 904 81).toNat + 1) (Xi S 908 (Xi S 904 81).toNat + 1 + Xi S 909 (Xi S 904 81).toNat) z328) := TXOR_FR (by assumption : FR md_mo_need__p T18 T20) rfl rfl X45.o
      have w365 : Xi T20 904 15 = Xi S 904 15 := (show Xi T20 904 15 = Xi T18 904 15 from w364.x _ _ rfl).trans ( (show Xi T18 904 15 = Xi T17 904 15 from w329.x _ _ rfl).trans ((show Xi T17 904 15 = Xi S 904 15 from w314.x _ _ rfl)))
      have w366 : Xi T20 904 150 = Xi T18 904 150 := (show Xi T20 904 150 = Xi T18 904 150 from w364.x _ _ rfl)
      have w367 : Xi T20 904 153 = Xi S 904 153 := (show Xi T20 904 153 = Xi T18 904 153 from w364.x _ _ rfl).trans ( (show Xi T18 904 153 = Xi T17 904 153 from w329.x _ _ rfl).trans ((show Xi T17 904 153 = Xi S 904 153 from w314.x _ _ rfl)))
      have w368 : Xi T20 904 55 = Xi S 904 55 := (show Xi T20 904 55 = Xi T18 904 55 from w364.x _ _ rfl).trans ( (show Xi T18 904 55 = Xi T17 904 55 from w329.x _ _ rfl).trans ((show Xi T17 904 55 = Xi S 904 55 from w314.x _ _ rfl)))
      have w369 : Xi T20 904 81 = Xi S 904 81 := (show Xi T20 904 81 = Xi T18 904 81 from w364.x _ _ rfl).trans ( (show Xi T18 904 81 = Xi T17 904 81 from w329.x _ _ rfl).trans ((show Xi T17 904 81 = Xi S 904 81 from w314.x _ _ rfl)))
      exact Pl_weak (C78 T20 hHT20 hFT20 (z328) (z335) (by omega) (by omega) (by omega) (a53) (X75) (N75)) (by omega) (And.intro rfl (And.intro rfl (And.intro rfl (True.intro))))
def md_mo_doCommand__p : List rec := [(904, 905, 55, 56), (946, 947, 0, 100000), (947, 948, 0, 100000), (948, 949, 0, 100000), (949, 950, 0, 100000)]
abbrev Q_mo_doCommand__p (S : sS) : pst := fun r S1 => RI S1 ∧ FR md_mo_doCommand__p S S1 ∧ (r = none ∧ (RDCM S S1))
set_option maxRecDepth 100000 in
theorem t_mo_doCommand__p {S : sS} (hH : RI S) (hLS : LSP S) (h15 : 0 ≤ Xi S 904 15) (hRB : RBD S) (h55 : 0 ≤ Xi S 904 55 ∧ Xi S 904 55 ≤ 19) (d : Nat) : Mp lay0 (d + 5) m_mo_doCommand [.ref 904] S (Q_mo_doCommand__p S) := by
  refine Mp_R rfl rfl (fun fu => ?_)
  have hF : FR md_mo_doCommand__p S S := FR.rf
  have w1 : -2147483648 ≤ Xi S 904 15 ∧ Xi S 904 15 ≤ 2147483647 := Xi_rgI
  have w2 : -2147483648 ≤ Xi S 904 151 ∧ Xi S 904 151 ≤ 2147483647 := Xi_rgI
  have w3 : -2147483648 ≤ Xi S 904 153 ∧ Xi S 904 153 ≤ 2147483647 := Xi_rgI
  have w4 : -2147483648 ≤ Xi S 904 55 ∧ Xi S 904 55 ≤ 2147483647 := Xi_rgI
  refine y_aload_n rfl rfl ?_
  refine y_gfi rfl rfl rfl rfl rfl ?_
  refine y_istore_n rfl rfl rfl ?_
  refine y_aload_n rfl rfl ?_
  refine y_gfr rfl rfl rfl rfl rfl (hH.r 904 56 946 rfl) ?_
  refine y_iload_n rfl rfl ?_
  refine y_aload_n rfl rfl ?_
  refine y_iconst rfl ?_
  refine y_bipush rfl rfl ?_
  refine y_callV rfl rfl rfl (t_mo_meansRun__p hH 0 11 ⟨by omega, by omega⟩ ⟨by omega, by omega⟩ (by first | assumption | exact (LSP_FR hF rfl rfl (by assumption : LSP S))) (by first | assumption | omega) (by first | assumption | exact (RBD_FR hF rfl (by assumption : RBD S))) _) ?_
  rintro _ _ ⟨rfl, z5, rfl, w5, f14⟩
  show Pl _ _ _ _ _ _ [iv z5, iv (Xi S 904 55), .ref 946] _ _
  refine y_iastoreP (n := 20) rfl rfl (by unfold rg; omega) (fun w6 w7 => ?_)
  obtain ⟨U1, eU1⟩ : ∃ T : sS, T = uI S 946 (((Xi S 904 55)).toNat) (Int32.ofInt z5) := ⟨_, rfl⟩
  rw [← eU1]
  have hHU1 : RI U1 := by rw [eU1]; exact RI_w hH
  have hFU1 : FR md_mo_doCommand__p S U1 := by rw [eU1]; exact FR.wI hF (mdf_i (r := (946, 947, 0, 100000)) (List.mem_of_getElem? (i := 1) rfl) (inR_i (by omega) (by omega) (by omega) (by omega)))
  have w8 : Xi U1 946 (((Xi S 904 55)).toNat) = z5 := by rw [eU1]; exact Xi_same (by unfold rg; omega)
  have e17 := eU1
  refine y_aload_n rfl rfl ?_
  refine y_gfr rfl rfl rfl rfl rfl (hHU1.r 904 57 947 rfl) ?_
  refine y_iload_n rfl rfl ?_
  refine y_aload_n rfl rfl ?_
  refine y_gfi rfl rfl rfl rfl rfl ?_
  have w9 : (Xi U1 904 151) = (Xi S 904 151) := (show Xi U1 904 151 = Xi S 904 151 from by rw [eU1]; exact Xi_ne (by omega))
  rw [w9]
  refine y_iastoreP (n := 20) rfl rfl (by unfold rg; omega) (fun w10 w11 => ?_)
  obtain ⟨U2, eU2⟩ : ∃ T : sS, T = uI U1 947 (((Xi S 904 55)).toNat) (Int32.ofInt (Xi S 904 151)) := ⟨_, rfl⟩
  rw [← eU2]
  have hHU2 : RI U2 := by rw [eU2]; exact RI_w hHU1
  have hFU2 : FR md_mo_doCommand__p S U2 := by rw [eU2]; exact FR.wI hFU1 (mdf_i (r := (947, 948, 0, 100000)) (List.mem_of_getElem? (i := 2) rfl) (inR_i (by omega) (by omega) (by omega) (by omega)))
  have w12 : Xi U2 947 (((Xi S 904 55)).toNat) = (Xi S 904 151) := by rw [eU2]; exact Xi_same (by unfold rg; omega)
  have e27 := eU2
  refine y_aload_n rfl rfl ?_
  refine y_gfr rfl rfl rfl rfl rfl (hHU2.r 904 59 949 rfl) ?_
  refine y_iload_n rfl rfl ?_
  refine y_aload_n rfl rfl ?_
  refine y_gfi rfl rfl rfl rfl rfl ?_
  have w13 : (Xi U2 904 153) = (Xi S 904 153) := (show Xi U2 904 153 = Xi U1 904 153 from by rw [eU2]; exact Xi_ne (by omega)).trans ((show Xi U1 904 153 = Xi S 904 153 from by rw [eU1]; exact Xi_ne (by omega)))
  rw [w13]
  refine y_iastoreP (n := 20) rfl rfl (by unfold rg; omega) (fun w14 w15 => ?_)
  obtain ⟨U3, eU3⟩ : ∃ T : sS, T = uI U2 949 (((Xi S 904 55)).toNat) (Int32.ofInt (Xi S 904 153)) := ⟨_, rfl⟩
  rw [← eU3]
  have hHU3 : RI U3 := by rw [eU3]; exact RI_w hHU2
  have hFU3 : FR md_mo_doCommand__p S U3 := by rw [eU3]; exact FR.wI hFU2 (mdf_i (r := (949, 950, 0, 100000)) (List.mem_of_getElem? (i := 4) rfl) (inR_i (by omega) (by omega) (by omega) (by omega)))
  have w16 : Xi U3 949 (((Xi S 904 55)).toNat) = (Xi S 904 153) := by rw [eU3]; exact Xi_same (by unfold rg; omega)
  have e37 := eU3
  refine y_aload_n rfl rfl ?_
  refine y_gfr rfl rfl rfl rfl rfl (hHU3.r 904 152 992 rfl) ?_
  refine y_iconst rfl ?_
  refine y_aload_n rfl rfl ?_
  refine y_gfr rfl rfl rfl rfl rfl (hHU3.r 904 58 948 rfl) ?_
  refine y_bipush rfl rfl ?_
  refine y_iload_n rfl rfl ?_
  refine y_imul rfl ?_
  refine y_bipush rfl rfl ?_
  refine y_acp rfl rfl rfl (acpJ (A := 8) (B := 160) rfl rfl (by omega) (by omega) (by omega) (by omega) (by omega) (by omega) (by omega)) ?_
  obtain ⟨T4, eT4⟩ : ∃ T : sS, T = cpJ U3 992 948 (0 : Int).toNat ((8 * (Xi S 904 55)) : Int).toNat (8 : Int).toNat := ⟨_, rfl⟩
  rw [← eT4]
  have hHT4 : RI T4 := by rw [eT4]; exact RI_cpJ hHU3
  have w17 : FR [(948, 949, 0, 100000)] U3 T4 := by rw [eT4]; exact FR_cpJ (by omega)
  have hFT4 : FR md_mo_doCommand__p S T4 := FR.tr hFU3 w17 rfl
  have e53 := eT4
  refine y_aload_n rfl rfl ?_
  refine y_dup rfl rfl ?_
  refine y_gfi rfl rfl rfl rfl rfl ?_
  have w18 : (Xi T4 904 55) = (Xi S 904 55) := (show Xi T4 904 55 = Xi U3 904 55 from w17.x _ _ rfl).trans ( (show Xi U3 904 55 = Xi U2 904 55 from by rw [eU3]; exact Xi_ne (by omega)).trans ( (show Xi U2 904 55 = Xi U1 904 55 from by rw [eU2]; exact Xi_ne (by omega)).trans ((show Xi U1 904 55 = Xi S 904 55 from by rw [eU1]; exact Xi_ne (by omega)))))
  rw [w18]
  refine y_iconst rfl ?_
  refine y_iadd rfl ?_
  refine y_pfi rfl rfl rfl rfl ?_
  obtain ⟨U5, eU5⟩ : ∃ T : sS, T = uI T4 904 55 (Int32.ofInt ((Xi S 904 55) + 1)) := ⟨_, rfl⟩
  rw [← eU5]
  have hHU5 : RI U5 := by rw [eU5]; exact RI_w hHT4
  have hFU5 : FR md_mo_doCommand__p S U5 := by rw [eU5]; exact FR.wI hFT4 (mdf_i (r := (904, 905, 55, 56)) (List.mem_of_getElem? (i := 0) rfl) (inR_i (by omega) (by omega) (by omega) (by omega)))
  have w19 : Xi U5 904 55 = ((Xi S 904 55) + 1) := by rw [eU5]; exact Xi_same (by unfold rg; omega)
  have e63 := eU5
  refine y_return rfl rfl ?_
  have w20 : Xi U5 904 151 = Xi S 904 151 := (show Xi U5 904 151 = Xi T4 904 151 from by rw [eU5]; exact Xi_ne (by omega)).trans ( (show Xi T4 904 151 = Xi U3 904 151 from w17.x _ _ rfl).trans ( (show Xi U3 904 151 = Xi U2 904 151 from by rw [eU3]; exact Xi_ne (by omega)).trans ( (show Xi U2 904 151 = Xi U1 904 151 from by rw [eU2]; exact Xi_ne (by omega)).trans ((show Xi U1 904 151 = Xi S 904 151 from by rw [eU1]; exact Xi_ne (by omega))))))
  have w21 : Xi U5 904 153 = Xi S 904 153 := (show Xi U5 904 153 = Xi T4 904 153 from by rw [eU5]; exact Xi_ne (by omega)).trans ( (show Xi T4 904 153 = Xi U3 904 153 from w17.x _ _ rfl).trans ( (show Xi U3 904 153 = Xi U2 904 153 from by rw [eU3]; exact Xi_ne (by omega)).trans ( (show Xi U2 904 153 = Xi U1 904 153 from by rw [eU2]; exact Xi_ne (by omega)).trans ((show Xi U1 904 153 = Xi S 904 153 from by rw [eU1]; exact Xi_ne (by omega))))))
  exact ⟨hHU5, hFU5, rfl, (by unfold RDCM; rw [← f14, ← e17, ← e27, ← e37]; exact e63.trans (by rw [e53]))⟩
def md_mo_asked__1 : List rec := [(904, 905, 64, 65), (904, 905, 104, 105), (904, 905, 105, 106), (904, 905, 106, 107), (904, 905, 108, 109), (904, 905, 109, 110), (904, 905, 110, 111), (904, 905, 112, 113), (904, 905, 113, 114), (904, 905, 115, 116), (904, 905, 116, 117), (904, 905, 117, 118), (904, 905, 125, 126), (904, 905, 128, 129), (904, 905, 129, 130), (904, 905, 130, 131), (904, 905, 142, 143), (904, 905, 144, 145), (904, 905, 146, 147), (904, 905, 147, 148), (904, 905, 150, 151), (904, 905, 151, 152), (904, 905, 153, 154), (904, 905, 154, 155), (904, 905, 156, 157), (904, 905, 157, 158), (904, 905, 158, 159), (904, 905, 160, 161), (966, 967, 0, 100000), (967, 968, 0, 100000), (968, 969, 0, 100000), (969, 970, 0, 100000), (970, 971, 0, 100000), (971, 972, 0, 100000), (972, 973, 0, 100000), (973, 974, 0, 100000), (974, 975, 0, 100000), (975, 976, 0, 100000), (976, 977, 0, 100000), (977, 978, 0, 100000), (978, 979, 0, 100000), (979, 980, 0, 100000), (980, 981, 0, 100000), (981, 982, 0, 100000), (982, 983, 0, 100000), (983, 984, 0, 100000), (984, 985, 0, 100000), (985, 986, 0, 100000), (986, 987, 0, 100000), (987, 988, 0, 100000), (988, 989, 0, 100000), (989, 990, 0, 100000), (990, 991, 0, 100000), (991, 992, 0, 100000), (992, 993, 0, 100000), (993, 994, 0, 100000), (994, 995, 0, 100000)]
abbrev Q_mo_asked__1 (S : sS) (first : Int) : pst := fun r S1 => RI S1 ∧ FR md_mo_asked__1 S S1 ∧ (r = none ∧ (∃ P : sS, FR lA S P ∧ (Xi P 904 106 = 0 ∧ Xi P 904 108 = 0) ∧ RCO P S1))
set_option maxRecDepth 100000 in
theorem t_mo_asked__1 {S : sS} (hH : RI S) (first : Int) (hfirst : 0 ≤ first ∧ first ≤ 5001) (hLS : LSP S) (h15 : 0 ≤ Xi S 904 15) (hRB : RBD S) (hB : ABV S) (hb6 : BYT S 906) (hkx : Hid (∀ j : Nat, -1 ≤ Xi S 915 j ∧ Xi S 915 j ≤ 300)) (hlx : Hid (∀ j : Nat, (j : Int) < Xi S 904 15 → Xi S 914 j = 0 → Xi S 915 j ≤ 15)) (htt : 0 ≤ (Xi S 908 (Xi S 904 81).toNat) ∧ 0 ≤ Xi S 909 (Xi S 904 81).toNat ∧ (Xi S 908 (Xi S 904 81).toNat + 1 + Xi S 909 (Xi S 904 81).toNat) < 5000) (hs : Xi S 904 70 = 1) (d : Nat) : Mp lay0 (d + 13) m_mo_asked [.ref 904, iv first] S (Q_mo_asked__1 S first) := by
  refine Mp_R rfl rfl (fun fu => ?_)
  have hF : FR md_mo_asked__1 S S := FR.rf
  have w1 : -2147483648 ≤ Xi S 904 104 ∧ Xi S 904 104 ≤ 2147483647 := Xi_rgI
  have w2 : -2147483648 ≤ Xi S 904 105 ∧ Xi S 904 105 ≤ 2147483647 := Xi_rgI
  have w3 : -2147483648 ≤ Xi S 904 106 ∧ Xi S 904 106 ≤ 2147483647 := Xi_rgI
  have w4 : -2147483648 ≤ Xi S 904 108 ∧ Xi S 904 108 ≤ 2147483647 := Xi_rgI
  have w5 : -2147483648 ≤ Xi S 904 15 ∧ Xi S 904 15 ≤ 2147483647 := Xi_rgI
  have w6 : -2147483648 ≤ Xi S 904 70 ∧ Xi S 904 70 ≤ 2147483647 := Xi_rgI
  have w7 : -2147483648 ≤ Xi S 904 81 ∧ Xi S 904 81 ≤ 2147483647 := Xi_rgI
  refine y_aload_n rfl rfl ?_
  refine y_iconst rfl ?_
  refine y_pfi rfl rfl rfl rfl ?_
  obtain ⟨U1, eU1⟩ : ∃ T : sS, T = uI S 904 106 (Int32.ofInt 0) := ⟨_, rfl⟩
  rw [← eU1]
  have hHU1 : RI U1 := by rw [eU1]; exact RI_w hH
  have hFU1 : FR md_mo_asked__1 S U1 := by rw [eU1]; exact FR.wI hF (mdf_i (r := (904, 905, 106, 107)) (List.mem_of_getElem? (i := 3) rfl) (inR_i (by omega) (by omega) (by omega) (by omega)))
  have w8 : Xi U1 904 106 = 0 := by rw [eU1]; exact Xi_same (by unfold rg; omega)
  have FA2 : FR lA S U1 := by rw [eU1]; exact FR.wI FR.rf (mdf_i (r := (904, 905, 106, 107)) (List.mem_of_getElem? (i := 0) rfl) (inR_i (by omega) (by omega) (by omega) (by omega)))
  refine y_aload_n rfl rfl ?_
  refine y_iconst rfl ?_
  refine y_pfi rfl rfl rfl rfl ?_
  obtain ⟨U2, eU2⟩ : ∃ T : sS, T = uI U1 904 108 (Int32.ofInt 0) := ⟨_, rfl⟩
  rw [← eU2]
  have hHU2 : RI U2 := by rw [eU2]; exact RI_w hHU1
  have hFU2 : FR md_mo_asked__1 S U2 := by rw [eU2]; exact FR.wI hFU1 (mdf_i (r := (904, 905, 108, 109)) (List.mem_of_getElem? (i := 4) rfl) (inR_i (by omega) (by omega) (by omega) (by omega)))
  have w9 : Xi U2 904 108 = 0 := by rw [eU2]; exact Xi_same (by unfold rg; omega)
  have FA7 : FR lA S U2 := by rw [eU2]; exact FR.wI FA2 (mdf_i (r := (904, 905, 108, 109)) (List.mem_of_getElem? (i := 1) rfl) (inR_i (by omega) (by omega) (by omega) (by omega)))
  refine y_aload_n rfl rfl ?_
  refine y_iconst rfl ?_
  refine y_pfi rfl rfl rfl rfl ?_
  obtain ⟨U3, eU3⟩ : ∃ T : sS, T = uI U2 904 115 (Int32.ofInt (-1)) := ⟨_, rfl⟩
  rw [← eU3]
  have hHU3 : RI U3 := by rw [eU3]; exact RI_w hHU2
  have hFU3 : FR md_mo_asked__1 S U3 := by rw [eU3]; exact FR.wI hFU2 (mdf_i (r := (904, 905, 115, 116)) (List.mem_of_getElem? (i := 9) rfl) (inR_i (by omega) (by omega) (by omega) (by omega)))
  have w10 : Xi U3 904 115 = (-1) := by rw [eU3]; exact Xi_same (by unfold rg; omega)
  have FA12 : FR lA S U3 := by rw [eU3]; exact FR.wI FA7 (mdf_i (r := (904, 905, 115, 116)) (List.mem_of_getElem? (i := 2) rfl) (inR_i (by omega) (by omega) (by omega) (by omega)))
  refine y_aload_n rfl rfl ?_
  refine y_iconst rfl ?_
  refine y_pfi rfl rfl rfl rfl ?_
  obtain ⟨U4, eU4⟩ : ∃ T : sS, T = uI U3 904 116 (Int32.ofInt (-1)) := ⟨_, rfl⟩
  rw [← eU4]
  have hHU4 : RI U4 := by rw [eU4]; exact RI_w hHU3
  have hFU4 : FR md_mo_asked__1 S U4 := by rw [eU4]; exact FR.wI hFU3 (mdf_i (r := (904, 905, 116, 117)) (List.mem_of_getElem? (i := 10) rfl) (inR_i (by omega) (by omega) (by omega) (by omega)))
  have w11 : Xi U4 904 116 = (-1) := by rw [eU4]; exact Xi_same (by unfold rg; omega)
  have FA17 : FR lA S U4 := by rw [eU4]; exact FR.wI FA12 (mdf_i (r := (904, 905, 116, 117)) (List.mem_of_getElem? (i := 3) rfl) (inR_i (by omega) (by omega) (by omega) (by omega)))
  have t17 : Xi U4 904 81 = Xi S 904 81 := FA17.x 904 81 rfl
  refine y_aload_n rfl rfl ?_
  refine y_gfi rfl rfl rfl rfl rfl ?_
  have w12 : (Xi U4 904 70) = (Xi S 904 70) := (show Xi U4 904 70 = Xi U3 904 70 from by rw [eU4]; exact Xi_ne (by omega)).trans ( (show Xi U3 904 70 = Xi U2 904 70 from by rw [eU3]; exact Xi_ne (by omega)).trans ( (show Xi U2 904 70 = Xi U1 904 70 from by rw [eU2]; exact Xi_ne (by omega)).trans ((show Xi U1 904 70 = Xi S 904 70 from by rw [eU1]; exact Xi_ne (by omega)))))
  rw [w12]
  refine y_tsw rfl rfl rfl rfl (by unfold rg; omega) (fun w13 => ?_) (fun ii tt hii w13 => ?_)
  · exfalso; omega
  · match ii, hii with
    | 0, hii =>
      cases hii
      have w14 : (Xi S 904 70) = 0 := by simpa using w13
      exfalso; omega
    | 1, hii =>
      cases hii
      have w15 : (Xi S 904 70) = 1 := by simpa using w13
      refine y_aload_n rfl rfl ?_
      have w18 : Xi U4 904 106 = Xi U1 904 106 := (show Xi U4 904 106 = Xi U3 904 106 from by rw [eU4]; exact Xi_ne (by omega)).trans ( (show Xi U3 904 106 = Xi U2 904 106 from by rw [eU3]; exact Xi_ne (by omega)).trans ((show Xi U2 904 106 = Xi U1 904 106 from by rw [eU2]; exact Xi_ne (by omega))))
      have w19 : Xi U4 904 108 = Xi U2 904 108 := (show Xi U4 904 108 = Xi U3 904 108 from by rw [eU4]; exact Xi_ne (by omega)).trans ((show Xi U3 904 108 = Xi U2 904 108 from by rw [eU3]; exact Xi_ne (by omega)))
      have w20 : Xi U4 904 15 = Xi S 904 15 := (show Xi U4 904 15 = Xi U3 904 15 from by rw [eU4]; exact Xi_ne (by omega)).trans ( (show Xi U3 904 15 = Xi U2 904 15 from by rw [eU3]; exact Xi_ne (by omega)).trans ( (show Xi U2 904 15 = Xi U1 904 15 from by rw [eU2]; exact Xi_ne (by omega)).trans ((show Xi U1 904 15 = Xi S 904 15 from by rw [eU1]; exact Xi_ne (by omega)))))
      have w22 : Xi U4 904 81 = Xi S 904 81 := (show Xi U4 904 81 = Xi U3 904 81 from by rw [eU4]; exact Xi_ne (by omega)).trans ( (show Xi U3 904 81 = Xi U2 904 81 from by rw [eU3]; exact Xi_ne (by omega)).trans ( (show Xi U2 904 81 = Xi U1 904 81 from by rw [eU2]; exact Xi_ne (by omega)).trans ((show Xi U1 904 81 = Xi S 904 81 from by rw [eU1]; exact Xi_ne (by omega)))))
      refine y_callV rfl rfl rfl (t_mo_askCommand__p hHU4 (by first | assumption | exact (LSP_FR hFU4 rfl rfl (by assumption : LSP S))) (by first | assumption | omega) (by first | assumption | exact (RBD_FR hFU4 rfl (by assumption : RBD S))) (by first | assumption | exact (ABV_FR hFU4 rfl (by assumption : ABV S))) (fun j => by rw [FA17.x 906 j rfl]; exact hb6 j) (fun j => by rw [FA17.x 915 j rfl]; exact hkx.o j) (fun j l q => by rw [FA17.x 914 j rfl] at q; rw [FA17.x 904 15 rfl] at l; rw [FA17.x 915 j rfl]; exact hlx.o j l q) (by rw [t17, FA17.x 908 _ rfl, FA17.x 909 _ rfl]; exact htt) _) ?_
      rintro _ T5 ⟨hHT5, w24, rfl, o150⟩
      have hFT5 : FR md_mo_asked__1 S T5 := FR.tr hFU4 w24 rfl
      show Pl _ _ _ _ _ _ [] _ _
      have K150 : True := trivial
      have z150 : Xi U4 904 106 = 0 ∧ Xi U4 904 108 = 0 := ⟨by omega, by omega⟩
      refine y_goto rfl rfl ?_
      refine y_return rfl rfl ?_
      have w25 : Xi T5 904 108 = Xi U2 904 108 := (show Xi T5 904 108 = Xi U4 904 108 from w24.x _ _ rfl).trans ( (show Xi U4 904 108 = Xi U3 904 108 from by rw [eU4]; exact Xi_ne (by omega)).trans ((show Xi U3 904 108 = Xi U2 904 108 from by rw [eU3]; exact Xi_ne (by omega))))
      exact ⟨hHT5, hFT5, rfl, (by first | (have t := K150; exact ⟨_, FA17, z150, o150⟩) | (exfalso; omega))⟩
    | 2, hii =>
      cases hii
      have w29 : (Xi S 904 70) = 2 := by simpa using w13
      exfalso; omega
    | 3, hii =>
      cases hii
      have w30 : (Xi S 904 70) = 3 := by simpa using w13
      exfalso; omega
    | 4, hii =>
      cases hii
      have w31 : (Xi S 904 70) = 4 := by simpa using w13
      exfalso; omega
    | 5, hii =>
      cases hii
      have w32 : (Xi S 904 70) = 5 := by simpa using w13
      exfalso; omega
    | 6, hii =>
      cases hii
      have w33 : (Xi S 904 70) = 6 := by simpa using w13
      exfalso; omega
    | 7, hii =>
      cases hii
      have w34 : (Xi S 904 70) = 7 := by simpa using w13
      exfalso; omega
    | 8, hii =>
      cases hii
      have w35 : (Xi S 904 70) = 8 := by simpa using w13
      exfalso; omega
    | 9, hii =>
      cases hii
      have w36 : (Xi S 904 70) = 9 := by simpa using w13
      exfalso; omega
    | 10, hii =>
      cases hii
      have w37 : (Xi S 904 70) = 10 := by simpa using w13
      exfalso; omega
    | 11, hii =>
      cases hii
      have w38 : (Xi S 904 70) = 11 := by simpa using w13
      exfalso; omega
    | 12, hii =>
      cases hii
      have w39 : (Xi S 904 70) = 12 := by simpa using w13
      exfalso; omega
    | 13, hii =>
      cases hii
      have w40 : (Xi S 904 70) = 13 := by simpa using w13
      exfalso; omega
    | 14, hii =>
      cases hii
      have w41 : (Xi S 904 70) = 14 := by simpa using w13
      exfalso; omega
    | 15, hii =>
      cases hii
      have w42 : (Xi S 904 70) = 15 := by simpa using w13
      exfalso; omega
    | 16, hii =>
      cases hii
      have w43 : (Xi S 904 70) = 16 := by simpa using w13
      exfalso; omega
    | 17, hii =>
      cases hii
      have w44 : (Xi S 904 70) = 17 := by simpa using w13
      exfalso; omega
    | 18, hii =>
      cases hii
      have w45 : (Xi S 904 70) = 18 := by simpa using w13
      exfalso; omega
    | 19, hii =>
      cases hii
      have w46 : (Xi S 904 70) = 19 := by simpa using w13
      exfalso; omega
    | 20, hii =>
      cases hii
      have w47 : (Xi S 904 70) = 20 := by simpa using w13
      exfalso; omega
    | n + 21, hii => exact absurd hii (by simp)
def md_mo_does__1 : List rec := [(904, 905, 15, 16), (904, 905, 16, 17), (904, 905, 18, 19), (904, 905, 19, 20), (904, 905, 23, 24), (904, 905, 30, 31), (904, 905, 32, 33), (904, 905, 41, 42), (904, 905, 47, 48), (904, 905, 49, 50), (904, 905, 51, 52), (904, 905, 55, 56), (904, 905, 60, 61), (904, 905, 64, 65), (904, 905, 73, 74), (904, 905, 105, 106), (904, 905, 106, 107), (904, 905, 113, 114), (904, 905, 117, 118), (912, 913, 0, 100000), (913, 914, 0, 100000), (914, 915, 0, 100000), (915, 916, 0, 100000), (916, 917, 0, 100000), (917, 918, 0, 100000), (918, 919, 0, 100000), (919, 920, 0, 100000), (920, 921, 0, 100000), (921, 922, 0, 100000), (922, 923, 0, 100000), (923, 924, 0, 100000), (924, 925, 0, 100000), (925, 926, 0, 100000), (926, 927, 0, 100000), (927, 928, 0, 100000), (928, 929, 0, 100000), (929, 930, 0, 100000), (930, 931, 0, 100000), (931, 932, 0, 100000), (932, 933, 0, 100000), (933, 934, 0, 100000), (934, 935, 0, 100000), (935, 936, 0, 100000), (936, 937, 0, 100000), (937, 938, 0, 100000), (938, 939, 0, 100000), (939, 940, 0, 100000), (940, 941, 0, 100000), (941, 942, 0, 100000), (942, 943, 0, 100000), (943, 944, 0, 100000), (944, 945, 0, 100000), (945, 946, 0, 100000), (946, 947, 0, 100000), (947, 948, 0, 100000), (948, 949, 0, 100000), (949, 950, 0, 100000)]
abbrev Q_mo_does__1 (S : sS) (first : Int) : pst := fun r S1 => RI S1 ∧ FR md_mo_does__1 S S1 ∧ (r = none ∧ (RDCM S S1))
set_option maxRecDepth 100000 in
theorem t_mo_does__1 {S : sS} (hH : RI S) (first : Int) (hfirst : 0 ≤ first ∧ first ≤ 5001) (hLS : LSP S) (h15 : 0 ≤ Xi S 904 15) (hRB : RBD S) (h55 : 0 ≤ Xi S 904 55 ∧ Xi S 904 55 ≤ 19) (hs : Xi S 904 70 = 1) (d : Nat) : Mp lay0 (d + 8) m_mo_does [.ref 904, iv first] S (Q_mo_does__1 S first) := by
  refine Mp_R rfl rfl (fun fu => ?_)
  have hF : FR md_mo_does__1 S S := FR.rf
  have w1 : -2147483648 ≤ Xi S 904 106 ∧ Xi S 904 106 ≤ 2147483647 := Xi_rgI
  have w2 : -2147483648 ≤ Xi S 904 15 ∧ Xi S 904 15 ≤ 2147483647 := Xi_rgI
  have w3 : -2147483648 ≤ Xi S 904 151 ∧ Xi S 904 151 ≤ 2147483647 := Xi_rgI
  have w4 : -2147483648 ≤ Xi S 904 153 ∧ Xi S 904 153 ≤ 2147483647 := Xi_rgI
  have w5 : -2147483648 ≤ Xi S 904 55 ∧ Xi S 904 55 ≤ 2147483647 := Xi_rgI
  have w6 : -2147483648 ≤ Xi S 904 70 ∧ Xi S 904 70 ≤ 2147483647 := Xi_rgI
  have C300 : ∀ (n300 : Nat) (_ : n300 ≤ fu) (T1 : sS) (_ : RI T1) (_ : FR md_mo_does__1 S T1) (v2 : Int), (-2147483648 ≤ v2 ∧ v2 ≤ 2147483647) → ((1 : Int) = 0) → Pl n300 lay0 (d + 7) m_mo_does 300 [(0, .ref 904), (2, iv v2)] [] T1 (Q_mo_does__1 S first) := by
    intro n300
    induction n300 with
    | zero => intros; exact Pl_0
    | succ n300 ih300 =>
      intro hm300 T1 hHT1 hFT1 v2 w7 w8
      have w9 : Xi T1 904 110 = Xi S 904 110 := hFT1.x _ _ rfl
      have w10 : Xi T1 904 112 = Xi S 904 112 := hFT1.x _ _ rfl
      have w11 : Xi T1 904 142 = Xi S 904 142 := hFT1.x _ _ rfl
      have w12 : Xi T1 904 69 = Xi S 904 69 := hFT1.x _ _ rfl
      have w13 : Xi T1 904 70 = Xi S 904 70 := hFT1.x _ _ rfl
      have w14 : Xi T1 904 71 = Xi S 904 71 := hFT1.x _ _ rfl
      have w15 : Xi T1 904 72 = Xi S 904 72 := hFT1.x _ _ rfl
      have w16 : Xi T1 904 74 = Xi S 904 74 := hFT1.x _ _ rfl
      have w17 : Xi T1 904 78 = Xi S 904 78 := hFT1.x _ _ rfl
      have w18 : Xi T1 904 94 = Xi S 904 94 := hFT1.x _ _ rfl
      have w19 : Xi T1 951 1 = Xi S 951 1 := hFT1.x _ _ rfl
      have w20 : Xi T1 951 2 = Xi S 951 2 := hFT1.x _ _ rfl
      have w21 : Xi T1 967 0 = Xi S 967 0 := hFT1.x _ _ rfl
      have w22 : -2147483648 ≤ Xi T1 904 106 ∧ Xi T1 904 106 ≤ 2147483647 := Xi_rgI
      have w23 : -2147483648 ≤ Xi T1 904 15 ∧ Xi T1 904 15 ≤ 2147483647 := Xi_rgI
      have w24 : -2147483648 ≤ Xi T1 904 151 ∧ Xi T1 904 151 ≤ 2147483647 := Xi_rgI
      have w25 : -2147483648 ≤ Xi T1 904 153 ∧ Xi T1 904 153 ≤ 2147483647 := Xi_rgI
      have w26 : -2147483648 ≤ Xi T1 904 55 ∧ Xi T1 904 55 ≤ 2147483647 := Xi_rgI
      have w27 : -2147483648 ≤ Xi T1 904 70 ∧ Xi T1 904 70 ≤ 2147483647 := Xi_rgI
      exfalso; omega
  refine y_aload_n rfl rfl ?_
  refine y_gfi rfl rfl rfl rfl rfl ?_
  refine y_tsw rfl rfl rfl rfl (by unfold rg; omega) (fun w28 => ?_) (fun ii tt hii w28 => ?_)
  · refine y_return rfl rfl ?_
    exact ⟨hH, hF, rfl, (by first | (have t := K146; exact o146) | (exfalso; omega))⟩
  · match ii, hii with
    | 0, hii =>
      cases hii
      have w29 : (Xi S 904 70) = 0 := by simpa using w28
      exfalso; omega
    | 1, hii =>
      cases hii
      have w30 : (Xi S 904 70) = 1 := by simpa using w28
      refine y_aload_n rfl rfl ?_
      refine y_callV rfl rfl rfl (t_mo_doCommand__p hH (by first | assumption | exact (by assumption : LSP S)) (by first | assumption | omega) (by first | assumption | exact (RBD_FR hF rfl (by assumption : RBD S))) (by first | assumption | omega) _) ?_
      rintro _ T2 ⟨hHT2, w32, rfl, o146⟩
      have hFT2 : FR md_mo_does__1 S T2 := FR.tr hF w32 rfl
      show Pl _ _ _ _ _ _ [] _ _
      have K146 : True := trivial
      refine y_goto rfl rfl ?_
      refine y_return rfl rfl ?_
      exact ⟨hHT2, hFT2, rfl, (by first | (have t := K146; exact o146) | (exfalso; omega))⟩
    | 2, hii =>
      cases hii
      have w38 : (Xi S 904 70) = 2 := by simpa using w28
      exfalso; omega
    | 3, hii =>
      cases hii
      have w39 : (Xi S 904 70) = 3 := by simpa using w28
      refine y_return rfl rfl ?_
      exact ⟨hH, hF, rfl, (by first | (have t := K146; exact o146) | (exfalso; omega))⟩
    | 4, hii =>
      cases hii
      have w40 : (Xi S 904 70) = 4 := by simpa using w28
      refine y_return rfl rfl ?_
      exact ⟨hH, hF, rfl, (by first | (have t := K146; exact o146) | (exfalso; omega))⟩
    | 5, hii =>
      cases hii
      have w41 : (Xi S 904 70) = 5 := by simpa using w28
      refine y_return rfl rfl ?_
      exact ⟨hH, hF, rfl, (by first | (have t := K146; exact o146) | (exfalso; omega))⟩
    | 6, hii =>
      cases hii
      have w42 : (Xi S 904 70) = 6 := by simpa using w28
      refine y_return rfl rfl ?_
      exact ⟨hH, hF, rfl, (by first | (have t := K146; exact o146) | (exfalso; omega))⟩
    | 7, hii =>
      cases hii
      have w43 : (Xi S 904 70) = 7 := by simpa using w28
      exfalso; omega
    | 8, hii =>
      cases hii
      have w44 : (Xi S 904 70) = 8 := by simpa using w28
      exfalso; omega
    | 9, hii =>
      cases hii
      have w45 : (Xi S 904 70) = 9 := by simpa using w28
      exfalso; omega
    | 10, hii =>
      cases hii
      have w46 : (Xi S 904 70) = 10 := by simpa using w28
      exfalso; omega
    | 11, hii =>
      cases hii
      have w47 : (Xi S 904 70) = 11 := by simpa using w28
      exfalso; omega
    | 12, hii =>
      cases hii
      have w48 : (Xi S 904 70) = 12 := by simpa using w28
      exfalso; omega
    | 13, hii =>
      cases hii
      have w49 : (Xi S 904 70) = 13 := by simpa using w28
      exfalso; omega
    | 14, hii =>
      cases hii
      have w50 : (Xi S 904 70) = 14 := by simpa using w28
      exfalso; omega
    | 15, hii =>
      cases hii
      have w51 : (Xi S 904 70) = 15 := by simpa using w28
      exfalso; omega
    | 16, hii =>
      cases hii
      have w52 : (Xi S 904 70) = 16 := by simpa using w28
      exfalso; omega
    | 17, hii =>
      cases hii
      have w53 : (Xi S 904 70) = 17 := by simpa using w28
      exfalso; omega
    | 18, hii =>
      cases hii
      have w54 : (Xi S 904 70) = 18 := by simpa using w28
      exfalso; omega
    | 19, hii =>
      cases hii
      have w55 : (Xi S 904 70) = 19 := by simpa using w28
      exfalso; omega
    | 20, hii =>
      cases hii
      have w56 : (Xi S 904 70) = 20 := by simpa using w28
      exfalso; omega
    | n + 21, hii => exact absurd hii (by simp)
end
