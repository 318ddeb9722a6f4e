section
/-! rules of the class: PHRASES but say -/
def MVO (S S1 : sS) (cl : Nat) (a b z : Int) : Prop := KCL S S1 cl ∧
  (isK S (whkC S a b) 0 = 0 → z = 0 ∧ FTO S S1 4 (whrC S a)) ∧
  (isK S (whkC S a b) 0 ≠ 0 → whoC S (wheC S a b + 1) b = -1 → z = 0 ∧ FTO S S1 4 (whrC S (wheC S a b + 1))) ∧
  (isK S (whkC S a b) 0 ≠ 0 → whoC S (wheC S a b + 1) b ≠ -1 → z = 1 ∧ Xi S1 876 8 = 0 ∧ CLM S1 cl 8 0 (whoC S a b) (-1) 0 0 (whoC S (wheC S a b + 1) b))
def TRN (S S1 : sS) (cl : Nat) (a m b z : Int) : Prop := KCL S S1 cl ∧
  (fnd S 8 a m = -1 ∨ Xi S 19 (fnd S 8 a m).toNat < 0 → z = 0 ∧ FTO S S1 4 a) ∧
  (fnd S 8 a m ≠ -1 → 0 ≤ Xi S 19 (fnd S 8 a m).toNat → whoC S m b = -1 → z = 0 ∧ FTO S S1 4 (whrC S m)) ∧
  (fnd S 8 a m ≠ -1 → 0 ≤ Xi S 19 (fnd S 8 a m).toNat → whoC S m b ≠ -1 → z = 1 ∧ Xi S1 876 8 = 0 ∧ CLM S1 cl 10 0 (whoC S m b) (fnd S 8 a m) 0 0 (-1))
def taQ (S : sS) (a b i : Int) : Prop := fnd S 8 a i ≠ -1 ∧ fnd S 2 i b ≠ -1 ∧ 0 ≤ Xi S 19 (fnd S 8 a i).toNat
noncomputable def taF (S : sS) (a b : Int) : Nat → Int × Int × Int
  | 0 => if fnd S 8 a b ≠ -1 ∧ Xi S 19 (fnd S 8 a b).toNat = -1 then (fnd S 8 a b, -1, 1) else (-1, -1, 0)
  | n + 1 => @ite (Int × Int × Int) (taQ S a b (a + 1 + n)) (Classical.propDecidable _) (fnd S 8 a (a + 1 + n), fnd S 2 (a + 1 + n) b, (taF S a b n).2.2 + 1) (taF S a b n)
theorem ta_y {S : sS} {a b i x y c : Int} (h : taF S a b (i - a - 1).toNat = (x, y, c)) (hi : a + 1 ≤ i) (q : taQ S a b i) : taF S a b (i + 1 - a - 1).toNat = (fnd S 8 a i, fnd S 2 i b, c + 1) := by
  have e : a + 1 + (((i - a - 1).toNat : Nat) : Int) = i := by omega
  rw [show (i + 1 - a - 1).toNat = (i - a - 1).toNat + 1 by omega, taF, e, if_pos q, h]
theorem ta_n {S : sS} {a b i : Int} {p : Int × Int × Int} (h : taF S a b (i - a - 1).toNat = p) (hi : a + 1 ≤ i) (q : ¬ taQ S a b i) : taF S a b (i + 1 - a - 1).toNat = p := by
  have e : a + 1 + (((i - a - 1).toNat : Nat) : Int) = i := by omega
  rw [show (i + 1 - a - 1).toNat = (i - a - 1).toNat + 1 by omega, taF, e, if_neg q, h]
def TAL (S T : sS) (cl : Nat) (a b i c : Int) : Prop := taF S a b (i - a - 1).toNat = (Xi T (276 + cl) 3, Xi T (276 + cl) 2, c) ∧ KCL S T cl ∧ (∀ j : Nat, j ≠ 2 → j ≠ 3 → Xi T (276 + cl) j = Xi S (276 + cl) j)
def TAO (S S1 : sS) (cl : Nat) (a b z : Int) : Prop := KCL S S1 cl ∧
  ((taF S a b (b - a - 1).toNat).2.2 ≠ 1 → z = 0 ∧ FTO S S1 (if (taF S a b (b - a - 1).toNat).2.2 = 0 then 4 else 7) a) ∧
  ((taF S a b (b - a - 1).toNat).2.2 = 1 → z = 1 ∧ Xi S1 876 8 = 0 ∧ CLM S1 cl 10 0 (taF S a b (b - a - 1).toNat).2.1 (taF S a b (b - a - 1).toNat).1 0 0 (-1))
theorem tac_y {S T A U : sS} {cl : Nat} {a b i c x y : Int} (h : TAL S T cl a b i c) (hi : a + 1 ≤ i) (q : taQ S a b i) (hx : x = fnd S 8 a i) (hy : y = fnd S 2 i b) (r1 : rg x) (r2 : rg y) (e1 : A = uI T (276 + cl) 3 (Int32.ofInt x)) (e2 : U = uI A (276 + cl) 2 (Int32.ofInt y)) : TAL S U cl a b (i + 1) (c + 1) := by
  refine ⟨?_, kcl_w e2 (kcl_w e1 h.2.1), fun j p q => by rw [e2, Xi_ne (by omega), e1, Xi_ne (by omega)]; exact h.2.2 j p q⟩
  rw [ta_y h.1 hi q, e2, Xi_same r2, Xi_ne (by omega), e1, Xi_same r1, hx, hy]
theorem tac_n {S T : sS} {cl : Nat} {a b i c : Int} (h : TAL S T cl a b i c) (hi : a + 1 ≤ i) (q : ¬ taQ S a b i) : TAL S T cl a b (i + 1) c := ⟨ta_n h.1 hi q, h.2⟩
theorem tac_0 {S : sS} {cl : Nat} {a b i : Int} (hi : i = a + 1) (h2 : Xi S (276 + cl) 2 = -1) (h3 : Xi S (276 + cl) 3 = -1) (q : ¬ (fnd S 8 a b ≠ -1 ∧ Xi S 19 (fnd S 8 a b).toNat = -1)) : TAL S S cl a b i 0 := by
  refine ⟨?_, KCL.rf, fun _ _ _ => rfl⟩
  rw [hi, show (a + 1 - a - 1).toNat = 0 by omega, taF, if_neg q, h2, h3]
theorem tac_1 {S U : sS} {cl : Nat} {a b i : Int} (hi : i = a + 1) (h2 : Xi S (276 + cl) 2 = -1) (r : rg (fnd S 8 a b)) (q : fnd S 8 a b ≠ -1 ∧ Xi S 19 (fnd S 8 a b).toNat = -1) (e : U = uI S (276 + cl) 3 (Int32.ofInt (fnd S 8 a b))) : TAL S U cl a b i 1 := by
  refine ⟨?_, kcl_w e KCL.rf, fun j p q => by rw [e, Xi_ne (by omega)]⟩
  rw [hi, show (a + 1 - a - 1).toNat = 0 by omega, taF, if_pos q, e, Xi_same r, Xi_ne (by omega), h2]
theorem tao_y {S T : sS} {cl : Nat} {a b i c z : Int} (h : TAL S T cl a b i c) (hi : (i - a - 1).toNat = (b - a - 1).toNat) (hc : c = 1) (hz : z = 1) (f : Xi T 876 8 = 0) (m : CLM S cl 10 0 (-1) (-1) 0 0 (-1)) : TAO S T cl a b z := by
  obtain ⟨h1, h2, h3⟩ := h
  rw [hi] at h1
  refine ⟨h2, ?_, ?_⟩ <;> rw [h1]
  · exact fun q => absurd hc q
  · exact fun _ => ⟨hz, f, (h3 0 (by decide) (by decide)).trans m.1, (h3 1 (by decide) (by decide)).trans m.2.1, rfl, rfl, (h3 4 (by decide) (by decide)).trans m.2.2.2.2.1, (h3 5 (by decide) (by decide)).trans m.2.2.2.2.2.1, (h3 6 (by decide) (by decide)).trans m.2.2.2.2.2.2⟩
theorem tao_n {S T U : sS} {cl : Nat} {a b i c z k : Int} (h : TAL S T cl a b i c) (hi : (i - a - 1).toNat = (b - a - 1).toNat) (hc : c ≠ 1) (hz : z = 0) (hk : k = if c = 0 then 4 else 7) (u : KCL T U cl) (f : FTO S U k a) : TAO S U cl a b z := by
  obtain ⟨h1, h2, h3⟩ := h
  rw [hi] at h1
  refine ⟨kcl_tr h2 u, ?_, ?_⟩ <;> rw [h1]
  · exact fun _ => ⟨hz, by rw [hk] at f; exact f⟩
  · exact fun q => absurd q hc
def ADO (S S1 : sS) (cl : Nat) (key a b z : Int) : Prop := ∃ U : sS, U = uI (uI S (276 + cl) 0 (Int32.ofInt 9)) (276 + cl) 4 (Int32.ofInt (Xj S 879 (b - 1).toNat * (if key = 46 then 1 else -1))) ∧ POT U S1 cl (a + 1) (re7 (ty7 S) (a + 1)) 1 (Xi S 876 7 - 1) z ∧ FR md_rr_propertyOfThing__p U S1
def TRO (S S1 : sS) (cl : Nat) (a b z : Int) : Prop := ∃ U : sS, U = uI S (276 + cl) 0 (Int32.ofInt 10) ∧ (re7 (ty7 S) a = b → TAO U S1 cl a b z) ∧ (re7 (ty7 S) a ≠ b → TRN U S1 cl a (re7 (ty7 S) a) b z)
def OPO (S S1 : sS) (cl : Nat) (key a b z : Int) : Prop := (key = 45 → MVO S S1 cl a b z) ∧ (key = 46 ∨ key = 47 → ADO S S1 cl key a b z) ∧ (key = 49 → TRO S S1 cl a b z) ∧ (key ≠ 45 → key ≠ 46 → key ≠ 47 → key ≠ 49 → z = 1 ∧ S1 = S)

def md_rr_movePhrase__p : List rec := [(276, 876, 0, 1), (276, 876, 2, 3), (276, 876, 6, 7), (876, 877, 8, 9), (876, 877, 9, 10), (895, 896, 5, 6), (895, 896, 6, 7), (895, 896, 7, 8)]
abbrev Q_rr_movePhrase__p (S : sS) (from_ : Int) (to : Int) (cl : Nat) : pst := fun r S1 => RI S1 ∧ FR md_rr_movePhrase__p S S1 ∧ (∃ z : Int, r = some (iv z) ∧ (0 ≤ z ∧ z ≤ 1) ∧ (MVO S S1 cl from_ to z))
set_option maxRecDepth 100000 in
theorem t_rr_movePhrase__p {S : sS} (hH : RI S) (from_ : Int) (to : Int) (cl : Nat) (hfrom_ : 0 ≤ from_ ∧ from_ ≤ 5130) (hto : -1 ≤ to ∧ to ≤ 5130) (hcl : cl < 600) (h13 : 0 ≤ Xi S 1 3 ∧ Xi S 1 3 ≤ 200) (hCE : CEN S) (hf : Xi S 876 8 = 0) (hr : Xi S 876 7 ≤ 5130) (hwe : wheC S from_ to ≤ 5139) (hclm : Hid (∃ f0 : Int, CLM S cl f0 0 (-1) (-1) 0 0 (-1))) (d : Nat) : Mp lay0 (d + 3) m_rr_movePhrase [.ref 899, iv from_, iv to, .ref (276 + cl)] S (Q_rr_movePhrase__p S from_ to cl) := by
  refine Mp_R rfl rfl (fun fu => ?_)
  have hF : FR md_rr_movePhrase__p S S := FR.rf
  have w1 : -2147483648 ≤ Xi S 1 3 ∧ Xi S 1 3 ≤ 2147483647 := Xi_rgI
  have w2 : -2147483648 ≤ Xi S 876 7 ∧ Xi S 876 7 ≤ 2147483647 := Xi_rgI
  have w3 : -2147483648 ≤ Xi S 876 8 ∧ Xi S 876 8 ≤ 2147483647 := Xi_rgI
  have w4 : -2147483648 ≤ Xi S 895 5 ∧ Xi S 895 5 ≤ 2147483647 := Xi_rgI
  have w5 : -2147483648 ≤ Xi S 895 6 ∧ Xi S 895 6 ≤ 2147483647 := Xi_rgI
  have w6 : -2147483648 ≤ Xi S 895 7 ∧ Xi S 895 7 ≤ 2147483647 := Xi_rgI
  refine y_aload_n rfl rfl ?_
  refine y_bipush rfl rfl ?_
  refine y_pfi rfl rfl (layClW (by omega) rfl) rfl ?_
  obtain ⟨U1, eU1⟩ : ∃ T : sS, T = uI S (276 + cl) 0 (Int32.ofInt 8) := ⟨_, rfl⟩
  rw [← eU1]
  have hHU1 : RI U1 := by rw [eU1]; exact RI_w hH
  have hFU1 : FR md_rr_movePhrase__p S U1 := by rw [eU1]; exact FR.wI hF (mdf_i (r := (276, 876, 0, 1)) (List.mem_of_getElem? (i := 0) rfl) (inR_i (by omega) (by omega) (by omega) (by omega)))
  have w7 : Xi U1 (276 + cl) 0 = 8 := by rw [eU1]; exact Xi_same (by unfold rg; omega)
  have e3 := eU1
  refine y_aload_n rfl rfl ?_
  refine y_gfr rfl rfl rfl rfl rfl (hHU1.r 899 2 895 rfl) ?_
  refine y_iload_n rfl rfl ?_
  refine y_iload_n rfl rfl ?_
  have w8 : Xi U1 1 3 = Xi S 1 3 := (show Xi U1 1 3 = Xi S 1 3 from by rw [eU1]; exact Xi_ne (by omega))
  have w9 : Xi U1 876 7 = Xi S 876 7 := (show Xi U1 876 7 = Xi S 876 7 from by rw [eU1]; exact Xi_ne (by omega))
  have w10 : Xi U1 876 8 = Xi S 876 8 := (show Xi U1 876 8 = Xi S 876 8 from by rw [eU1]; exact Xi_ne (by omega))
  have w11 : Xi U1 895 5 = Xi S 895 5 := (show Xi U1 895 5 = Xi S 895 5 from by rw [eU1]; exact Xi_ne (by omega))
  have w12 : Xi U1 895 6 = Xi S 895 6 := (show Xi U1 895 6 = Xi S 895 6 from by rw [eU1]; exact Xi_ne (by omega))
  have w13 : Xi U1 895 7 = Xi S 895 7 := (show Xi U1 895 7 = Xi S 895 7 from by rw [eU1]; exact Xi_ne (by omega))
  refine y_callV rfl rfl rfl (t_me_readThing__p hHU1 from_ to ⟨by omega, by omega⟩ ⟨by omega, by omega⟩ (by first | assumption | omega) (by first | assumption | exact (CEN_FR hFU1 rfl rfl (by assumption : CEN S))) (by first | assumption | omega) _) ?_
  rintro _ T2 ⟨hHT2, w15, z14, rfl, w14, o12, b12⟩
  have hFT2 : FR md_rr_movePhrase__p S T2 := FR.tr hFU1 w15 rfl
  show Pl _ _ _ _ _ _ [iv z14] _ _
  have R12 := rth_F hFU1 rfl rfl rfl rfl rfl o12
  clear o12
  have F12 := (by assumption : FR md_me_readThing__p U1 T2)
  have k12 : KCL S T2 cl := kcl_f F12 rfl (kcl_w e3 KCL.rf)
  have z12_ : z14 = wheC S from_ to := R12.2.2.2
  refine y_istore rfl rfl rfl ?_
  refine y_aload_n rfl rfl ?_
  refine y_gfr rfl rfl rfl rfl rfl (hHT2.r 899 1 1 rfl) ?_
  refine y_aload_n rfl rfl ?_
  refine y_gfr rfl rfl rfl rfl rfl (hHT2.r 899 2 895 rfl) ?_
  refine y_gfi rfl rfl rfl rfl rfl ?_
  have w16 : -2147483648 ≤ (Xi T2 895 6) ∧ (Xi T2 895 6) ≤ 2147483647 := Xi_rgI
  refine y_iconst rfl ?_
  have w17 : Xi T2 876 8 = Xi S 876 8 := (show Xi T2 876 8 = Xi U1 876 8 from w15.x _ _ rfl).trans ((show Xi U1 876 8 = Xi S 876 8 from by rw [eU1]; exact Xi_ne (by omega)))
  refine y_callV rfl rfl rfl (t_vo_isKind__p hHT2 (Xi T2 895 6) 0 ⟨by omega, by omega⟩ ⟨by omega, by omega⟩ _) ?_
  rintro _ _ ⟨rfl, z18, rfl, w18, q29⟩
  show Pl _ _ _ _ _ _ [iv z18] _ _
  have k29 : z18 = isK S (whkC S from_ to) 0 := by have u := q29; rw [isK_F hFT2 rfl, R12.2.1] at u; exact u
  clear q29
  refine y_if_ne rfl rfl (by unfold rg; omega) (fun w19 => ?_) (fun w20 => ?_)
  · refine y_aload_n rfl rfl ?_
    refine y_aload_n rfl rfl ?_
    refine y_gfr rfl rfl rfl rfl rfl (hHT2.r 899 2 895 rfl) ?_
    refine y_gfi rfl rfl rfl rfl rfl ?_
    have w21 : -2147483648 ≤ (Xi T2 895 5) ∧ (Xi T2 895 5) ≤ 2147483647 := Xi_rgI
    refine y_pfi rfl rfl (layClW (by omega) rfl) rfl ?_
    obtain ⟨U3, eU3⟩ : ∃ T : sS, T = uI T2 (276 + cl) 2 (Int32.ofInt (Xi T2 895 5)) := ⟨_, rfl⟩
    rw [← eU3]
    have hHU3 : RI U3 := by rw [eU3]; exact RI_w hHT2
    have hFU3 : FR md_rr_movePhrase__p S U3 := by rw [eU3]; exact FR.wI hFT2 (mdf_i (r := (276, 876, 2, 3)) (List.mem_of_getElem? (i := 1) rfl) (inR_i (by omega) (by omega) (by omega) (by omega)))
    have w22 : Xi U3 (276 + cl) 2 = (Xi T2 895 5) := by rw [eU3]; exact Xi_same (by unfold rg; omega)
    have e59 := eU3
    have x59 : Xi U3 (276 + cl) 2 = whoC S from_ to := by rw [e59]; exact (Xi_same (by unfold rg; omega)).trans R12.1
    refine y_aload_n rfl rfl ?_
    refine y_gfr rfl rfl rfl rfl rfl (hHU3.r 899 2 895 rfl) ?_
    refine y_iload rfl rfl ?_
    refine y_iconst rfl ?_
    refine y_iadd rfl ?_
    refine y_iload_n rfl rfl ?_
    have w23 : Xi U3 1 3 = Xi S 1 3 := (show Xi U3 1 3 = Xi T2 1 3 from by rw [eU3]; exact Xi_ne (by omega)).trans ( (show Xi T2 1 3 = Xi U1 1 3 from w15.x _ _ rfl).trans ((show Xi U1 1 3 = Xi S 1 3 from by rw [eU1]; exact Xi_ne (by omega))))
    have w24 : Xi U3 876 7 = Xi S 876 7 := (show Xi U3 876 7 = Xi T2 876 7 from by rw [eU3]; exact Xi_ne (by omega)).trans ( (show Xi T2 876 7 = Xi U1 876 7 from w15.x _ _ rfl).trans ((show Xi U1 876 7 = Xi S 876 7 from by rw [eU1]; exact Xi_ne (by omega))))
    have w25 : Xi U3 876 8 = Xi S 876 8 := (show Xi U3 876 8 = Xi T2 876 8 from by rw [eU3]; exact Xi_ne (by omega)).trans ( (show Xi T2 876 8 = Xi U1 876 8 from w15.x _ _ rfl).trans ((show Xi U1 876 8 = Xi S 876 8 from by rw [eU1]; exact Xi_ne (by omega))))
    have w26 : Xi U3 895 5 = Xi T2 895 5 := (show Xi U3 895 5 = Xi T2 895 5 from by rw [eU3]; exact Xi_ne (by omega))
    have w27 : Xi U3 895 6 = Xi T2 895 6 := (show Xi U3 895 6 = Xi T2 895 6 from by rw [eU3]; exact Xi_ne (by omega))
    have w28 : Xi U3 895 7 = Xi T2 895 7 := (show Xi U3 895 7 = Xi T2 895 7 from by rw [eU3]; exact Xi_ne (by omega))
    refine y_callV rfl rfl rfl (t_me_readThing__p hHU3 (z14 + 1) to ⟨by omega, by omega⟩ ⟨by omega, by omega⟩ (by first | assumption | omega) (by first | assumption | exact (CEN_FR hFU3 rfl rfl (by assumption : CEN S))) (by first | assumption | omega) _) ?_
    rintro _ T4 ⟨hHT4, w31, z30, rfl, w30, o71, w29⟩
    have hFT4 : FR md_rr_movePhrase__p S T4 := FR.tr hFU3 w31 rfl
    show Pl _ _ _ _ _ _ [iv z30] _ _
    have R71 : RTH S T4 (wheC S from_ to + 1) to z30 := by have u := rth_F hFU3 rfl rfl rfl rfl rfl o71; rw [z12_] at u; exact u
    clear o71
    have F71 := (by assumption : FR md_me_readThing__p U3 T4)
    refine y_pop rfl rfl ?_
    refine y_aload_n rfl rfl ?_
    refine y_aload_n rfl rfl ?_
    refine y_gfr rfl rfl rfl rfl rfl (hHT4.r 899 2 895 rfl) ?_
    refine y_gfi rfl rfl rfl rfl rfl ?_
    have w32 : -2147483648 ≤ (Xi T4 895 5) ∧ (Xi T4 895 5) ≤ 2147483647 := Xi_rgI
    refine y_pfi rfl rfl (layClW (by omega) rfl) rfl ?_
    obtain ⟨U5, eU5⟩ : ∃ T : sS, T = uI T4 (276 + cl) 6 (Int32.ofInt (Xi T4 895 5)) := ⟨_, rfl⟩
    rw [← eU5]
    have hHU5 : RI U5 := by rw [eU5]; exact RI_w hHT4
    have hFU5 : FR md_rr_movePhrase__p S U5 := by rw [eU5]; exact FR.wI hFT4 (mdf_i (r := (276, 876, 6, 7)) (List.mem_of_getElem? (i := 2) rfl) (inR_i (by omega) (by omega) (by omega) (by omega)))
    have w33 : Xi U5 (276 + cl) 6 = (Xi T4 895 5) := by rw [eU5]; exact Xi_same (by unfold rg; omega)
    have e83 := eU5
    have K83 : KCL S U5 cl := kcl_w e83 (kcl_f F71 rfl (kcl_w e59 k12))
    have M83 : CLM U5 cl 8 0 (whoC S from_ to) (-1) 0 0 (whoC S (wheC S from_ to + 1) to) := by have cc := hclm.o.choose_spec; have g : ∀ j : Nat, j ≠ 6 → j ≠ 2 → j ≠ 0 → Xi U5 (276 + cl) j = Xi S (276 + cl) j := (fun j p q r => by rw [e83, Xi_ne (by omega), cl_keep F71 rfl hcl, e59, Xi_ne (by omega), cl_keep F12 rfl hcl, e3, Xi_ne (by omega)]); exact ⟨by rw [e83, Xi_ne (by omega), cl_keep F71 rfl hcl, e59, Xi_ne (by omega), cl_keep F12 rfl hcl, e3]; exact Xi_same (by unfold rg; omega), (g 1 (by decide) (by decide) (by decide)).trans cc.2.1, by rw [e83, Xi_ne (by omega), cl_keep F71 rfl hcl]; exact x59, (g 3 (by decide) (by decide) (by decide)).trans cc.2.2.2.1, (g 4 (by decide) (by decide) (by decide)).trans cc.2.2.2.2.1, (g 5 (by decide) (by decide) (by decide)).trans cc.2.2.2.2.2.1, by rw [e83]; exact (Xi_same (by unfold rg; omega)).trans R71.1⟩
    have z83 : Xi U5 876 8 = 0 := by rw [e83, Xi_ne (by omega), F71.x 876 8 rfl, e59, Xi_ne (by omega), F12.x 876 8 rfl, e3, Xi_ne (by omega)]; exact hf
    refine y_aload_n rfl rfl ?_
    refine y_gfr rfl rfl rfl rfl rfl (hHU5.r 899 2 895 rfl) ?_
    refine y_gfi rfl rfl rfl rfl rfl ?_
    have w34 : (Xi U5 895 5) = (Xi T4 895 5) := (show Xi U5 895 5 = Xi T4 895 5 from by rw [eU5]; exact Xi_ne (by omega))
    rw [w34]
    have W90 : (Xi T4 895 5) = whoC S (wheC S from_ to + 1) to := by first | exact R71.1 | (rw [e83, Xi_ne (by omega)]; exact R71.1)
    refine y_iconst rfl ?_
    refine y_icmp_ne rfl rfl (by unfold rg; omega) (by unfold rg; omega) (fun w35 => ?_) (fun w36 => ?_)
    · refine y_iconst rfl ?_
      refine y_goto rfl rfl ?_
      refine y_ireturn rfl rfl ?_
      exact ⟨hHU5, hFU5, _, rfl, ⟨by omega, by omega⟩, (by first | (have u := Y109; exact ⟨k109, fun q => absurd q (by omega), fun _ _ => ⟨by omega, Y109⟩, fun _ q => absurd (W90.symm.trans (by omega)) q⟩) | (have u := W90; exact ⟨K83, fun q => absurd q (by omega), fun _ q => absurd (W90.trans q) (by omega), fun _ _ => ⟨by omega, z83, M83⟩⟩) | exact ⟨k47, fun _ => ⟨by omega, Y47⟩, fun q => absurd (by omega) q, fun q => absurd (by omega) q⟩)⟩
    · refine y_aload_n rfl rfl ?_
      refine y_gfr rfl rfl rfl rfl rfl (hHU5.r 899 0 876 rfl) ?_
      refine y_iconst rfl ?_
      refine y_aload_n rfl rfl ?_
      refine y_gfr rfl rfl rfl rfl rfl (hHU5.r 899 2 895 rfl) ?_
      refine y_gfi rfl rfl rfl rfl rfl ?_
      have w41 : -2147483648 ≤ (Xi U5 895 7) ∧ (Xi U5 895 7) ≤ 2147483647 := Xi_rgI
      have r106 : (Xi U5 895 7) = whrC S (wheC S from_ to + 1) := by first | exact R71.2.2.1 | (rw [e83, Xi_ne (by omega)]; exact R71.2.2.1)
      have w42 : Xi U5 876 8 = Xi S 876 8 := (show Xi U5 876 8 = Xi T4 876 8 from by rw [eU5]; exact Xi_ne (by omega)).trans ( (show Xi T4 876 8 = Xi U3 876 8 from w31.x _ _ rfl).trans ( (show Xi U3 876 8 = Xi T2 876 8 from by rw [eU3]; exact Xi_ne (by omega)).trans ( (show Xi T2 876 8 = Xi U1 876 8 from w15.x _ _ rfl).trans ((show Xi U1 876 8 = Xi S 876 8 from by rw [eU1]; exact Xi_ne (by omega))))))
      have w43 : Xi U5 876 9 = Xi S 876 9 := (show Xi U5 876 9 = Xi T4 876 9 from by rw [eU5]; exact Xi_ne (by omega)).trans ( (show Xi T4 876 9 = Xi U3 876 9 from w31.x _ _ rfl).trans ( (show Xi U3 876 9 = Xi T2 876 9 from by rw [eU3]; exact Xi_ne (by omega)).trans ( (show Xi T2 876 9 = Xi U1 876 9 from w15.x _ _ rfl).trans ((show Xi U1 876 9 = Xi S 876 9 from by rw [eU1]; exact Xi_ne (by omega))))))
      have w46 : Xi U5 895 7 = Xi T4 895 7 := (show Xi U5 895 7 = Xi T4 895 7 from by rw [eU5]; exact Xi_ne (by omega))
      refine y_callV rfl rfl rfl (t_to_wrong__p hHU5 4 (Xi U5 895 7) ⟨by omega, by omega⟩ ⟨by omega, by omega⟩ _) ?_
      rintro _ T6 ⟨hHT6, w50, z49, rfl, w49, w47, f109, w48⟩
      have hFT6 : FR md_rr_movePhrase__p S T6 := FR.tr hFU5 w50 rfl
      show Pl _ _ _ _ _ _ [iv z49] _ _
      have F109 := (by assumption : FR md_to_wrong__p U5 T6)
      have Y109 : FTO S T6 4 (whrC S (wheC S from_ to + 1)) := by have u := f109 z83; rw [r106] at u; exact ⟨u.1, u.2.trans (pc7_FR hFU5 rfl rfl rfl _)⟩
      have k109 : KCL S T6 cl := kcl_f F109 rfl K83
      refine y_if_eq rfl rfl (by unfold rg; omega) (fun w51 => ?_) (fun w52 => ?_)
      · refine y_iconst rfl ?_
        refine y_ireturn rfl rfl ?_
        exact ⟨hHT6, hFT6, _, rfl, ⟨by omega, by omega⟩, (by first | (have u := Y109; exact ⟨k109, fun q => absurd q (by omega), fun _ _ => ⟨by omega, Y109⟩, fun _ q => absurd (W90.symm.trans (by omega)) q⟩) | (have u := W90; exact ⟨K83, fun q => absurd q (by omega), fun _ q => absurd (W90.trans q) (by omega), fun _ _ => ⟨by omega, z83, M83⟩⟩) | exact ⟨k47, fun _ => ⟨by omega, Y47⟩, fun q => absurd (by omega) q, fun q => absurd (by omega) q⟩)⟩
      · refine y_iconst rfl ?_
        refine y_goto rfl rfl ?_
        refine y_ireturn rfl rfl ?_
        exact ⟨hHT6, hFT6, _, rfl, ⟨by omega, by omega⟩, (by first | (have u := Y109; exact ⟨k109, fun q => absurd q (by omega), fun _ _ => ⟨by omega, Y109⟩, fun _ q => absurd (W90.symm.trans (by omega)) q⟩) | (have u := W90; exact ⟨K83, fun q => absurd q (by omega), fun _ q => absurd (W90.trans q) (by omega), fun _ _ => ⟨by omega, z83, M83⟩⟩) | exact ⟨k47, fun _ => ⟨by omega, Y47⟩, fun q => absurd (by omega) q, fun q => absurd (by omega) q⟩)⟩
  · refine y_aload_n rfl rfl ?_
    refine y_gfr rfl rfl rfl rfl rfl (hHT2.r 899 0 876 rfl) ?_
    refine y_iconst rfl ?_
    refine y_aload_n rfl rfl ?_
    refine y_gfr rfl rfl rfl rfl rfl (hHT2.r 899 2 895 rfl) ?_
    refine y_gfi rfl rfl rfl rfl rfl ?_
    have w59 : -2147483648 ≤ (Xi T2 895 7) ∧ (Xi T2 895 7) ≤ 2147483647 := Xi_rgI
    have r44 : (Xi T2 895 7) = whrC S from_ := R12.2.2.1
    have w61 : Xi T2 876 9 = Xi S 876 9 := (show Xi T2 876 9 = Xi U1 876 9 from w15.x _ _ rfl).trans ((show Xi U1 876 9 = Xi S 876 9 from by rw [eU1]; exact Xi_ne (by omega)))
    refine y_callV rfl rfl rfl (t_to_wrong__p hHT2 4 (Xi T2 895 7) ⟨by omega, by omega⟩ ⟨by omega, by omega⟩ _) ?_
    rintro _ T7 ⟨hHT7, w65, z64, rfl, w64, w62, f47, w63⟩
    have hFT7 : FR md_rr_movePhrase__p S T7 := FR.tr hFT2 w65 rfl
    show Pl _ _ _ _ _ _ [iv z64] _ _
    have F47 := (by assumption : FR md_to_wrong__p T2 T7)
    have Y47 : FTO S T7 4 (whrC S from_) := by have u := f47 (by omega); rw [r44] at u; exact ⟨u.1, u.2.trans (pc7_FR hFT2 rfl rfl rfl _)⟩
    have k47 : KCL S T7 cl := kcl_f F47 rfl k12
    refine y_ireturn rfl (retI_z (by omega)) ?_
    exact ⟨hHT7, hFT7, _, rfl, ⟨by omega, by omega⟩, (by first | (have u := Y109; exact ⟨k109, fun q => absurd q (by omega), fun _ _ => ⟨by omega, Y109⟩, fun _ q => absurd (W90.symm.trans (by omega)) q⟩) | (have u := W90; exact ⟨K83, fun q => absurd q (by omega), fun _ q => absurd (W90.trans q) (by omega), fun _ _ => ⟨by omega, z83, M83⟩⟩) | exact ⟨k47, fun _ => ⟨by omega, Y47⟩, fun q => absurd (by omega) q, fun q => absurd (by omega) q⟩)⟩
def md_rr_tryOn__p : List rec := [(276, 876, 2, 3), (276, 876, 3, 4), (876, 877, 8, 9), (876, 877, 9, 10), (895, 896, 5, 6), (895, 896, 6, 7), (895, 896, 7, 8)]
abbrev Q_rr_tryOn__p (S : sS) (from_ : Int) (behind : Int) (to : Int) (cl : Nat) : pst := fun r S1 => RI S1 ∧ FR md_rr_tryOn__p S S1 ∧ (∃ z : Int, r = some (iv z) ∧ (0 ≤ z ∧ z ≤ 1) ∧ (TRN S S1 cl from_ behind to z))
set_option maxRecDepth 100000 in
theorem t_rr_tryOn__p {S : sS} (hH : RI S) (from_ : Int) (behind : Int) (to : Int) (cl : Nat) (hfrom_ : 0 ≤ from_ ∧ from_ ≤ 5130) (hbehind : 0 ≤ behind ∧ behind ≤ 5140) (hto : -1 ≤ to ∧ to ≤ 5140) (hcl : cl < 600) (h13 : 0 ≤ Xi S 1 3 ∧ Xi S 1 3 ≤ 200) (hCE : CEN S) (hf : Xi S 876 8 = 0) (hr : Xi S 876 7 ≤ 5130) (hclm : Hid (CLM S cl 10 0 (-1) (-1) 0 0 (-1))) (d : Nat) : Mp lay0 (d + 3) m_rr_tryOn [.ref 899, iv from_, iv behind, iv to, .ref (276 + cl)] S (Q_rr_tryOn__p S from_ behind to cl) := by
  refine Mp_R rfl rfl (fun fu => ?_)
  have hF : FR md_rr_tryOn__p S S := FR.rf
  have w1 : -2147483648 ≤ Xi S 1 3 ∧ Xi S 1 3 ≤ 2147483647 := Xi_rgI
  have w2 : -2147483648 ≤ Xi S 876 7 ∧ Xi S 876 7 ≤ 2147483647 := Xi_rgI
  have w3 : -2147483648 ≤ Xi S 876 8 ∧ Xi S 876 8 ≤ 2147483647 := Xi_rgI
  have w4 : -2147483648 ≤ Xi S 895 5 ∧ Xi S 895 5 ≤ 2147483647 := Xi_rgI
  have w5 : -2147483648 ≤ Xi S 895 6 ∧ Xi S 895 6 ≤ 2147483647 := Xi_rgI
  have w6 : -2147483648 ≤ Xi S 895 7 ∧ Xi S 895 7 ≤ 2147483647 := Xi_rgI
  refine y_aload rfl rfl ?_
  refine y_aload_n rfl rfl ?_
  refine y_gfr rfl rfl rfl rfl rfl (hH.r 899 2 895 rfl) ?_
  refine y_bipush rfl rfl ?_
  refine y_iload_n rfl rfl ?_
  refine y_iload_n rfl rfl ?_
  refine y_callV rfl rfl rfl (t_me_find__p hH 8 from_ behind ⟨by omega, by omega⟩ ⟨by omega, by omega⟩ ⟨by omega, by omega⟩ (by first | assumption | omega) (by first | assumption | exact (CEN_FR hF rfl rfl (by assumption : CEN S))) _) ?_
  rintro _ _ ⟨rfl, z7, rfl, w7, v10⟩
  show Pl _ _ _ _ _ _ [iv z7, .ref (276 + cl)] _ _
  refine y_pfi rfl rfl (layClW (by omega) rfl) rfl ?_
  obtain ⟨U1, eU1⟩ : ∃ T : sS, T = uI S (276 + cl) 3 (Int32.ofInt z7) := ⟨_, rfl⟩
  rw [← eU1]
  have hHU1 : RI U1 := by rw [eU1]; exact RI_w hH
  have hFU1 : FR md_rr_tryOn__p S U1 := by rw [eU1]; exact FR.wI hF (mdf_i (r := (276, 876, 3, 4)) (List.mem_of_getElem? (i := 1) rfl) (inR_i (by omega) (by omega) (by omega) (by omega)))
  have w8 : Xi U1 (276 + cl) 3 = z7 := by rw [eU1]; exact Xi_same (by unfold rg; omega)
  have e13 := eU1
  have x13 : Xi U1 (276 + cl) 3 = fnd S 8 from_ behind := by rw [e13]; exact (Xi_same (by unfold rg; omega)).trans v10
  refine y_aload rfl rfl ?_
  refine y_gfi rfl rfl rfl (layCl (by omega)) rfl ?_
  have c18 : (Xi U1 (276 + cl) 3) = fnd S 8 from_ behind := by first | exact v10 | exact x13
  refine y_iconst rfl ?_
  refine y_icmp_eq rfl rfl (by unfold rg; omega) (by unfold rg; omega) (fun w9 => ?_) (fun w10 => ?_)
  · refine y_aload_n rfl rfl ?_
    refine y_gfr rfl rfl rfl rfl rfl (hHU1.r 899 0 876 rfl) ?_
    refine y_iconst rfl ?_
    refine y_iload_n rfl rfl ?_
    have w11 : Xi U1 876 8 = Xi S 876 8 := (show Xi U1 876 8 = Xi S 876 8 from by rw [eU1]; exact Xi_ne (by omega))
    have w12 : Xi U1 876 9 = Xi S 876 9 := (show Xi U1 876 9 = Xi S 876 9 from by rw [eU1]; exact Xi_ne (by omega))
    refine y_callV rfl rfl rfl (t_to_wrong__p hHU1 4 from_ ⟨by omega, by omega⟩ ⟨by omega, by omega⟩ _) ?_
    rintro _ T2 ⟨hHT2, w19, z18, rfl, w18, w16, f47, w17⟩
    have hFT2 : FR md_rr_tryOn__p S T2 := FR.tr hFU1 w19 rfl
    show Pl _ _ _ _ _ _ [iv z18] _ _
    have F47 := (by assumption : FR md_to_wrong__p U1 T2)
    have Y47 : FTO S T2 4 from_ := by have u := f47 (by omega); exact ⟨u.1, u.2.trans (pc7_FR hFU1 rfl rfl rfl _)⟩
    have k47 : KCL S T2 cl := kcl_f F47 rfl (kcl_w e13 KCL.rf)
    refine y_ireturn rfl (retI_z (by omega)) ?_
    exact ⟨hHT2, hFT2, _, rfl, ⟨by omega, by omega⟩, (by first | (have u := Y96; exact ⟨k96, fun q => absurd q (by omega), fun _ _ _ => ⟨by omega, Y96⟩, fun _ _ q => absurd (W77.symm.trans (by omega)) q⟩) | (have u := W77; exact ⟨K70, fun q => absurd q (by omega), fun _ _ q => absurd (W77.trans q) (by omega), fun _ _ _ => ⟨by omega, z70, M70⟩⟩) | exact ⟨k47, fun _ => ⟨by omega, Y47⟩, fun p q => absurd Y47 (by omega), fun p q => absurd Y47 (by omega)⟩)⟩
  · refine y_aload_n rfl rfl ?_
    refine y_gfr rfl rfl rfl rfl rfl (hHU1.r 899 1 1 rfl) ?_
    refine y_gfr rfl rfl rfl rfl rfl (hHU1.r 1 18 19 rfl) ?_
    refine y_aload rfl rfl ?_
    refine y_gfi rfl rfl rfl (layCl (by omega)) rfl ?_
    refine y_ialoadP (n := 12) rfl rfl (by unfold rg; omega) (fun w23 w24 => ?_)
    have w25 : -2147483648 ≤ (Xi U1 19 (((Xi U1 (276 + cl) 3)).toNat)) ∧ (Xi U1 19 (((Xi U1 (276 + cl) 3)).toNat)) ≤ 2147483647 := Xi_rgI
    have k37 : (Xi U1 19 (((Xi U1 (276 + cl) 3)).toNat)) = Xi S 19 (fnd S 8 from_ behind).toNat := by rw [← x13]; first | exact (hFU1.cx 19 rfl _).1 | (rw [(hFU1.cx 19 rfl _).1])
    refine y_if_ge rfl rfl (by unfold rg; omega) (fun w26 => ?_) (fun w27 => ?_)
    · refine y_aload_n rfl rfl ?_
      refine y_gfr rfl rfl rfl rfl rfl (hHU1.r 899 2 895 rfl) ?_
      refine y_iload_n rfl rfl ?_
      refine y_iload_n rfl rfl ?_
      have w28 : Xi U1 1 3 = Xi S 1 3 := (show Xi U1 1 3 = Xi S 1 3 from by rw [eU1]; exact Xi_ne (by omega))
      have w29 : Xi U1 876 7 = Xi S 876 7 := (show Xi U1 876 7 = Xi S 876 7 from by rw [eU1]; exact Xi_ne (by omega))
      have w30 : Xi U1 876 8 = Xi S 876 8 := (show Xi U1 876 8 = Xi S 876 8 from by rw [eU1]; exact Xi_ne (by omega))
      have w31 : Xi U1 895 5 = Xi S 895 5 := (show Xi U1 895 5 = Xi S 895 5 from by rw [eU1]; exact Xi_ne (by omega))
      have w32 : Xi U1 895 6 = Xi S 895 6 := (show Xi U1 895 6 = Xi S 895 6 from by rw [eU1]; exact Xi_ne (by omega))
      have w33 : Xi U1 895 7 = Xi S 895 7 := (show Xi U1 895 7 = Xi S 895 7 from by rw [eU1]; exact Xi_ne (by omega))
      refine y_callV rfl rfl rfl (t_me_readThing__p hHU1 behind to ⟨by omega, by omega⟩ ⟨by omega, by omega⟩ (by first | assumption | omega) (by first | assumption | exact (CEN_FR hFU1 rfl rfl (by assumption : CEN S))) (by first | assumption | omega) _) ?_
      rintro _ T3 ⟨hHT3, w36, z35, rfl, w35, o57, w34⟩
      have hFT3 : FR md_rr_tryOn__p S T3 := FR.tr hFU1 w36 rfl
      show Pl _ _ _ _ _ _ [iv z35] _ _
      have R57 : RTH S T3 behind to z35 := rth_F hFU1 rfl rfl rfl rfl rfl o57
      clear o57
      have F57 := (by assumption : FR md_me_readThing__p U1 T3)
      refine y_pop rfl rfl ?_
      refine y_aload rfl rfl ?_
      refine y_aload_n rfl rfl ?_
      refine y_gfr rfl rfl rfl rfl rfl (hHT3.r 899 2 895 rfl) ?_
      refine y_gfi rfl rfl rfl rfl rfl ?_
      have w37 : -2147483648 ≤ (Xi T3 895 5) ∧ (Xi T3 895 5) ≤ 2147483647 := Xi_rgI
      refine y_pfi rfl rfl (layClW (by omega) rfl) rfl ?_
      obtain ⟨U4, eU4⟩ : ∃ T : sS, T = uI T3 (276 + cl) 2 (Int32.ofInt (Xi T3 895 5)) := ⟨_, rfl⟩
      rw [← eU4]
      have hHU4 : RI U4 := by rw [eU4]; exact RI_w hHT3
      have hFU4 : FR md_rr_tryOn__p S U4 := by rw [eU4]; exact FR.wI hFT3 (mdf_i (r := (276, 876, 2, 3)) (List.mem_of_getElem? (i := 0) rfl) (inR_i (by omega) (by omega) (by omega) (by omega)))
      have w38 : Xi U4 (276 + cl) 2 = (Xi T3 895 5) := by rw [eU4]; exact Xi_same (by unfold rg; omega)
      have e70 := eU4
      have K70 : KCL S U4 cl := kcl_w e70 (kcl_f F57 rfl (kcl_w e13 KCL.rf))
      have M70 : CLM U4 cl 10 0 (whoC S behind to) (fnd S 8 from_ behind) 0 0 (-1) := by have cc := hclm.o; have g : ∀ j : Nat, j ≠ 2 → j ≠ 3 → Xi U4 (276 + cl) j = Xi S (276 + cl) j := (fun j p q => by rw [e70, Xi_ne (by omega), cl_keep F57 rfl hcl, e13, Xi_ne (by omega)]); exact ⟨(g 0 (by decide) (by decide)).trans cc.1, (g 1 (by decide) (by decide)).trans cc.2.1, by rw [e70]; exact (Xi_same (by unfold rg; omega)).trans R57.1, by rw [e70, Xi_ne (by omega), cl_keep F57 rfl hcl]; exact x13, (g 4 (by decide) (by decide)).trans cc.2.2.2.2.1, (g 5 (by decide) (by decide)).trans cc.2.2.2.2.2.1, (g 6 (by decide) (by decide)).trans cc.2.2.2.2.2.2⟩
      have z70 : Xi U4 876 8 = 0 := by rw [e70, Xi_ne (by omega), F57.x 876 8 rfl, e13, Xi_ne (by omega)]; exact hf
      refine y_aload_n rfl rfl ?_
      refine y_gfr rfl rfl rfl rfl rfl (hHU4.r 899 2 895 rfl) ?_
      refine y_gfi rfl rfl rfl rfl rfl ?_
      have w39 : (Xi U4 895 5) = (Xi T3 895 5) := (show Xi U4 895 5 = Xi T3 895 5 from by rw [eU4]; exact Xi_ne (by omega))
      rw [w39]
      have W77 : (Xi T3 895 5) = whoC S behind to := by first | exact R57.1 | (rw [e70, Xi_ne (by omega)]; exact R57.1)
      refine y_iconst rfl ?_
      refine y_icmp_ne rfl rfl (by unfold rg; omega) (by unfold rg; omega) (fun w40 => ?_) (fun w41 => ?_)
      · refine y_iconst rfl ?_
        refine y_goto rfl rfl ?_
        refine y_ireturn rfl rfl ?_
        exact ⟨hHU4, hFU4, _, rfl, ⟨by omega, by omega⟩, (by first | (have u := Y96; exact ⟨k96, fun q => absurd q (by omega), fun _ _ _ => ⟨by omega, Y96⟩, fun _ _ q => absurd (W77.symm.trans (by omega)) q⟩) | (have u := W77; exact ⟨K70, fun q => absurd q (by omega), fun _ _ q => absurd (W77.trans q) (by omega), fun _ _ _ => ⟨by omega, z70, M70⟩⟩) | exact ⟨k47, fun _ => ⟨by omega, Y47⟩, fun p q => absurd Y47 (by omega), fun p q => absurd Y47 (by omega)⟩)⟩
      · refine y_aload_n rfl rfl ?_
        refine y_gfr rfl rfl rfl rfl rfl (hHU4.r 899 0 876 rfl) ?_
        refine y_iconst rfl ?_
        refine y_aload_n rfl rfl ?_
        refine y_gfr rfl rfl rfl rfl rfl (hHU4.r 899 2 895 rfl) ?_
        refine y_gfi rfl rfl rfl rfl rfl ?_
        have w46 : -2147483648 ≤ (Xi U4 895 7) ∧ (Xi U4 895 7) ≤ 2147483647 := Xi_rgI
        have r93 : (Xi U4 895 7) = whrC S behind := by first | exact R57.2.2.1 | (rw [e70, Xi_ne (by omega)]; exact R57.2.2.1)
        have w47 : Xi U4 876 8 = Xi S 876 8 := (show Xi U4 876 8 = Xi T3 876 8 from by rw [eU4]; exact Xi_ne (by omega)).trans ( (show Xi T3 876 8 = Xi U1 876 8 from w36.x _ _ rfl).trans ((show Xi U1 876 8 = Xi S 876 8 from by rw [eU1]; exact Xi_ne (by omega))))
        have w48 : Xi U4 876 9 = Xi S 876 9 := (show Xi U4 876 9 = Xi T3 876 9 from by rw [eU4]; exact Xi_ne (by omega)).trans ( (show Xi T3 876 9 = Xi U1 876 9 from w36.x _ _ rfl).trans ((show Xi U1 876 9 = Xi S 876 9 from by rw [eU1]; exact Xi_ne (by omega))))
        have w51 : Xi U4 895 7 = Xi T3 895 7 := (show Xi U4 895 7 = Xi T3 895 7 from by rw [eU4]; exact Xi_ne (by omega))
        refine y_callV rfl rfl rfl (t_to_wrong__p hHU4 4 (Xi U4 895 7) ⟨by omega, by omega⟩ ⟨by omega, by omega⟩ _) ?_
        rintro _ T5 ⟨hHT5, w55, z54, rfl, w54, w52, f96, w53⟩
        have hFT5 : FR md_rr_tryOn__p S T5 := FR.tr hFU4 w55 rfl
        show Pl _ _ _ _ _ _ [iv z54] _ _
        have F96 := (by assumption : FR md_to_wrong__p U4 T5)
        have Y96 : FTO S T5 4 (whrC S behind) := by have u := f96 z70; rw [r93] at u; exact ⟨u.1, u.2.trans (pc7_FR hFU4 rfl rfl rfl _)⟩
        have k96 : KCL S T5 cl := kcl_f F96 rfl K70
        refine y_if_eq rfl rfl (by unfold rg; omega) (fun w56 => ?_) (fun w57 => ?_)
        · refine y_iconst rfl ?_
          refine y_ireturn rfl rfl ?_
          exact ⟨hHT5, hFT5, _, rfl, ⟨by omega, by omega⟩, (by first | (have u := Y96; exact ⟨k96, fun q => absurd q (by omega), fun _ _ _ => ⟨by omega, Y96⟩, fun _ _ q => absurd (W77.symm.trans (by omega)) q⟩) | (have u := W77; exact ⟨K70, fun q => absurd q (by omega), fun _ _ q => absurd (W77.trans q) (by omega), fun _ _ _ => ⟨by omega, z70, M70⟩⟩) | exact ⟨k47, fun _ => ⟨by omega, Y47⟩, fun p q => absurd Y47 (by omega), fun p q => absurd Y47 (by omega)⟩)⟩
        · refine y_iconst rfl ?_
          refine y_goto rfl rfl ?_
          refine y_ireturn rfl rfl ?_
          exact ⟨hHT5, hFT5, _, rfl, ⟨by omega, by omega⟩, (by first | (have u := Y96; exact ⟨k96, fun q => absurd q (by omega), fun _ _ _ => ⟨by omega, Y96⟩, fun _ _ q => absurd (W77.symm.trans (by omega)) q⟩) | (have u := W77; exact ⟨K70, fun q => absurd q (by omega), fun _ _ q => absurd (W77.trans q) (by omega), fun _ _ _ => ⟨by omega, z70, M70⟩⟩) | exact ⟨k47, fun _ => ⟨by omega, Y47⟩, fun p q => absurd Y47 (by omega), fun p q => absurd Y47 (by omega)⟩)⟩
    · refine y_aload_n rfl rfl ?_
      refine y_gfr rfl rfl rfl rfl rfl (hHU1.r 899 0 876 rfl) ?_
      refine y_iconst rfl ?_
      refine y_iload_n rfl rfl ?_
      have w64 : Xi U1 876 8 = Xi S 876 8 := (show Xi U1 876 8 = Xi S 876 8 from by rw [eU1]; exact Xi_ne (by omega))
      have w65 : Xi U1 876 9 = Xi S 876 9 := (show Xi U1 876 9 = Xi S 876 9 from by rw [eU1]; exact Xi_ne (by omega))
      refine y_callV rfl rfl rfl (t_to_wrong__p hHU1 4 from_ ⟨by omega, by omega⟩ ⟨by omega, by omega⟩ _) ?_
      rintro _ T6 ⟨hHT6, w72, z71, rfl, w71, w69, f47, w70⟩
      have hFT6 : FR md_rr_tryOn__p S T6 := FR.tr hFU1 w72 rfl
      show Pl _ _ _ _ _ _ [iv z71] _ _
      have F47 := (by assumption : FR md_to_wrong__p U1 T6)
      have Y47 : FTO S T6 4 from_ := by have u := f47 (by omega); exact ⟨u.1, u.2.trans (pc7_FR hFU1 rfl rfl rfl _)⟩
      have k47 : KCL S T6 cl := kcl_f F47 rfl (kcl_w e13 KCL.rf)
      refine y_ireturn rfl (retI_z (by omega)) ?_
      exact ⟨hHT6, hFT6, _, rfl, ⟨by omega, by omega⟩, (by first | (have u := Y96; exact ⟨k96, fun q => absurd q (by omega), fun _ _ _ => ⟨by omega, Y96⟩, fun _ _ q => absurd (W77.symm.trans (by omega)) q⟩) | (have u := W77; exact ⟨K70, fun q => absurd q (by omega), fun _ _ q => absurd (W77.trans q) (by omega), fun _ _ _ => ⟨by omega, z70, M70⟩⟩) | exact ⟨k47, fun _ => ⟨by omega, Y47⟩, fun p q => absurd Y47 (by omega), fun p q => absurd Y47 (by omega)⟩)⟩
def md_rr_tryAlone__p : List rec := [(276, 876, 2, 3), (276, 876, 3, 4), (876, 877, 8, 9), (876, 877, 9, 10)]
abbrev Q_rr_tryAlone__p (S : sS) (from_ : Int) (to : Int) (cl : Nat) : pst := fun r S1 => RI S1 ∧ FR md_rr_tryAlone__p S S1 ∧ (∃ z : Int, r = some (iv z) ∧ (0 ≤ z ∧ z ≤ 1) ∧ (TAO S S1 cl from_ to z))
set_option maxRecDepth 100000 in
theorem t_rr_tryAlone__p {S : sS} (hH : RI S) (from_ : Int) (to : Int) (cl : Nat) (hfrom_ : 0 ≤ from_ ∧ from_ ≤ 5130) (hto : 0 ≤ to ∧ to ≤ 5130) (hcl : cl < 600) (h13 : 0 ≤ Xi S 1 3 ∧ Xi S 1 3 ≤ 200) (hCE : CEN S) (hf : Xi S 876 8 = 0) (hclm : Hid (CLM S cl 10 0 (-1) (-1) 0 0 (-1))) (d : Nat) : Mp lay0 (d + 3) m_rr_tryAlone [.ref 899, iv from_, iv to, .ref (276 + cl)] S (Q_rr_tryAlone__p S from_ to cl) := by
  refine Mp_R rfl rfl (fun fu => ?_)
  have hF : FR md_rr_tryAlone__p S S := FR.rf
  have w1 : -2147483648 ≤ Xi S 1 3 ∧ Xi S 1 3 ≤ 2147483647 := Xi_rgI
  have w2 : -2147483648 ≤ Xi S 876 8 ∧ Xi S 876 8 ≤ 2147483647 := Xi_rgI
  have C50 : ∀ (n50 : Nat) (_ : n50 ≤ fu) (T1 : sS) (_ : RI T1) (_ : FR md_rr_tryAlone__p S T1) (v4 : Int) (v6 : Int), (0 ≤ v4 ∧ v4 ≤ 5131) → (0 ≤ v6 ∧ v6 ≤ 5131) → (from_ + 1 ≤ v6 ∧ (v6 ≤ to ∨ v6 = from_ + 1)) → (0 ≤ v4 ∧ v4 ≤ v6 - from_) → (Xi T1 876 8 = 0) → (Hid (TAL S T1 cl from_ to v6 v4)) → Pl n50 lay0 (d + 2) m_rr_tryAlone 50 [(0, .ref 899), (1, iv from_), (2, iv to), (3, .ref (276 + cl)), (4, iv v4), (6, iv v6)] [] T1 (Q_rr_tryAlone__p S from_ to cl) := by
    intro n50
    induction n50 with
    | zero => intros; exact Pl_0
    | succ n50 ih50 =>
      intro hm50 T1 hHT1 hFT1 v4 v6 w3 w4 w5 w6 w7 T50
      have w8 : Xi T1 1 3 = Xi S 1 3 := hFT1.x _ _ rfl
      have w9 : -2147483648 ≤ Xi T1 876 8 ∧ Xi T1 876 8 ≤ 2147483647 := Xi_rgI
      refine ys_iload rfl rfl ?_
      refine y_iload_n rfl rfl ?_
      refine y_icmp_ge rfl rfl (by unfold rg; omega) (by unfold rg; omega) (fun w10 => ?_) (fun w11 => ?_)
      · refine y_iload rfl rfl ?_
        refine y_iconst rfl ?_
        refine y_icmp_eq rfl rfl (by unfold rg; omega) (by unfold rg; omega) (fun w12 => ?_) (fun w13 => ?_)
        · refine y_iconst rfl ?_
          refine y_goto rfl rfl ?_
          refine y_ireturn rfl rfl ?_
          exact ⟨hHT1, hFT1, _, rfl, ⟨by omega, by omega⟩, (by first | (have u := Y151; exact tao_n T50.o (by omega) (by omega) (by omega) (by first | (rw [if_pos (by omega)]; done) | (rw [if_neg (by omega)]; done) | (exfalso; omega)) k151 Y151) | exact tao_y T50.o (by omega) (by omega) (by omega) (by omega) hclm.o)⟩
        · refine y_aload_n rfl rfl ?_
          refine y_gfr rfl rfl rfl rfl rfl (hHT1.r 899 0 876 rfl) ?_
          refine y_iload rfl rfl ?_
          refine y_if_ne rfl rfl (by unfold rg; omega) (fun w14 => ?_) (fun w15 => ?_)
          · refine y_bipush rfl rfl ?_
            refine y_iload_n rfl rfl ?_
            refine y_callV rfl rfl rfl (t_to_wrong__p hHT1 7 from_ ⟨by omega, by omega⟩ ⟨by omega, by omega⟩ _) ?_
            rintro _ T2 ⟨hHT2, w19, z18, rfl, w18, w16, f151, w17⟩
            have hFT2 : FR md_rr_tryAlone__p S T2 := FR.tr hFT1 w19 rfl
            show Pl _ _ _ _ _ _ [iv z18] _ _
            have F151 := (by assumption : FR md_to_wrong__p T1 T2)
            have Y151 : FTO S T2 _ from_ := (by have u := f151 (by omega); exact ⟨u.1, u.2.trans (pc7_FR hFT1 rfl rfl rfl _)⟩)
            have k151 : KCL T1 T2 cl := kcl_f F151 rfl KCL.rf
            refine y_if_eq rfl rfl (by unfold rg; omega) (fun w20 => ?_) (fun w21 => ?_)
            · refine y_iconst rfl ?_
              refine y_ireturn rfl rfl ?_
              exact ⟨hHT2, hFT2, _, rfl, ⟨by omega, by omega⟩, (by first | (have u := Y151; exact tao_n T50.o (by omega) (by omega) (by omega) (by first | (rw [if_pos (by omega)]; done) | (rw [if_neg (by omega)]; done) | (exfalso; omega)) k151 Y151) | exact tao_y T50.o (by omega) (by omega) (by omega) (by omega) hclm.o)⟩
            · refine y_iconst rfl ?_
              refine y_goto rfl rfl ?_
              refine y_ireturn rfl rfl ?_
              exact ⟨hHT2, hFT2, _, rfl, ⟨by omega, by omega⟩, (by first | (have u := Y151; exact tao_n T50.o (by omega) (by omega) (by omega) (by first | (rw [if_pos (by omega)]; done) | (rw [if_neg (by omega)]; done) | (exfalso; omega)) k151 Y151) | exact tao_y T50.o (by omega) (by omega) (by omega) (by omega) hclm.o)⟩
          · refine y_iconst rfl ?_
            refine y_goto rfl rfl ?_
            refine y_iload_n rfl rfl ?_
            refine y_callV rfl rfl rfl (t_to_wrong__p hHT1 4 from_ ⟨by omega, by omega⟩ ⟨by omega, by omega⟩ _) ?_
            rintro _ T3 ⟨hHT3, w25, z24, rfl, w24, w22, f151, w23⟩
            have hFT3 : FR md_rr_tryAlone__p S T3 := FR.tr hFT1 w25 rfl
            show Pl _ _ _ _ _ _ [iv z24] _ _
            have F151 := (by assumption : FR md_to_wrong__p T1 T3)
            have Y151 : FTO S T3 _ from_ := (by have u := f151 (by omega); exact ⟨u.1, u.2.trans (pc7_FR hFT1 rfl rfl rfl _)⟩)
            have k151 : KCL T1 T3 cl := kcl_f F151 rfl KCL.rf
            refine y_if_eq rfl rfl (by unfold rg; omega) (fun w26 => ?_) (fun w27 => ?_)
            · refine y_iconst rfl ?_
              refine y_ireturn rfl rfl ?_
              exact ⟨hHT3, hFT3, _, rfl, ⟨by omega, by omega⟩, (by first | (have u := Y151; exact tao_n T50.o (by omega) (by omega) (by omega) (by first | (rw [if_pos (by omega)]; done) | (rw [if_neg (by omega)]; done) | (exfalso; omega)) k151 Y151) | exact tao_y T50.o (by omega) (by omega) (by omega) (by omega) hclm.o)⟩
            · refine y_iconst rfl ?_
              refine y_goto rfl rfl ?_
              refine y_ireturn rfl rfl ?_
              exact ⟨hHT3, hFT3, _, rfl, ⟨by omega, by omega⟩, (by first | (have u := Y151; exact tao_n T50.o (by omega) (by omega) (by omega) (by first | (rw [if_pos (by omega)]; done) | (rw [if_neg (by omega)]; done) | (exfalso; omega)) k151 Y151) | exact tao_y T50.o (by omega) (by omega) (by omega) (by omega) hclm.o)⟩
      · refine y_aload_n rfl rfl ?_
        refine y_gfr rfl rfl rfl rfl rfl (hHT1.r 899 2 895 rfl) ?_
        refine y_bipush rfl rfl ?_
        refine y_iload_n rfl rfl ?_
        refine y_iload rfl rfl ?_
        refine y_callV rfl rfl rfl (t_me_find__p hHT1 8 from_ v6 ⟨by omega, by omega⟩ ⟨by omega, by omega⟩ ⟨by omega, by omega⟩ (by first | assumption | omega) (by first | assumption | exact (CEN_FR hFT1 rfl rfl (by assumption : CEN S))) _) ?_
        rintro _ _ ⟨rfl, z28, rfl, w28, v65_⟩
        show Pl _ _ _ _ _ _ [iv z28] _ _
        have f65 : z28 = fnd S 8 from_ v6 := v65_.trans (fnd_FR hFT1 rfl)
        refine y_istore rfl rfl rfl ?_
        refine y_aload_n rfl rfl ?_
        refine y_gfr rfl rfl rfl rfl rfl (hHT1.r 899 2 895 rfl) ?_
        refine y_iconst rfl ?_
        refine y_iload rfl rfl ?_
        refine y_iload_n rfl rfl ?_
        refine y_callV rfl rfl rfl (t_me_find__p hHT1 2 v6 to ⟨by omega, by omega⟩ ⟨by omega, by omega⟩ ⟨by omega, by omega⟩ (by first | assumption | omega) (by first | assumption | exact (CEN_FR hFT1 rfl rfl (by assumption : CEN S))) _) ?_
        rintro _ _ ⟨rfl, z29, rfl, w29, v78_⟩
        show Pl _ _ _ _ _ _ [iv z29] _ _
        have f78 : z29 = fnd S 2 v6 to := v78_.trans (fnd_FR hFT1 rfl)
        refine y_istore rfl rfl rfl ?_
        refine y_iload rfl rfl ?_
        refine y_iconst rfl ?_
        refine y_icmp_eq rfl rfl (by unfold rg; omega) (by unfold rg; omega) (fun w30 => ?_) (fun w31 => ?_)
        · refine y_iinc rfl rfl rfl rfl ?_
          have T123 : Hid (TAL S T1 cl from_ to (v6 + 1) v4) := by first | (have u := T117; exact T117) | (have u := k104; exact tac_n T50.o (by omega) (fun q => by have := q.2.2; omega)) | exact tac_n T50.o (by omega) (fun q => q.2.1 (by rw [← f78]; omega)) | exact tac_n T50.o (by omega) (fun q => q.1 (by rw [← f65]; omega))
          have z123 : Xi T1 876 8 = 0 := by first | (have u := T117; exact z117) | omega
          refine y_goto rfl rfl ?_
          exact Pl_weak (ih50 (by omega) T1 hHT1 hFT1 (v4) ((v6 + 1)) (by omega) (by omega) (by omega) (by omega) (by omega) (by first | exact T123 | exact t48)) (by omega) (And.intro rfl (And.intro rfl (And.intro rfl (And.intro rfl (And.intro rfl (And.intro rfl (True.intro)))))))
        · refine y_iload rfl rfl ?_
          refine y_iconst rfl ?_
          refine y_icmp_eq rfl rfl (by unfold rg; omega) (by unfold rg; omega) (fun w32 => ?_) (fun w33 => ?_)
          · refine y_iinc rfl rfl rfl rfl ?_
            have T123 : Hid (TAL S T1 cl from_ to (v6 + 1) v4) := by first | (have u := T117; exact T117) | (have u := k104; exact tac_n T50.o (by omega) (fun q => by have := q.2.2; omega)) | exact tac_n T50.o (by omega) (fun q => q.2.1 (by rw [← f78]; omega)) | exact tac_n T50.o (by omega) (fun q => q.1 (by rw [← f65]; omega))
            have z123 : Xi T1 876 8 = 0 := by first | (have u := T117; exact z117) | omega
            refine y_goto rfl rfl ?_
            exact Pl_weak (ih50 (by omega) T1 hHT1 hFT1 (v4) ((v6 + 1)) (by omega) (by omega) (by omega) (by omega) (by omega) (by first | exact T123 | exact t48)) (by omega) (And.intro rfl (And.intro rfl (And.intro rfl (And.intro rfl (And.intro rfl (And.intro rfl (True.intro)))))))
          · refine y_aload_n rfl rfl ?_
            refine y_gfr rfl rfl rfl rfl rfl (hHT1.r 899 1 1 rfl) ?_
            refine y_gfr rfl rfl rfl rfl rfl (hHT1.r 1 18 19 rfl) ?_
            refine y_iload rfl rfl ?_
            refine y_ialoadP (n := 12) rfl rfl (by unfold rg; omega) (fun w34 w35 => ?_)
            have w36 : -2147483648 ≤ (Xi T1 19 ((z28).toNat)) ∧ (Xi T1 19 ((z28).toNat)) ≤ 2147483647 := Xi_rgI
            have k104 : Xi S 19 (fnd S 8 from_ v6).toNat = (Xi T1 19 ((z28).toNat)) := by rw [← f65]; exact (hFT1.cx 19 rfl _).1.symm
            refine y_if_lt rfl rfl (by unfold rg; omega) (fun w37 => ?_) (fun w38 => ?_)
            · refine y_iinc rfl rfl rfl rfl ?_
              have T123 : Hid (TAL S T1 cl from_ to (v6 + 1) v4) := by first | (have u := T117; exact T117) | (have u := k104; exact tac_n T50.o (by omega) (fun q => by have := q.2.2; omega)) | exact tac_n T50.o (by omega) (fun q => q.2.1 (by rw [← f78]; omega)) | exact tac_n T50.o (by omega) (fun q => q.1 (by rw [← f65]; omega))
              have z123 : Xi T1 876 8 = 0 := by first | (have u := T117; exact z117) | omega
              refine y_goto rfl rfl ?_
              exact Pl_weak (ih50 (by omega) T1 hHT1 hFT1 (v4) ((v6 + 1)) (by omega) (by omega) (by omega) (by omega) (by omega) (by first | exact T123 | exact t48)) (by omega) (And.intro rfl (And.intro rfl (And.intro rfl (And.intro rfl (And.intro rfl (And.intro rfl (True.intro)))))))
            · refine y_aload_n rfl rfl ?_
              refine y_iload rfl rfl ?_
              refine y_pfi rfl rfl (layClW (by omega) rfl) rfl ?_
              obtain ⟨U4, eU4⟩ : ∃ T : sS, T = uI T1 (276 + cl) 3 (Int32.ofInt z28) := ⟨_, rfl⟩
              rw [← eU4]
              have hHU4 : RI U4 := by rw [eU4]; exact RI_w hHT1
              have hFU4 : FR md_rr_tryAlone__p S U4 := by rw [eU4]; exact FR.wI hFT1 (mdf_i (r := (276, 876, 3, 4)) (List.mem_of_getElem? (i := 1) rfl) (inR_i (by omega) (by omega) (by omega) (by omega)))
              have w39 : Xi U4 (276 + cl) 3 = z28 := by rw [eU4]; exact Xi_same (by unfold rg; omega)
              have e111 := eU4
              refine y_aload_n rfl rfl ?_
              refine y_iload rfl rfl ?_
              refine y_pfi rfl rfl (layClW (by omega) rfl) rfl ?_
              obtain ⟨U5, eU5⟩ : ∃ T : sS, T = uI U4 (276 + cl) 2 (Int32.ofInt z29) := ⟨_, rfl⟩
              rw [← eU5]
              have hHU5 : RI U5 := by rw [eU5]; exact RI_w hHU4
              have hFU5 : FR md_rr_tryAlone__p S U5 := by rw [eU5]; exact FR.wI hFU4 (mdf_i (r := (276, 876, 2, 3)) (List.mem_of_getElem? (i := 0) rfl) (inR_i (by omega) (by omega) (by omega) (by omega)))
              have w40 : Xi U5 (276 + cl) 2 = z29 := by rw [eU5]; exact Xi_same (by unfold rg; omega)
              have e117 := eU5
              have T117 : Hid (TAL S U5 cl from_ to (v6 + 1) (v4 + 1)) := tac_y T50.o (by omega) ⟨by rw [← f65]; omega, by rw [← f78]; omega, by omega⟩ f65 f78 (by unfold rg; omega) (by unfold rg; omega) e111 e117
              have z117 : Xi U5 876 8 = 0 := by rw [e117, Xi_ne (by omega), e111, Xi_ne (by omega)]; omega
              refine y_iinc rfl rfl rfl rfl ?_
              refine y_iinc rfl rfl rfl rfl ?_
              have T123 : Hid (TAL S U5 cl from_ to (v6 + 1) (v4 + 1)) := by first | (have u := T117; exact T117) | (have u := k104; exact tac_n T50.o (by omega) (fun q => by have := q.2.2; omega)) | exact tac_n T50.o (by omega) (fun q => q.2.1 (by rw [← f78]; omega)) | exact tac_n T50.o (by omega) (fun q => q.1 (by rw [← f65]; omega))
              have z123 : Xi U5 876 8 = 0 := by first | (have u := T117; exact z117) | omega
              refine y_goto rfl rfl ?_
              have w41 : Xi U5 876 8 = Xi T1 876 8 := (show Xi U5 876 8 = Xi U4 876 8 from by rw [eU5]; exact Xi_ne (by omega)).trans ((show Xi U4 876 8 = Xi T1 876 8 from by rw [eU4]; exact Xi_ne (by omega)))
              exact Pl_weak (ih50 (by omega) U5 hHU5 hFU5 ((v4 + 1)) ((v6 + 1)) (by omega) (by omega) (by omega) (by omega) (by omega) (by first | exact T123 | exact t48)) (by omega) (And.intro rfl (And.intro rfl (And.intro rfl (And.intro rfl (And.intro rfl (And.intro rfl (True.intro)))))))
  refine y_iconst rfl ?_
  refine y_istore rfl rfl rfl ?_
  refine y_aload_n rfl rfl ?_
  refine y_gfr rfl rfl rfl rfl rfl (hH.r 899 2 895 rfl) ?_
  refine y_bipush rfl rfl ?_
  refine y_iload_n rfl rfl ?_
  refine y_iload_n rfl rfl ?_
  refine y_callV rfl rfl rfl (t_me_find__p hH 8 from_ to ⟨by omega, by omega⟩ ⟨by omega, by omega⟩ ⟨by omega, by omega⟩ (by first | assumption | omega) (by first | assumption | exact (CEN_FR hF rfl rfl (by assumption : CEN S))) _) ?_
  rintro _ _ ⟨rfl, z42, rfl, w42, v11⟩
  show Pl _ _ _ _ _ _ [iv z42] _ _
  refine y_istore rfl rfl rfl ?_
  refine y_iload rfl rfl ?_
  refine y_iconst rfl ?_
  refine y_icmp_eq rfl rfl (by unfold rg; omega) (by unfold rg; omega) (fun w43 => ?_) (fun w44 => ?_)
  · refine y_iload_n rfl rfl ?_
    refine y_iconst rfl ?_
    refine y_iadd rfl ?_
    refine y_istore rfl rfl rfl ?_
    have t48 : Hid (TAL S S cl from_ to (from_ + 1) 0) := by first | (have u := e39; exact tac_1 rfl hclm.o.2.2.1 (by rw [← v11]; unfold rg; omega) ⟨by rw [← v11]; omega, by omega⟩ e39) | (have u := k31; exact tac_0 rfl hclm.o.2.2.1 hclm.o.2.2.2.1 (fun q => by have := q.2; omega)) | exact tac_0 rfl hclm.o.2.2.1 hclm.o.2.2.2.1 (fun q => q.1 (by rw [← v11]; omega))
    have z48 : Xi S 876 8 = 0 := by first | (have u := e39; rw [e39, Xi_ne (by omega)]; exact hf) | exact hf
    exact Pl_weak (C50 fu (by omega) S hH hF (0) ((from_ + 1)) (by omega) (by omega) (by omega) (by omega) (by omega) (by first | exact T123 | exact t48)) (by omega) (And.intro rfl (And.intro rfl (And.intro rfl (And.intro rfl (And.intro rfl (And.intro rfl (True.intro)))))))
  · refine y_aload_n rfl rfl ?_
    refine y_gfr rfl rfl rfl rfl rfl (hH.r 899 1 1 rfl) ?_
    refine y_gfr rfl rfl rfl rfl rfl (hH.r 1 18 19 rfl) ?_
    refine y_iload rfl rfl ?_
    refine y_ialoadP (n := 12) rfl rfl (by unfold rg; omega) (fun w45 w46 => ?_)
    have w47 : -2147483648 ≤ (Xi S 19 ((z42).toNat)) ∧ (Xi S 19 ((z42).toNat)) ≤ 2147483647 := Xi_rgI
    have k31 : Xi S 19 (fnd S 8 from_ to).toNat = (Xi S 19 ((z42).toNat)) := by rw [← v11]
    refine y_iconst rfl ?_
    refine y_icmp_ne rfl rfl (by unfold rg; omega) (by unfold rg; omega) (fun w48 => ?_) (fun w49 => ?_)
    · refine y_iload_n rfl rfl ?_
      refine y_iconst rfl ?_
      refine y_iadd rfl ?_
      refine y_istore rfl rfl rfl ?_
      have t48 : Hid (TAL S S cl from_ to (from_ + 1) 0) := by first | (have u := e39; exact tac_1 rfl hclm.o.2.2.1 (by rw [← v11]; unfold rg; omega) ⟨by rw [← v11]; omega, by omega⟩ e39) | (have u := k31; exact tac_0 rfl hclm.o.2.2.1 hclm.o.2.2.2.1 (fun q => by have := q.2; omega)) | exact tac_0 rfl hclm.o.2.2.1 hclm.o.2.2.2.1 (fun q => q.1 (by rw [← v11]; omega))
      have z48 : Xi S 876 8 = 0 := by first | (have u := e39; rw [e39, Xi_ne (by omega)]; exact hf) | exact hf
      exact Pl_weak (C50 fu (by omega) S hH hF (0) ((from_ + 1)) (by omega) (by omega) (by omega) (by omega) (by omega) (by first | exact T123 | exact t48)) (by omega) (And.intro rfl (And.intro rfl (And.intro rfl (And.intro rfl (And.intro rfl (And.intro rfl (True.intro)))))))
    · refine y_aload_n rfl rfl ?_
      refine y_iload rfl rfl ?_
      refine y_pfi rfl rfl (layClW (by omega) rfl) rfl ?_
      obtain ⟨U6, eU6⟩ : ∃ T : sS, T = uI S (276 + cl) 3 (Int32.ofInt z42) := ⟨_, rfl⟩
      rw [← eU6]
      have hHU6 : RI U6 := by rw [eU6]; exact RI_w hH
      have hFU6 : FR md_rr_tryAlone__p S U6 := by rw [eU6]; exact FR.wI hF (mdf_i (r := (276, 876, 3, 4)) (List.mem_of_getElem? (i := 1) rfl) (inR_i (by omega) (by omega) (by omega) (by omega)))
      have w50 : Xi U6 (276 + cl) 3 = z42 := by rw [eU6]; exact Xi_same (by unfold rg; omega)
      have e39 : U6 = uI S (276 + cl) 3 (Int32.ofInt (fnd S 8 from_ to)) := by rw [← v11]; exact eU6
      refine y_iinc rfl rfl rfl rfl ?_
      refine y_iload_n rfl rfl ?_
      refine y_iconst rfl ?_
      refine y_iadd rfl ?_
      refine y_istore rfl rfl rfl ?_
      have t48 : Hid (TAL S U6 cl from_ to (from_ + 1) (0 + 1)) := by first | (have u := e39; exact tac_1 rfl hclm.o.2.2.1 (by rw [← v11]; unfold rg; omega) ⟨by rw [← v11]; omega, by omega⟩ e39) | (have u := k31; exact tac_0 rfl hclm.o.2.2.1 hclm.o.2.2.2.1 (fun q => by have := q.2; omega)) | exact tac_0 rfl hclm.o.2.2.1 hclm.o.2.2.2.1 (fun q => q.1 (by rw [← v11]; omega))
      have z48 : Xi U6 876 8 = 0 := by first | (have u := e39; rw [e39, Xi_ne (by omega)]; exact hf) | exact hf
      have w51 : Xi U6 876 8 = Xi S 876 8 := (show Xi U6 876 8 = Xi S 876 8 from by rw [eU6]; exact Xi_ne (by omega))
      exact Pl_weak (C50 fu (by omega) U6 hHU6 hFU6 ((0 + 1)) ((from_ + 1)) (by omega) (by omega) (by omega) (by omega) (by omega) (by first | exact T123 | exact t48)) (by omega) (And.intro rfl (And.intro rfl (And.intro rfl (And.intro rfl (And.intro rfl (And.intro rfl (True.intro)))))))
def md_rr_otherPhrase__p : List rec := [(276, 876, 0, 1), (276, 876, 2, 3), (276, 876, 3, 4), (276, 876, 4, 5), (276, 876, 6, 7), (876, 877, 8, 9), (876, 877, 9, 10), (895, 896, 5, 6), (895, 896, 6, 7), (895, 896, 7, 8)]
abbrev Q_rr_otherPhrase__p (S : sS) (key : Int) (from_ : Int) (to : Int) (cl : Nat) : pst := fun r S1 => RI S1 ∧ FR md_rr_otherPhrase__p S S1 ∧ (∃ z : Int, r = some (iv z) ∧ (0 ≤ z ∧ z ≤ 1) ∧ (OPO S S1 cl key from_ to z))
set_option maxRecDepth 100000 in
theorem t_rr_otherPhrase__p {S : sS} (hH : RI S) (key : Int) (from_ : Int) (to : Int) (cl : Nat) (hkey : 0 ≤ key ∧ key ≤ 108) (hfrom_ : 0 ≤ from_ ∧ from_ ≤ 5129) (hto : 0 ≤ to ∧ to ≤ 5130) (hcl : cl < 600) (h13 : 0 ≤ Xi S 1 3 ∧ Xi S 1 3 ≤ 200) (hCE : CEN S) (hf : Xi S 876 8 = 0) (hr : Xi S 876 7 ≤ 5130) (h7 : 0 ≤ Xi S 876 7) (hwe : Hid (key = 45 → wheC S from_ to ≤ 5139)) (hvl : Hid (key = 46 ∨ key = 47 → 0 ≤ to - 1 ∧ to - 1 < Xi S 876 7 ∧ 0 ≤ Xj S 879 (to - 1).toNat ∧ Xj S 879 (to - 1).toNat ≤ 2147483647)) (hclm : Hid (CLM S cl 11 0 (-1) (-1) 0 0 (-1))) (d : Nat) : Mp lay0 (d + 4) m_rr_otherPhrase [.ref 899, iv key, iv from_, iv to, .ref (276 + cl)] S (Q_rr_otherPhrase__p S key from_ to cl) := by
  refine Mp_R rfl rfl (fun fu => ?_)
  have hF : FR md_rr_otherPhrase__p S S := FR.rf
  have w1 : -2147483648 ≤ Xi S 1 3 ∧ Xi S 1 3 ≤ 2147483647 := Xi_rgI
  have w2 : -2147483648 ≤ Xi S 876 7 ∧ Xi S 876 7 ≤ 2147483647 := Xi_rgI
  have w3 : -2147483648 ≤ Xi S 876 8 ∧ Xi S 876 8 ≤ 2147483647 := Xi_rgI
  refine y_iload_n rfl rfl ?_
  refine y_tsw rfl rfl rfl rfl (by unfold rg; omega) (fun w4 => ?_) (fun ii tt hii w4 => ?_)
  · refine y_iconst rfl ?_
    refine y_ireturn rfl rfl ?_
    exact ⟨hH, hF, _, rfl, ⟨by omega, by omega⟩, (by first | (have u := K41; exact ⟨fun _ => o41, fun q => absurd q (by omega), fun q => absurd q (by omega), fun q => absurd (by omega) q⟩) | (have u := K96; exact ⟨fun q => absurd q (by omega), fun _ => A96, fun q => absurd q (by omega), fun _ p q => absurd (show key = 46 ∨ key = 47 by omega) (by omega)⟩) | (first | (have T144 := T128; exact ⟨fun q => absurd q (by omega), fun q => absurd q (by omega), fun _ => T144, fun _ _ _ q => absurd (by omega) q⟩) | (have T144 := T141; exact ⟨fun q => absurd q (by omega), fun q => absurd q (by omega), fun _ => T144, fun _ _ _ q => absurd (by omega) q⟩)) | exact ⟨fun q => absurd q (by omega), fun q => absurd q (by omega), fun q => absurd q (by omega), fun _ _ _ _ => ⟨rfl, rfl⟩⟩)⟩
  · match ii, hii with
    | 0, hii =>
      cases hii
      have w5 : key = 45 := by simpa using w4
      refine y_aload_n rfl rfl ?_
      refine y_iload_n rfl rfl ?_
      refine y_iload_n rfl rfl ?_
      refine y_aload rfl rfl ?_
      refine y_callV rfl rfl rfl (t_rr_movePhrase__p hH from_ to cl ⟨by omega, by omega⟩ ⟨by omega, by omega⟩ (by omega) (by first | assumption | omega) (by first | assumption | exact (CEN_FR hF rfl rfl (by assumption : CEN S))) (by first | assumption | omega) (by first | assumption | omega) (hwe.o (by omega)) (⟨11, hclm.o⟩) _) ?_
      rintro _ T1 ⟨hHT1, w7, z6, rfl, w6, o41⟩
      have hFT1 : FR md_rr_otherPhrase__p S T1 := FR.tr hF w7 rfl
      show Pl _ _ _ _ _ _ [iv z6] _ _
      have K41 : True := trivial
      refine y_ireturn rfl (retI_z (by omega)) ?_
      exact ⟨hHT1, hFT1, _, rfl, ⟨by omega, by omega⟩, (by first | (have u := K41; exact ⟨fun _ => o41, fun q => absurd q (by omega), fun q => absurd q (by omega), fun q => absurd (by omega) q⟩) | (have u := K96; exact ⟨fun q => absurd q (by omega), fun _ => A96, fun q => absurd q (by omega), fun _ p q => absurd (show key = 46 ∨ key = 47 by omega) (by omega)⟩) | (first | (have T144 := T128; exact ⟨fun q => absurd q (by omega), fun q => absurd q (by omega), fun _ => T144, fun _ _ _ q => absurd (by omega) q⟩) | (have T144 := T141; exact ⟨fun q => absurd q (by omega), fun q => absurd q (by omega), fun _ => T144, fun _ _ _ q => absurd (by omega) q⟩)) | exact ⟨fun q => absurd q (by omega), fun q => absurd q (by omega), fun q => absurd q (by omega), fun _ _ _ _ => ⟨rfl, rfl⟩⟩)⟩
    | 1, hii =>
      cases hii
      have w9 : key = 46 := by simpa using w4
      refine y_aload rfl rfl ?_
      refine y_bipush rfl rfl ?_
      refine y_pfi rfl rfl (layClW (by omega) rfl) rfl ?_
      obtain ⟨U2, eU2⟩ : ∃ T : sS, T = uI S (276 + cl) 0 (Int32.ofInt 9) := ⟨_, rfl⟩
      rw [← eU2]
      have hHU2 : RI U2 := by rw [eU2]; exact RI_w hH
      have hFU2 : FR md_rr_otherPhrase__p S U2 := by rw [eU2]; exact FR.wI hF (mdf_i (r := (276, 876, 0, 1)) (List.mem_of_getElem? (i := 0) rfl) (inR_i (by omega) (by omega) (by omega) (by omega)))
      have w10 : Xi U2 (276 + cl) 0 = 9 := by rw [eU2]; exact Xi_same (by unfold rg; omega)
      have e49 := eU2
      have V49 := hvl.o (by omega)
      refine y_aload rfl rfl ?_
      refine y_aload_n rfl rfl ?_
      refine y_gfr rfl rfl rfl rfl rfl (hHU2.r 899 0 876 rfl) ?_
      refine y_iload_n rfl rfl ?_
      refine y_iconst rfl ?_
      refine y_isub rfl ?_
      have w11 : Xi U2 876 7 = Xi S 876 7 := (show Xi U2 876 7 = Xi S 876 7 from by rw [eU2]; exact Xi_ne (by omega))
      have w12 : Xi U2 876 8 = Xi S 876 8 := (show Xi U2 876 8 = Xi S 876 8 from by rw [eU2]; exact Xi_ne (by omega))
      refine y_callV rfl rfl rfl (t_to_valueAt__p hHU2 (to - 1) ⟨by omega, by omega⟩ _) ?_
      rintro _ _ ⟨rfl, z13, rfl, w13, p61⟩
      show Pl _ _ _ _ _ _ [iv z13, .ref (276 + cl)] _ _
      have v61 : z13 = Xj S 879 (to - 1).toNat := by have u := p61 (by omega) (by omega); rw [show Xj U2 879 (to - 1).toNat = Xj S 879 (to - 1).toNat by rw [e49]; rfl] at u; exact u V49.2.2.1 V49.2.2.2
      refine y_iload_n rfl rfl ?_
      refine y_bipush rfl rfl ?_
      refine y_icmp_ne rfl rfl (by unfold rg; omega) (by unfold rg; omega) (fun w14 => ?_) (fun w15 => ?_)
      · refine y_iconst rfl ?_
        refine y_imul rfl ?_
        refine y_pfi rfl rfl (layClW (by omega) rfl) rfl ?_
        obtain ⟨U3, eU3⟩ : ∃ T : sS, T = uI U2 (276 + cl) 4 (Int32.ofInt (z13 * (-1))) := ⟨_, rfl⟩
        rw [← eU3]
        have hHU3 : RI U3 := by rw [eU3]; exact RI_w hHU2
        have hFU3 : FR md_rr_otherPhrase__p S U3 := by rw [eU3]; exact FR.wI hFU2 (mdf_i (r := (276, 876, 4, 5)) (List.mem_of_getElem? (i := 3) rfl) (inR_i (by omega) (by omega) (by omega) (by omega)))
        have w16 : Xi U3 (276 + cl) 4 = (z13 * (-1)) := by rw [eU3]; exact Xi_same (by unfold rg; omega)
        have e76 := eU3
        have E76 : U3 = uI (uI S (276 + cl) 0 (Int32.ofInt 9)) (276 + cl) 4 (Int32.ofInt (Xj S 879 (to - 1).toNat * (if key = 46 then 1 else -1))) := by rw [← v61, ← e49]; first | (rw [if_pos (by omega)]; exact e76) | (rw [if_neg (by omega)]; exact e76)
        refine y_aload_n rfl rfl ?_
        refine y_iload_n rfl rfl ?_
        refine y_iconst rfl ?_
        refine y_iadd rfl ?_
        refine y_aload_n rfl rfl ?_
        refine y_gfr rfl rfl rfl rfl rfl (hHU3.r 899 0 876 rfl) ?_
        refine y_iload_n rfl rfl ?_
        refine y_iconst rfl ?_
        refine y_iadd rfl ?_
        have w17 : Xi U3 876 7 = Xi S 876 7 := (show Xi U3 876 7 = Xi U2 876 7 from by rw [eU3]; exact Xi_ne (by omega)).trans ((show Xi U2 876 7 = Xi S 876 7 from by rw [eU2]; exact Xi_ne (by omega)))
        refine y_callV rfl rfl rfl (t_to_runEnd__p hHU3 (from_ + 1) ⟨by omega, by omega⟩ _) ?_
        rintro _ _ ⟨rfl, z21, rfl, w21, w19, w20⟩
        show Pl _ _ _ _ _ _ [iv z21, iv (from_ + 1), .ref 899] _ _
        have gq90 := w19
        rw [FRT hFU3 rfl rfl] at gq90
        try rw [show Xi U3 890 1 = Xi S 890 1 by omega] at gq90
        clear w19
        refine y_iconst rfl ?_
        refine y_aload rfl rfl ?_
        have w22 : Xi U3 1 3 = Xi S 1 3 := (show Xi U3 1 3 = Xi U2 1 3 from by rw [eU3]; exact Xi_ne (by omega)).trans ((show Xi U2 1 3 = Xi S 1 3 from by rw [eU2]; exact Xi_ne (by omega)))
        refine y_callV rfl rfl rfl (t_rr_propertyOfThing__p hHU3 (from_ + 1) z21 1 cl ⟨by omega, by omega⟩ ⟨by omega, by omega⟩ ⟨by omega, by omega⟩ (by omega) (by first | assumption | omega) (by first | assumption | exact (CEN_FR hFU3 rfl rfl (by assumption : CEN S))) (by first | assumption | omega) (by first | assumption | omega) _) ?_
        rintro _ T4 ⟨hHT4, w26, z25, rfl, w25, o96⟩
        have hFT4 : FR md_rr_otherPhrase__p S T4 := FR.tr hFU3 w26 rfl
        show Pl _ _ _ _ _ _ [iv z25] _ _
        have K96 : True := trivial
        have F96 := (by assumption : FR md_rr_propertyOfThing__p U3 T4)
        have A96 : ADO S T4 cl key from_ to z25 := ⟨_, E76, (by rw [gq90]; have u := o96; rw [show Xi U3 876 7 = Xi S 876 7 by omega] at u; exact u), F96⟩
        refine y_ireturn rfl (retI_z (by omega)) ?_
        exact ⟨hHT4, hFT4, _, rfl, ⟨by omega, by omega⟩, (by first | (have u := K41; exact ⟨fun _ => o41, fun q => absurd q (by omega), fun q => absurd q (by omega), fun q => absurd (by omega) q⟩) | (have u := K96; exact ⟨fun q => absurd q (by omega), fun _ => A96, fun q => absurd q (by omega), fun _ p q => absurd (show key = 46 ∨ key = 47 by omega) (by omega)⟩) | (first | (have T144 := T128; exact ⟨fun q => absurd q (by omega), fun q => absurd q (by omega), fun _ => T144, fun _ _ _ q => absurd (by omega) q⟩) | (have T144 := T141; exact ⟨fun q => absurd q (by omega), fun q => absurd q (by omega), fun _ => T144, fun _ _ _ q => absurd (by omega) q⟩)) | exact ⟨fun q => absurd q (by omega), fun q => absurd q (by omega), fun q => absurd q (by omega), fun _ _ _ _ => ⟨rfl, rfl⟩⟩)⟩
      · refine y_iconst rfl ?_
        refine y_goto rfl rfl ?_
        refine y_imul rfl ?_
        refine y_pfi rfl rfl (layClW (by omega) rfl) rfl ?_
        obtain ⟨U5, eU5⟩ : ∃ T : sS, T = uI U2 (276 + cl) 4 (Int32.ofInt (z13 * 1)) := ⟨_, rfl⟩
        rw [← eU5]
        have hHU5 : RI U5 := by rw [eU5]; exact RI_w hHU2
        have hFU5 : FR md_rr_otherPhrase__p S U5 := by rw [eU5]; exact FR.wI hFU2 (mdf_i (r := (276, 876, 4, 5)) (List.mem_of_getElem? (i := 3) rfl) (inR_i (by omega) (by omega) (by omega) (by omega)))
        have w28 : Xi U5 (276 + cl) 4 = (z13 * 1) := by rw [eU5]; exact Xi_same (by unfold rg; omega)
        have e76 := eU5
        have E76 : U5 = uI (uI S (276 + cl) 0 (Int32.ofInt 9)) (276 + cl) 4 (Int32.ofInt (Xj S 879 (to - 1).toNat * (if key = 46 then 1 else -1))) := by rw [← v61, ← e49]; first | (rw [if_pos (by omega)]; exact e76) | (rw [if_neg (by omega)]; exact e76)
        refine y_aload_n rfl rfl ?_
        refine y_iload_n rfl rfl ?_
        refine y_iconst rfl ?_
        refine y_iadd rfl ?_
        refine y_aload_n rfl rfl ?_
        refine y_gfr rfl rfl rfl rfl rfl (hHU5.r 899 0 876 rfl) ?_
        refine y_iload_n rfl rfl ?_
        refine y_iconst rfl ?_
        refine y_iadd rfl ?_
        have w29 : Xi U5 876 7 = Xi S 876 7 := (show Xi U5 876 7 = Xi U2 876 7 from by rw [eU5]; exact Xi_ne (by omega)).trans ((show Xi U2 876 7 = Xi S 876 7 from by rw [eU2]; exact Xi_ne (by omega)))
        refine y_callV rfl rfl rfl (t_to_runEnd__p hHU5 (from_ + 1) ⟨by omega, by omega⟩ _) ?_
        rintro _ _ ⟨rfl, z33, rfl, w33, w31, w32⟩
        show Pl _ _ _ _ _ _ [iv z33, iv (from_ + 1), .ref 899] _ _
        have gq90 := w31
        rw [FRT hFU5 rfl rfl] at gq90
        try rw [show Xi U5 890 1 = Xi S 890 1 by omega] at gq90
        clear w31
        refine y_iconst rfl ?_
        refine y_aload rfl rfl ?_
        have w34 : Xi U5 1 3 = Xi S 1 3 := (show Xi U5 1 3 = Xi U2 1 3 from by rw [eU5]; exact Xi_ne (by omega)).trans ((show Xi U2 1 3 = Xi S 1 3 from by rw [eU2]; exact Xi_ne (by omega)))
        refine y_callV rfl rfl rfl (t_rr_propertyOfThing__p hHU5 (from_ + 1) z33 1 cl ⟨by omega, by omega⟩ ⟨by omega, by omega⟩ ⟨by omega, by omega⟩ (by omega) (by first | assumption | omega) (by first | assumption | exact (CEN_FR hFU5 rfl rfl (by assumption : CEN S))) (by first | assumption | omega) (by first | assumption | omega) _) ?_
        rintro _ T6 ⟨hHT6, w38, z37, rfl, w37, o96⟩
        have hFT6 : FR md_rr_otherPhrase__p S T6 := FR.tr hFU5 w38 rfl
        show Pl _ _ _ _ _ _ [iv z37] _ _
        have K96 : True := trivial
        have F96 := (by assumption : FR md_rr_propertyOfThing__p U5 T6)
        have A96 : ADO S T6 cl key from_ to z37 := ⟨_, E76, (by rw [gq90]; have u := o96; rw [show Xi U5 876 7 = Xi S 876 7 by omega] at u; exact u), F96⟩
        refine y_ireturn rfl (retI_z (by omega)) ?_
        exact ⟨hHT6, hFT6, _, rfl, ⟨by omega, by omega⟩, (by first | (have u := K41; exact ⟨fun _ => o41, fun q => absurd q (by omega), fun q => absurd q (by omega), fun q => absurd (by omega) q⟩) | (have u := K96; exact ⟨fun q => absurd q (by omega), fun _ => A96, fun q => absurd q (by omega), fun _ p q => absurd (show key = 46 ∨ key = 47 by omega) (by omega)⟩) | (first | (have T144 := T128; exact ⟨fun q => absurd q (by omega), fun q => absurd q (by omega), fun _ => T144, fun _ _ _ q => absurd (by omega) q⟩) | (have T144 := T141; exact ⟨fun q => absurd q (by omega), fun q => absurd q (by omega), fun _ => T144, fun _ _ _ q => absurd (by omega) q⟩)) | exact ⟨fun q => absurd q (by omega), fun q => absurd q (by omega), fun q => absurd q (by omega), fun _ _ _ _ => ⟨rfl, rfl⟩⟩)⟩
    | 2, hii =>
      cases hii
      have w40 : key = 47 := by simpa using w4
      refine y_aload rfl rfl ?_
      refine y_bipush rfl rfl ?_
      refine y_pfi rfl rfl (layClW (by omega) rfl) rfl ?_
      obtain ⟨U7, eU7⟩ : ∃ T : sS, T = uI S (276 + cl) 0 (Int32.ofInt 9) := ⟨_, rfl⟩
      rw [← eU7]
      have hHU7 : RI U7 := by rw [eU7]; exact RI_w hH
      have hFU7 : FR md_rr_otherPhrase__p S U7 := by rw [eU7]; exact FR.wI hF (mdf_i (r := (276, 876, 0, 1)) (List.mem_of_getElem? (i := 0) rfl) (inR_i (by omega) (by omega) (by omega) (by omega)))
      have w41 : Xi U7 (276 + cl) 0 = 9 := by rw [eU7]; exact Xi_same (by unfold rg; omega)
      have e49 := eU7
      have V49 := hvl.o (by omega)
      refine y_aload rfl rfl ?_
      refine y_aload_n rfl rfl ?_
      refine y_gfr rfl rfl rfl rfl rfl (hHU7.r 899 0 876 rfl) ?_
      refine y_iload_n rfl rfl ?_
      refine y_iconst rfl ?_
      refine y_isub rfl ?_
      have w42 : Xi U7 876 7 = Xi S 876 7 := (show Xi U7 876 7 = Xi S 876 7 from by rw [eU7]; exact Xi_ne (by omega))
      have w43 : Xi U7 876 8 = Xi S 876 8 := (show Xi U7 876 8 = Xi S 876 8 from by rw [eU7]; exact Xi_ne (by omega))
      refine y_callV rfl rfl rfl (t_to_valueAt__p hHU7 (to - 1) ⟨by omega, by omega⟩ _) ?_
      rintro _ _ ⟨rfl, z44, rfl, w44, p61⟩
      show Pl _ _ _ _ _ _ [iv z44, .ref (276 + cl)] _ _
      have v61 : z44 = Xj S 879 (to - 1).toNat := by have u := p61 (by omega) (by omega); rw [show Xj U7 879 (to - 1).toNat = Xj S 879 (to - 1).toNat by rw [e49]; rfl] at u; exact u V49.2.2.1 V49.2.2.2
      refine y_iload_n rfl rfl ?_
      refine y_bipush rfl rfl ?_
      refine y_icmp_ne rfl rfl (by unfold rg; omega) (by unfold rg; omega) (fun w45 => ?_) (fun w46 => ?_)
      · refine y_iconst rfl ?_
        refine y_imul rfl ?_
        refine y_pfi rfl rfl (layClW (by omega) rfl) rfl ?_
        obtain ⟨U8, eU8⟩ : ∃ T : sS, T = uI U7 (276 + cl) 4 (Int32.ofInt (z44 * (-1))) := ⟨_, rfl⟩
        rw [← eU8]
        have hHU8 : RI U8 := by rw [eU8]; exact RI_w hHU7
        have hFU8 : FR md_rr_otherPhrase__p S U8 := by rw [eU8]; exact FR.wI hFU7 (mdf_i (r := (276, 876, 4, 5)) (List.mem_of_getElem? (i := 3) rfl) (inR_i (by omega) (by omega) (by omega) (by omega)))
        have w47 : Xi U8 (276 + cl) 4 = (z44 * (-1)) := by rw [eU8]; exact Xi_same (by unfold rg; omega)
        have e76 := eU8
        have E76 : U8 = uI (uI S (276 + cl) 0 (Int32.ofInt 9)) (276 + cl) 4 (Int32.ofInt (Xj S 879 (to - 1).toNat * (if key = 46 then 1 else -1))) := by rw [← v61, ← e49]; first | (rw [if_pos (by omega)]; exact e76) | (rw [if_neg (by omega)]; exact e76)
        refine y_aload_n rfl rfl ?_
        refine y_iload_n rfl rfl ?_
        refine y_iconst rfl ?_
        refine y_iadd rfl ?_
        refine y_aload_n rfl rfl ?_
        refine y_gfr rfl rfl rfl rfl rfl (hHU8.r 899 0 876 rfl) ?_
        refine y_iload_n rfl rfl ?_
        refine y_iconst rfl ?_
        refine y_iadd rfl ?_
        have w48 : Xi U8 876 7 = Xi S 876 7 := (show Xi U8 876 7 = Xi U7 876 7 from by rw [eU8]; exact Xi_ne (by omega)).trans ((show Xi U7 876 7 = Xi S 876 7 from by rw [eU7]; exact Xi_ne (by omega)))
        refine y_callV rfl rfl rfl (t_to_runEnd__p hHU8 (from_ + 1) ⟨by omega, by omega⟩ _) ?_
        rintro _ _ ⟨rfl, z52, rfl, w52, w50, w51⟩
        show Pl _ _ _ _ _ _ [iv z52, iv (from_ + 1), .ref 899] _ _
        have gq90 := w50
        rw [FRT hFU8 rfl rfl] at gq90
        try rw [show Xi U8 890 1 = Xi S 890 1 by omega] at gq90
        clear w50
        refine y_iconst rfl ?_
        refine y_aload rfl rfl ?_
        have w53 : Xi U8 1 3 = Xi S 1 3 := (show Xi U8 1 3 = Xi U7 1 3 from by rw [eU8]; exact Xi_ne (by omega)).trans ((show Xi U7 1 3 = Xi S 1 3 from by rw [eU7]; exact Xi_ne (by omega)))
        refine y_callV rfl rfl rfl (t_rr_propertyOfThing__p hHU8 (from_ + 1) z52 1 cl ⟨by omega, by omega⟩ ⟨by omega, by omega⟩ ⟨by omega, by omega⟩ (by omega) (by first | assumption | omega) (by first | assumption | exact (CEN_FR hFU8 rfl rfl (by assumption : CEN S))) (by first | assumption | omega) (by first | assumption | omega) _) ?_
        rintro _ T9 ⟨hHT9, w57, z56, rfl, w56, o96⟩
        have hFT9 : FR md_rr_otherPhrase__p S T9 := FR.tr hFU8 w57 rfl
        show Pl _ _ _ _ _ _ [iv z56] _ _
        have K96 : True := trivial
        have F96 := (by assumption : FR md_rr_propertyOfThing__p U8 T9)
        have A96 : ADO S T9 cl key from_ to z56 := ⟨_, E76, (by rw [gq90]; have u := o96; rw [show Xi U8 876 7 = Xi S 876 7 by omega] at u; exact u), F96⟩
        refine y_ireturn rfl (retI_z (by omega)) ?_
        exact ⟨hHT9, hFT9, _, rfl, ⟨by omega, by omega⟩, (by first | (have u := K41; exact ⟨fun _ => o41, fun q => absurd q (by omega), fun q => absurd q (by omega), fun q => absurd (by omega) q⟩) | (have u := K96; exact ⟨fun q => absurd q (by omega), fun _ => A96, fun q => absurd q (by omega), fun _ p q => absurd (show key = 46 ∨ key = 47 by omega) (by omega)⟩) | (first | (have T144 := T128; exact ⟨fun q => absurd q (by omega), fun q => absurd q (by omega), fun _ => T144, fun _ _ _ q => absurd (by omega) q⟩) | (have T144 := T141; exact ⟨fun q => absurd q (by omega), fun q => absurd q (by omega), fun _ => T144, fun _ _ _ q => absurd (by omega) q⟩)) | exact ⟨fun q => absurd q (by omega), fun q => absurd q (by omega), fun q => absurd q (by omega), fun _ _ _ _ => ⟨rfl, rfl⟩⟩)⟩
      · refine y_iconst rfl ?_
        refine y_goto rfl rfl ?_
        refine y_imul rfl ?_
        refine y_pfi rfl rfl (layClW (by omega) rfl) rfl ?_
        obtain ⟨U10, eU10⟩ : ∃ T : sS, T = uI U7 (276 + cl) 4 (Int32.ofInt (z44 * 1)) := ⟨_, rfl⟩
        rw [← eU10]
        have hHU10 : RI U10 := by rw [eU10]; exact RI_w hHU7
        have hFU10 : FR md_rr_otherPhrase__p S U10 := by rw [eU10]; exact FR.wI hFU7 (mdf_i (r := (276, 876, 4, 5)) (List.mem_of_getElem? (i := 3) rfl) (inR_i (by omega) (by omega) (by omega) (by omega)))
        have w59 : Xi U10 (276 + cl) 4 = (z44 * 1) := by rw [eU10]; exact Xi_same (by unfold rg; omega)
        have e76 := eU10
        have E76 : U10 = uI (uI S (276 + cl) 0 (Int32.ofInt 9)) (276 + cl) 4 (Int32.ofInt (Xj S 879 (to - 1).toNat * (if key = 46 then 1 else -1))) := by rw [← v61, ← e49]; first | (rw [if_pos (by omega)]; exact e76) | (rw [if_neg (by omega)]; exact e76)
        refine y_aload_n rfl rfl ?_
        refine y_iload_n rfl rfl ?_
        refine y_iconst rfl ?_
        refine y_iadd rfl ?_
        refine y_aload_n rfl rfl ?_
        refine y_gfr rfl rfl rfl rfl rfl (hHU10.r 899 0 876 rfl) ?_
        refine y_iload_n rfl rfl ?_
        refine y_iconst rfl ?_
        refine y_iadd rfl ?_
        have w60 : Xi U10 876 7 = Xi S 876 7 := (show Xi U10 876 7 = Xi U7 876 7 from by rw [eU10]; exact Xi_ne (by omega)).trans ((show Xi U7 876 7 = Xi S 876 7 from by rw [eU7]; exact Xi_ne (by omega)))
        refine y_callV rfl rfl rfl (t_to_runEnd__p hHU10 (from_ + 1) ⟨by omega, by omega⟩ _) ?_
        rintro _ _ ⟨rfl, z64, rfl, w64, w62, w63⟩
        show Pl _ _ _ _ _ _ [iv z64, iv (from_ + 1), .ref 899] _ _
        have gq90 := w62
        rw [FRT hFU10 rfl rfl] at gq90
        try rw [show Xi U10 890 1 = Xi S 890 1 by omega] at gq90
        clear w62
        refine y_iconst rfl ?_
        refine y_aload rfl rfl ?_
        have w65 : Xi U10 1 3 = Xi S 1 3 := (show Xi U10 1 3 = Xi U7 1 3 from by rw [eU10]; exact Xi_ne (by omega)).trans ((show Xi U7 1 3 = Xi S 1 3 from by rw [eU7]; exact Xi_ne (by omega)))
        refine y_callV rfl rfl rfl (t_rr_propertyOfThing__p hHU10 (from_ + 1) z64 1 cl ⟨by omega, by omega⟩ ⟨by omega, by omega⟩ ⟨by omega, by omega⟩ (by omega) (by first | assumption | omega) (by first | assumption | exact (CEN_FR hFU10 rfl rfl (by assumption : CEN S))) (by first | assumption | omega) (by first | assumption | omega) _) ?_
        rintro _ T11 ⟨hHT11, w69, z68, rfl, w68, o96⟩
        have hFT11 : FR md_rr_otherPhrase__p S T11 := FR.tr hFU10 w69 rfl
        show Pl _ _ _ _ _ _ [iv z68] _ _
        have K96 : True := trivial
        have F96 := (by assumption : FR md_rr_propertyOfThing__p U10 T11)
        have A96 : ADO S T11 cl key from_ to z68 := ⟨_, E76, (by rw [gq90]; have u := o96; rw [show Xi U10 876 7 = Xi S 876 7 by omega] at u; exact u), F96⟩
        refine y_ireturn rfl (retI_z (by omega)) ?_
        exact ⟨hHT11, hFT11, _, rfl, ⟨by omega, by omega⟩, (by first | (have u := K41; exact ⟨fun _ => o41, fun q => absurd q (by omega), fun q => absurd q (by omega), fun q => absurd (by omega) q⟩) | (have u := K96; exact ⟨fun q => absurd q (by omega), fun _ => A96, fun q => absurd q (by omega), fun _ p q => absurd (show key = 46 ∨ key = 47 by omega) (by omega)⟩) | (first | (have T144 := T128; exact ⟨fun q => absurd q (by omega), fun q => absurd q (by omega), fun _ => T144, fun _ _ _ q => absurd (by omega) q⟩) | (have T144 := T141; exact ⟨fun q => absurd q (by omega), fun q => absurd q (by omega), fun _ => T144, fun _ _ _ q => absurd (by omega) q⟩)) | exact ⟨fun q => absurd q (by omega), fun q => absurd q (by omega), fun q => absurd q (by omega), fun _ _ _ _ => ⟨rfl, rfl⟩⟩)⟩
    | 3, hii =>
      cases hii
      have w71 : key = 48 := by simpa using w4
      refine y_iconst rfl ?_
      refine y_ireturn rfl rfl ?_
      exact ⟨hH, hF, _, rfl, ⟨by omega, by omega⟩, (by first | (have u := K41; exact ⟨fun _ => o41, fun q => absurd q (by omega), fun q => absurd q (by omega), fun q => absurd (by omega) q⟩) | (have u := K96; exact ⟨fun q => absurd q (by omega), fun _ => A96, fun q => absurd q (by omega), fun _ p q => absurd (show key = 46 ∨ key = 47 by omega) (by omega)⟩) | (first | (have T144 := T128; exact ⟨fun q => absurd q (by omega), fun q => absurd q (by omega), fun _ => T144, fun _ _ _ q => absurd (by omega) q⟩) | (have T144 := T141; exact ⟨fun q => absurd q (by omega), fun q => absurd q (by omega), fun _ => T144, fun _ _ _ q => absurd (by omega) q⟩)) | exact ⟨fun q => absurd q (by omega), fun q => absurd q (by omega), fun q => absurd q (by omega), fun _ _ _ _ => ⟨rfl, rfl⟩⟩)⟩
    | 4, hii =>
      cases hii
      have w72 : key = 49 := by simpa using w4
      refine y_aload rfl rfl ?_
      refine y_bipush rfl rfl ?_
      refine y_pfi rfl rfl (layClW (by omega) rfl) rfl ?_
      obtain ⟨U12, eU12⟩ : ∃ T : sS, T = uI S (276 + cl) 0 (Int32.ofInt 10) := ⟨_, rfl⟩
      rw [← eU12]
      have hHU12 : RI U12 := by rw [eU12]; exact RI_w hH
      have hFU12 : FR md_rr_otherPhrase__p S U12 := by rw [eU12]; exact FR.wI hF (mdf_i (r := (276, 876, 0, 1)) (List.mem_of_getElem? (i := 0) rfl) (inR_i (by omega) (by omega) (by omega) (by omega)))
      have w73 : Xi U12 (276 + cl) 0 = 10 := by rw [eU12]; exact Xi_same (by unfold rg; omega)
      have e104 := eU12
      have C104 : CLM U12 cl 10 0 (-1) (-1) 0 0 (-1) := by have cc := hclm.o; exact ⟨by rw [e104]; exact Xi_same (by unfold rg; omega), by rw [e104, Xi_ne (by omega)]; exact cc.2.1, by rw [e104, Xi_ne (by omega)]; exact cc.2.2.1, by rw [e104, Xi_ne (by omega)]; exact cc.2.2.2.1, by rw [e104, Xi_ne (by omega)]; exact cc.2.2.2.2.1, by rw [e104, Xi_ne (by omega)]; exact cc.2.2.2.2.2.1, by rw [e104, Xi_ne (by omega)]; exact cc.2.2.2.2.2.2⟩
      refine y_aload_n rfl rfl ?_
      refine y_gfr rfl rfl rfl rfl rfl (hHU12.r 899 0 876 rfl) ?_
      refine y_iload_n rfl rfl ?_
      have w74 : Xi U12 876 7 = Xi S 876 7 := (show Xi U12 876 7 = Xi S 876 7 from by rw [eU12]; exact Xi_ne (by omega))
      refine y_callV rfl rfl rfl (t_to_runEnd__p hHU12 from_ ⟨by omega, by omega⟩ _) ?_
      rintro _ _ ⟨rfl, z78, rfl, w78, w76, w77⟩
      show Pl _ _ _ _ _ _ [iv z78] _ _
      have gq112 := w76
      rw [FRT hFU12 rfl rfl] at gq112
      try rw [show Xi U12 890 1 = Xi S 890 1 by omega] at gq112
      clear w76
      refine y_istore rfl rfl rfl ?_
      refine y_iload rfl rfl ?_
      refine y_iload_n rfl rfl ?_
      refine y_icmp_ne rfl rfl (by unfold rg; omega) (by unfold rg; omega) (fun w79 => ?_) (fun w80 => ?_)
      · refine y_aload_n rfl rfl ?_
        refine y_iload_n rfl rfl ?_
        refine y_iload rfl rfl ?_
        refine y_iload_n rfl rfl ?_
        refine y_aload rfl rfl ?_
        have w81 : Xi U12 1 3 = Xi S 1 3 := (show Xi U12 1 3 = Xi S 1 3 from by rw [eU12]; exact Xi_ne (by omega))
        have w83 : Xi U12 876 8 = Xi S 876 8 := (show Xi U12 876 8 = Xi S 876 8 from by rw [eU12]; exact Xi_ne (by omega))
        refine y_callV rfl rfl rfl (t_rr_tryOn__p hHU12 from_ z78 to cl ⟨by omega, by omega⟩ ⟨by omega, by omega⟩ ⟨by omega, by omega⟩ (by omega) (by first | assumption | omega) (by first | assumption | exact (CEN_FR hFU12 rfl rfl (by assumption : CEN S))) (by first | assumption | omega) (by first | assumption | omega) (C104) _) ?_
        rintro _ T13 ⟨hHT13, w85, z84, rfl, w84, o141⟩
        have hFT13 : FR md_rr_otherPhrase__p S T13 := FR.tr hFU12 w85 rfl
        show Pl _ _ _ _ _ _ [iv z84] _ _
        have T141 : TRO S T13 cl from_ to z84 := ⟨_, e104, fun q => absurd (gq112.symm.trans q) (by omega), fun _ => by rw [gq112]; exact o141⟩
        refine y_ireturn rfl (retI_z (by omega)) ?_
        exact ⟨hHT13, hFT13, _, rfl, ⟨by omega, by omega⟩, (by first | (have u := K41; exact ⟨fun _ => o41, fun q => absurd q (by omega), fun q => absurd q (by omega), fun q => absurd (by omega) q⟩) | (have u := K96; exact ⟨fun q => absurd q (by omega), fun _ => A96, fun q => absurd q (by omega), fun _ p q => absurd (show key = 46 ∨ key = 47 by omega) (by omega)⟩) | (first | (have T144 := T128; exact ⟨fun q => absurd q (by omega), fun q => absurd q (by omega), fun _ => T144, fun _ _ _ q => absurd (by omega) q⟩) | (have T144 := T141; exact ⟨fun q => absurd q (by omega), fun q => absurd q (by omega), fun _ => T144, fun _ _ _ q => absurd (by omega) q⟩)) | exact ⟨fun q => absurd q (by omega), fun q => absurd q (by omega), fun q => absurd q (by omega), fun _ _ _ _ => ⟨rfl, rfl⟩⟩)⟩
      · refine y_aload_n rfl rfl ?_
        refine y_iload_n rfl rfl ?_
        refine y_iload_n rfl rfl ?_
        refine y_aload rfl rfl ?_
        have w87 : Xi U12 1 3 = Xi S 1 3 := (show Xi U12 1 3 = Xi S 1 3 from by rw [eU12]; exact Xi_ne (by omega))
        have w89 : Xi U12 876 8 = Xi S 876 8 := (show Xi U12 876 8 = Xi S 876 8 from by rw [eU12]; exact Xi_ne (by omega))
        refine y_callV rfl rfl rfl (t_rr_tryAlone__p hHU12 from_ to cl ⟨by omega, by omega⟩ ⟨by omega, by omega⟩ (by omega) (by first | assumption | omega) (by first | assumption | exact (CEN_FR hFU12 rfl rfl (by assumption : CEN S))) (by first | assumption | omega) (C104) _) ?_
        rintro _ T14 ⟨hHT14, w91, z90, rfl, w90, o128⟩
        have hFT14 : FR md_rr_otherPhrase__p S T14 := FR.tr hFU12 w91 rfl
        show Pl _ _ _ _ _ _ [iv z90] _ _
        have T128 : TRO S T14 cl from_ to z90 := ⟨_, e104, fun _ => o128, fun q => absurd (gq112.trans (by omega)) q⟩
        refine y_goto rfl rfl ?_
        refine y_ireturn rfl (retI_z (by omega)) ?_
        exact ⟨hHT14, hFT14, _, rfl, ⟨by omega, by omega⟩, (by first | (have u := K41; exact ⟨fun _ => o41, fun q => absurd q (by omega), fun q => absurd q (by omega), fun q => absurd (by omega) q⟩) | (have u := K96; exact ⟨fun q => absurd q (by omega), fun _ => A96, fun q => absurd q (by omega), fun _ p q => absurd (show key = 46 ∨ key = 47 by omega) (by omega)⟩) | (first | (have T144 := T128; exact ⟨fun q => absurd q (by omega), fun q => absurd q (by omega), fun _ => T144, fun _ _ _ q => absurd (by omega) q⟩) | (have T144 := T141; exact ⟨fun q => absurd q (by omega), fun q => absurd q (by omega), fun _ => T144, fun _ _ _ q => absurd (by omega) q⟩)) | exact ⟨fun q => absurd q (by omega), fun q => absurd q (by omega), fun q => absurd q (by omega), fun _ _ _ _ => ⟨rfl, rfl⟩⟩)⟩
    | n + 5, hii => exact absurd hii (by simp)
end
section
/-! rules of the class: the words in [ ] -/
theorem ky7_r7 {K : Nat → Int} {c : Int} : 0 ≤ ky7 K c 100 ∧ ky7 K c 100 ≤ 100 := by
  unfold ky7
  have u := kyF_r (K := K) (c := c) (df := 100) 55 0 (Int.le_refl 0)
  omega
def PLH (S T : sS) : Prop := (∀ j : Nat, 0 ≤ Xi S 878 j) → ∀ j : Nat, 0 ≤ Xi T 878 j
theorem PLH.rf {S : sS} : PLH S S := fun h => h
theorem PLH.tr {S T U : sS} (a : PLH S T) (b : PLH T U) : PLH S U := fun h => b (a h)
theorem plh_o {S T : sS} {k i : Nat} {v : Int} (e : T = uI S k i (Int32.ofInt v)) (hk : k ≠ 878 := by decide) : PLH S T := fun h j => by rw [e, Xi_ne (by omega)]; exact h j
theorem plh_of {S U1 U2 U3 U4 : sS} {a b : Nat} {ty pl v x : Int} (e1 : U1 = uI S 877 a (Int32.ofInt ty)) (e2 : U2 = uI U1 878 a (Int32.ofInt pl)) (e3 : U3 = uJ U2 879 a (Int64.ofInt v)) (e4 : U4 = uI U3 876 b (Int32.ofInt x)) (h : 0 ≤ pl ∧ pl ≤ 5000) : PLH S U4 := fun w j => by
  rw [e4, Xi_ne (by omega), e3, Xi_J, e2]
  by_cases q : j = a
  · subst q; rw [Xi_same ⟨by omega, by omega⟩]; exact h.1
  · rw [Xi_ne (by omega), e1, Xi_ne (by omega)]; exact w j
def WLp (B : Nat → Int) (to : Int) : Int → List (Int × Int) → Int → Prop
  | a, [], p => a ≤ p ∧ p ≤ to ∧ ∀ q : Int, a ≤ q → q < p → B q.toNat = 32
  | a, (s, e) :: L, p => (a ≤ s ∧ s < to ∧ ∀ q : Int, a ≤ q → q < s → B q.toNat = 32) ∧ B s.toNat ≠ 32 ∧ e = we7 B to s ∧ e ≠ s ∧ e - s ≤ 12 ∧ WLp B to e L p
theorem wl_b {B : Nat → Int} {to : Int} : ∀ (L : List (Int × Int)) {a p : Int}, WLp B to a L p → p < to → B p.toNat = 32 → WLp B to a L (p + 1)
  | [], a, p, h, hp, hb => ⟨by have := h.1; omega, by omega, fun q x y => by
      by_cases c : q = p
      · rw [c]; exact hb
      · exact h.2.2 q x (by omega)⟩
  | (s, e) :: L, a, p, h, hp, hb => ⟨h.1, h.2.1, h.2.2.1, h.2.2.2.1, h.2.2.2.2.1, wl_b L h.2.2.2.2.2 hp hb⟩
theorem wl_w {B : Nat → Int} {to e : Int} : ∀ (L : List (Int × Int)) {a p : Int}, WLp B to a L p → p < to → B p.toNat ≠ 32 → e = we7 B to p → e ≠ p → e - p ≤ 12 → e ≤ to → WLp B to a (L ++ [(p, e)]) e
  | [], a, p, h, hp, hb, he, hn, h12, ht => ⟨⟨h.1, hp, h.2.2⟩, hb, he, hn, h12, Int.le_refl _, ht, fun q x y => absurd x (by omega)⟩
  | (s, f) :: L, a, p, h, hp, hb, he, hn, h12, ht => ⟨h.1, h.2.1, h.2.2.1, h.2.2.2.1, h.2.2.2.2.1, wl_w L h.2.2.2.2.2 hp hb he hn h12 ht⟩
def icd (S : sS) (ts : Nat) (x : Int × Int) : Int := c27 (Xi S ts) x.1.toNat (x.2 - x.1).toNat
def IRW (S T : sS) (ts : Nat) (L : List (Int × Int)) : Prop := ∀ i : Nat, i < L.length → Xi T 877 ((Xi S 876 6).toNat + i) = ky7 (Xj S 880) (icd S ts (L.getD i (0, 0))) 100 ∧ Xi T 878 ((Xi S 876 6).toNat + i) = (L.getD i (0, 0)).1 ∧ Xj T 879 ((Xi S 876 6).toNat + i) = icd S ts (L.getD i (0, 0))
def ILC (S T : sS) (ts : Nat) (a to p : Int) : Prop := ∃ L : List (Int × Int), WLp (Xi S ts) to a L p ∧ IRW S T ts L ∧ KR S T (Xi S 876 6) ∧ Xi T 876 7 = Xi S 876 6 + L.length ∧ (L.length : Int) ≤ p - a
def TIO (S S1 : sS) (ts : Nat) (a to z : Int) : Prop := KR S S1 (Xi S 876 6) ∧ (Xi S 876 6 ≤ Xi S1 876 7 ∧ Xi S1 876 7 ≤ Xi S 876 6 + (to - a) + 1) ∧
  (z = -1 → ∃ (L : List (Int × Int)) (p : Int), WLp (Xi S ts) to a L p ∧ p < to ∧ Xi S ts p.toNat ≠ 32 ∧ (we7 (Xi S ts) to p = p ∨ 12 < we7 (Xi S ts) to p - p)) ∧
  (z ≠ -1 → z = Xi S 876 6 ∧ ∃ L : List (Int × Int), WLp (Xi S ts) to a L to ∧ IRW S S1 ts L ∧ Xi S1 876 7 = Xi S 876 6 + L.length + 1 ∧ Xi S1 877 ((Xi S 876 6).toNat + L.length) = 107 ∧ Xi S1 878 ((Xi S 876 6).toNat + L.length) = to ∧ Xj S1 879 ((Xi S 876 6).toNat + L.length) = 0)
theorem ilc_0 {S T : sS} {ts : Nat} {a to : Int} (h : a ≤ to) (e : T = uI S 876 7 (Int32.ofInt (Xi S 876 6))) (hr : rg (Xi S 876 6)) : ILC S T ts a to a :=
  ⟨[], ⟨Int.le_refl _, h, fun q x y => absurd x (by omega)⟩, fun i hi => absurd hi (Nat.not_lt_zero _), fun r _ => ⟨by rw [e, Xi_ne (by omega)], by rw [e, Xi_ne (by omega)], by rw [e]; rfl⟩, by rw [e, Xi_same hr]; simp, by simp⟩
theorem ilc_b {S T : sS} {ts : Nat} {a to p : Int} (h : ILC S T ts a to p) (hp : p < to) (hb : Xi S ts p.toNat = 32) : ILC S T ts a to (p + 1) := by
  obtain ⟨L, h1, h2, h3, h4, h5⟩ := h
  exact ⟨L, wl_b L h1 hp hb, h2, h3, h4, by omega⟩
theorem irw_k {S T U : sS} {ts : Nat} {L : List (Int × Int)} (h0 : 0 ≤ Xi S 876 6) (h : IRW S T ts L) (h4 : Xi T 876 7 = Xi S 876 6 + L.length) (k : KR T U (Xi T 876 7)) : IRW S U ts L := fun i hi => by
  obtain ⟨a, b, c⟩ := h i hi
  obtain ⟨x, y, z⟩ := k ((Xi S 876 6).toNat + i) (by omega)
  exact ⟨x.trans a, y.trans b, z.trans c⟩
theorem ilc_w {S T U : sS} {ts : Nat} {a to p e k c : Int} (h : ILC S T ts a to p) (h0 : 0 ≤ Xi S 876 6) (hp : p < to) (hb : Xi S ts p.toNat ≠ 32) (he : e = we7 (Xi S ts) to p) (hn : e ≠ p) (h12 : e - p ≤ 12) (ht : e ≤ to) (hlt : p < e) (hk : k = ky7 (Xj S 880) c 100) (hc : c = c27 (Xi S ts) p.toNat (e - p).toNat) (n : NT T U k p c) (kr : KR T U (Xi T 876 7)) (r : Xi U 876 7 = Xi T 876 7 + 1) : ILC S U ts a to e := by
  obtain ⟨L, h1, h2, h3, h4, h5⟩ := h
  refine ⟨L ++ [(p, e)], wl_w L h1 hp hb he hn h12 ht, fun i hi => ?_, KR.tr h3 kr (by omega), by rw [r, h4]; simp; omega, by simp; omega⟩
  by_cases q : i < L.length
  · have u := irw_k h0 h2 h4 kr i q
    have g : (L ++ [(p, e)]).getD i (0, 0) = L.getD i (0, 0) := by simp [List.getD_eq_getElem?_getD, List.getElem?_append_left q]
    rw [g]
    exact u
  · have e1 : i = L.length := by simp at hi; omega
    have e2 : (L ++ [(p, e)]).getD i (0, 0) = (p, e) := by rw [e1]; simp
    rw [e2]
    obtain ⟨n1, n2, n3⟩ := n
    have e3 : (Xi T 876 7).toNat = (Xi S 876 6).toNat + i := by omega
    rw [e3] at n1 n2 n3
    exact ⟨n1.trans (by rw [hk, hc]; rfl), n2, n3.trans hc⟩
theorem tio_x {S T : sS} {ts : Nat} {a to p z : Int} (h : ILC S T ts a to p) (hp : p < to) (hb : Xi S ts p.toNat ≠ 32) (hw : we7 (Xi S ts) to p = p ∨ 12 < we7 (Xi S ts) to p - p) (hz : z = -1) : TIO S T ts a to z := by
  obtain ⟨L, h1, h2, h3, h4, h5⟩ := h
  exact ⟨h3, by omega, fun _ => ⟨L, p, h1, hp, hb, hw⟩, fun q => absurd hz q⟩
theorem tio_z {S T U : sS} {ts : Nat} {a to p z : Int} (h : ILC S T ts a to p) (h0 : 0 ≤ Xi S 876 6) (hp : p = to) (n : NT T U 107 to 0) (kr : KR T U (Xi T 876 7)) (r : Xi U 876 7 = Xi T 876 7 + 1) (hz : z = Xi S 876 6) : TIO S U ts a to z := by
  obtain ⟨L, h1, h2, h3, h4, h5⟩ := h
  subst hp
  obtain ⟨n1, n2, n3⟩ := n
  have e3 : (Xi T 876 7).toNat = (Xi S 876 6).toNat + L.length := by omega
  rw [e3] at n1 n2 n3
  exact ⟨KR.tr h3 kr (by omega), by omega, fun q => absurd q (by omega), fun _ => ⟨hz, L, h1, irw_k h0 h2 h4 kr, by omega, n1, n2, n3⟩⟩
def IAO (S S1 : sS) (thing prop : Int) : Prop := (Xi S 246 8 < 1666 → S1 = uI (uI (uI S 274 (Xi S 246 8).toNat (Int32.ofInt thing)) 275 (Xi S 246 8).toNat (Int32.ofInt prop)) 246 8 (Int32.ofInt (Xi S 246 8 + 1))) ∧ (1666 ≤ Xi S 246 8 → S1 = S)

def md_to_note__p : List rec := [(876, 877, 7, 8), (877, 878, 0, 100000), (878, 879, 0, 100000), (879, 880, 0, 100000)]
abbrev Q_to_note__p (S : sS) (ty : Int) (pl : Int) (v : Int) : pst := fun r S1 => RI S1 ∧ FR md_to_note__p S S1 ∧ (r = none ∧ (NT S S1 ty pl v) ∧ (KR S S1 (Xi S 876 7)) ∧ (Xi S1 876 7 = Xi S 876 7 + 1) ∧ (PLH S S1))
set_option maxRecDepth 100000 in
theorem t_to_note__p {S : sS} (hH : RI S) (ty : Int) (pl : Int) (v : Int) (hty : 0 ≤ ty ∧ ty ≤ 108) (hpl : 0 ≤ pl ∧ pl ≤ 5000) (hrw : 0 ≤ Xi S 876 7 ∧ Xi S 876 7 < 5130) (hvr : rgL v) (d : Nat) : Mp lay0 (d + 1) m_to_note [.ref 876, iv ty, iv pl, jw v] S (Q_to_note__p S ty pl v) := by
  refine Mp_R rfl rfl (fun fu => ?_)
  have hF : FR md_to_note__p S S := FR.rf
  have w1 : -2147483648 ≤ Xi S 876 7 ∧ Xi S 876 7 ≤ 2147483647 := Xi_rgI
  refine y_aload_n rfl rfl ?_
  refine y_gfi rfl rfl rfl rfl rfl ?_
  refine y_sipush rfl rfl ?_
  refine y_icmp_ge rfl rfl (by unfold rg; omega) (by unfold rg; omega) (fun w2 => ?_) (fun w3 => ?_)
  · refine y_return rfl rfl ?_
    exact ⟨hH, hF, rfl, (by first | (exfalso; omega) | exact (nt_of (by omega) (by omega) eU1 eU2 eU3 eU4 hty hpl hvr).1), (by first | (exfalso; omega) | exact (nt_of (by omega) (by omega) eU1 eU2 eU3 eU4 hty hpl hvr).2), (by omega), (by first | (exfalso; omega) | exact plh_of eU1 eU2 eU3 eU4 hpl)⟩
  · refine y_aload_n rfl rfl ?_
    refine y_gfr rfl rfl rfl rfl rfl (hH.r 876 0 877 rfl) ?_
    refine y_aload_n rfl rfl ?_
    refine y_gfi rfl rfl rfl rfl rfl ?_
    refine y_iload_n rfl rfl ?_
    refine y_iastoreP (n := 5130) rfl rfl (by unfold rg; omega) (fun w4 w5 => ?_)
    obtain ⟨U1, eU1⟩ : ∃ T : sS, T = uI S 877 (((Xi S 876 7)).toNat) (Int32.ofInt ty) := ⟨_, rfl⟩
    rw [← eU1]
    have hHU1 : RI U1 := by rw [eU1]; exact RI_w hH
    have hFU1 : FR md_to_note__p S U1 := by rw [eU1]; exact FR.wI hF (mdf_i (r := (877, 878, 0, 100000)) (List.mem_of_getElem? (i := 1) rfl) (inR_i (by omega) (by omega) (by omega) (by omega)))
    have w6 : Xi U1 877 (((Xi S 876 7)).toNat) = ty := by rw [eU1]; exact Xi_same (by unfold rg; omega)
    refine y_aload_n rfl rfl ?_
    refine y_gfr rfl rfl rfl rfl rfl (hHU1.r 876 1 878 rfl) ?_
    refine y_aload_n rfl rfl ?_
    refine y_gfi rfl rfl rfl rfl rfl ?_
    have w7 : (Xi U1 876 7) = (Xi S 876 7) := (show Xi U1 876 7 = Xi S 876 7 from by rw [eU1]; exact Xi_ne (by omega))
    rw [w7]
    refine y_iload_n rfl rfl ?_
    refine y_iastoreP (n := 5130) rfl rfl (by unfold rg; omega) (fun w8 w9 => ?_)
    obtain ⟨U2, eU2⟩ : ∃ T : sS, T = uI U1 878 (((Xi S 876 7)).toNat) (Int32.ofInt pl) := ⟨_, rfl⟩
    rw [← eU2]
    have hHU2 : RI U2 := by rw [eU2]; exact RI_w hHU1
    have hFU2 : FR md_to_note__p S U2 := by rw [eU2]; exact FR.wI hFU1 (mdf_i (r := (878, 879, 0, 100000)) (List.mem_of_getElem? (i := 2) rfl) (inR_i (by omega) (by omega) (by omega) (by omega)))
    have w10 : Xi U2 878 (((Xi S 876 7)).toNat) = pl := by rw [eU2]; exact Xi_same (by unfold rg; omega)
    refine y_aload_n rfl rfl ?_
    refine y_gfr rfl rfl rfl rfl rfl (hHU2.r 876 2 879 rfl) ?_
    refine y_aload_n rfl rfl ?_
    refine y_gfi rfl rfl rfl rfl rfl ?_
    have w11 : (Xi U2 876 7) = (Xi S 876 7) := (show Xi U2 876 7 = Xi U1 876 7 from by rw [eU2]; exact Xi_ne (by omega)).trans ((show Xi U1 876 7 = Xi S 876 7 from by rw [eU1]; exact Xi_ne (by omega)))
    rw [w11]
    refine y_lload_n rfl rfl ?_
    refine y_lastoreP (n := 5130) rfl rfl (by unfold rg; omega) (fun w12 w13 => ?_)
    obtain ⟨U3, eU3⟩ : ∃ T : sS, T = uJ U2 879 (((Xi S 876 7)).toNat) (Int64.ofInt v) := ⟨_, rfl⟩
    rw [← eU3]
    have hHU3 : RI U3 := by rw [eU3]; exact RI_J hHU2
    have hFU3 : FR md_to_note__p S U3 := by rw [eU3]; exact FR.wJ hFU2 (mdf_i (r := (879, 880, 0, 100000)) (List.mem_of_getElem? (i := 3) rfl) (inR_i (by omega) (by omega) (by omega) (by omega)))
    refine y_aload_n rfl rfl ?_
    refine y_dup rfl rfl ?_
    refine y_gfi rfl rfl rfl rfl rfl ?_
    have w14 : (Xi U3 876 7) = (Xi S 876 7) := (show Xi U3 876 7 = Xi U2 876 7 from by rw [eU3]; rfl).trans ( (show Xi U2 876 7 = Xi U1 876 7 from by rw [eU2]; exact Xi_ne (by omega)).trans ((show Xi U1 876 7 = Xi S 876 7 from by rw [eU1]; exact Xi_ne (by omega))))
    rw [w14]
    refine y_iconst rfl ?_
    refine y_iadd rfl ?_
    refine y_pfi rfl rfl rfl rfl ?_
    obtain ⟨U4, eU4⟩ : ∃ T : sS, T = uI U3 876 7 (Int32.ofInt ((Xi S 876 7) + 1)) := ⟨_, rfl⟩
    rw [← eU4]
    have hHU4 : RI U4 := by rw [eU4]; exact RI_w hHU3
    have hFU4 : FR md_to_note__p S U4 := by rw [eU4]; exact FR.wI hFU3 (mdf_i (r := (876, 877, 7, 8)) (List.mem_of_getElem? (i := 0) rfl) (inR_i (by omega) (by omega) (by omega) (by omega)))
    have w15 : Xi U4 876 7 = ((Xi S 876 7) + 1) := by rw [eU4]; exact Xi_same (by unfold rg; omega)
    refine y_return rfl rfl ?_
    exact ⟨hHU4, hFU4, rfl, (by first | (exfalso; omega) | exact (nt_of (by omega) (by omega) eU1 eU2 eU3 eU4 hty hpl hvr).1), (by first | (exfalso; omega) | exact (nt_of (by omega) (by omega) eU1 eU2 eU3 eU4 hty hpl hvr).2), (by omega), (by first | (exfalso; omega) | exact plh_of eU1 eU2 eU3 eU4 hpl)⟩
def md_to_scanWord__p : List rec := [(876, 877, 7, 8), (877, 878, 0, 100000), (878, 879, 0, 100000), (879, 880, 0, 100000)]
abbrev Q_to_scanWord__p (S : sS) (ts : Nat) (from_ : Int) (limit : Int) : pst := fun r S1 => RI S1 ∧ FR md_to_scanWord__p S S1 ∧ (∃ z : Int, r = some (iv z) ∧ (-2147483648 ≤ z ∧ z ≤ 2147483647) ∧ (z = (if we7 (Xi S ts) limit from_ = from_ ∨ 12 < we7 (Xi S ts) limit from_ - from_ then -1 else we7 (Xi S ts) limit from_)) ∧ (z ≠ -1 → from_ < z ∧ z ≤ limit ∧ NT S S1 (ky7 (Xj S 880) (c27 (Xi S ts) from_.toNat (z - from_).toNat) 100) from_ (c27 (Xi S ts) from_.toNat (z - from_).toNat) ∧ Xi S1 876 7 = Xi S 876 7 + 1) ∧ (KR S S1 (Xi S 876 7)) ∧ (z = -1 → S1 = S) ∧ (PLH S S1))
set_option maxRecDepth 100000 in
theorem t_to_scanWord__p {S : sS} (hH : RI S) (ts : Nat) (from_ : Int) (limit : Int) (hfrom_ : 0 ≤ from_ ∧ from_ ≤ 5000) (hlimit : 0 ≤ limit ∧ limit ≤ 5000) (hts : S.2.2 876 4 = some ts) (htp : tp ts) (hby : BYT S ts) (hrw : 0 ≤ Xi S 876 7 ∧ Xi S 876 7 < 5130) (d : Nat) : Mp lay0 (d + 2) m_to_scanWord [.ref 876, iv from_, iv limit] S (Q_to_scanWord__p S ts from_ limit) := by
  refine Mp_R rfl rfl (fun fu => ?_)
  have hF : FR md_to_scanWord__p S S := FR.rf
  have w1 : -2147483648 ≤ Xi S 876 7 ∧ Xi S 876 7 ≤ 2147483647 := Xi_rgI
  have C5 : ∀ (n5 : Nat) (_ : n5 ≤ fu) (v3 : Int) (v5 : Int), (0 ≤ v5 ∧ v5 ≤ 5000) → (from_ ≤ v5 ∧ (v5 ≤ limit ∨ v5 = from_)) → (v3 = c27 (Xi S ts) from_.toNat (m12 (v5 - from_))) → (we7 (Xi S ts) limit from_ = we7 (Xi S ts) limit v5) → Pl n5 lay0 (d + 1) m_to_scanWord 5 [(0, .ref 876), (1, iv from_), (2, iv limit), (3, jw v3), (5, iv v5)] [] S (Q_to_scanWord__p S ts from_ limit) := by
    intro n5
    induction n5 with
    | zero => intros; exact Pl_0
    | succ n5 ih5 =>
      intro hm5 v3 v5 w2 w3 h5 w5
      have C61 : ∀  (v3 : Int) (v5 : Int), (0 ≤ v5 ∧ v5 ≤ 5000) → (from_ ≤ v5 ∧ (v5 ≤ limit ∨ v5 = from_)) → (v3 = c27 (Xi S ts) from_.toNat (m12 (v5 - from_))) → (we7 (Xi S ts) limit from_ = v5) → Pl n5 lay0 (d + 1) m_to_scanWord 61 [(0, .ref 876), (1, iv from_), (3, jw v3), (5, iv v5)] [] S (Q_to_scanWord__p S ts from_ limit) := by
        intro v3 v5 w4 w5 h61 w61
        refine y_iload rfl rfl ?_
        refine y_iload_n rfl rfl ?_
        refine y_icmp_eq rfl rfl (by unfold rg; omega) (by unfold rg; omega) (fun w6 => ?_) (fun w7 => ?_)
        · refine y_iconst rfl ?_
          refine y_ireturn rfl rfl ?_
          exact ⟨hH, hF, _, rfl, ⟨by omega, by omega⟩, (by first | (rw [w61, if_pos (by omega)]; done) | (rw [w61, if_neg (by omega)]; done)), (by first | exact fun q => absurd rfl q | (intro _; rw [← c27_d (by omega) h61, ← k81_]; exact ⟨by omega, by omega, n86, r86⟩)), (by first | exact k86 | exact KR.rf), (by first | exact fun _ => rfl | (intro q; exfalso; omega)), (by first | exact pp86 | exact PLH.rf)⟩
        · refine y_iload rfl rfl ?_
          refine y_iload_n rfl rfl ?_
          refine y_isub rfl ?_
          refine y_bipush rfl rfl ?_
          refine y_icmp_le rfl rfl (by unfold rg; omega) (by unfold rg; omega) (fun w8 => ?_) (fun w9 => ?_)
          · refine y_aload_n rfl rfl ?_
            refine y_aload_n rfl rfl ?_
            refine y_lload_n rfl rfl ?_
            refine y_callV rfl rfl rfl (t_to_keyOf__p hH v3 (by rw [h61]; exact c27_g (m12_le _)) _) ?_
            rintro _ _ ⟨rfl, z10, rfl, w10, k81_⟩
            show Pl _ _ _ _ _ _ [iv z10, .ref 876] _ _
            have y81 := ky7_r7 (K := Xj S 880) (c := v3)
            refine y_iload_n rfl rfl ?_
            refine y_lload_n rfl rfl ?_
            refine y_callV rfl rfl rfl (t_to_note__p hH z10 from_ v3 ⟨by omega, by omega⟩ ⟨by omega, by omega⟩ (by first | assumption | omega) (by rw [h61]; exact c27_g (m12_le _)) _) ?_
            rintro _ T1 ⟨hHT1, w12, rfl, n86, k86, r86, pp86⟩
            have hFT1 : FR md_to_scanWord__p S T1 := FR.tr hF w12 rfl
            show Pl _ _ _ _ _ _ [] _ _
            refine y_iload rfl rfl ?_
            refine y_ireturn rfl rfl ?_
            exact ⟨hHT1, hFT1, _, rfl, ⟨by omega, by omega⟩, (by first | (rw [w61, if_pos (by omega)]; done) | (rw [w61, if_neg (by omega)]; done)), (by first | exact fun q => absurd rfl q | (intro _; rw [← c27_d (by omega) h61, ← k81_]; exact ⟨by omega, by omega, n86, r86⟩)), (by first | exact k86 | exact KR.rf), (by first | exact fun _ => rfl | (intro q; exfalso; omega)), (by first | exact pp86 | exact PLH.rf)⟩
          · refine y_iconst rfl ?_
            refine y_ireturn rfl rfl ?_
            exact ⟨hH, hF, _, rfl, ⟨by omega, by omega⟩, (by first | (rw [w61, if_pos (by omega)]; done) | (rw [w61, if_neg (by omega)]; done)), (by first | exact fun q => absurd rfl q | (intro _; rw [← c27_d (by omega) h61, ← k81_]; exact ⟨by omega, by omega, n86, r86⟩)), (by first | exact k86 | exact KR.rf), (by first | exact fun _ => rfl | (intro q; exfalso; omega)), (by first | exact pp86 | exact PLH.rf)⟩
      refine ys_iload rfl rfl ?_
      refine y_iload_n rfl rfl ?_
      refine y_icmp_ge rfl rfl (by unfold rg; omega) (by unfold rg; omega) (fun w13 => ?_) (fun w14 => ?_)
      · exact Pl_weak (C61 (v3) (v5) (by omega) (by omega) (h5) (by first | exact w5.trans (we7_e (by omega)) | exact w5.trans (we7_n (by omega)))) (by omega) (And.intro rfl (And.intro rfl (And.intro rfl (And.intro rfl (True.intro)))))
      · refine y_aload_n rfl rfl ?_
        refine y_gfr rfl rfl rfl rfl rfl ((hF 876 4 rfl).2.2.trans hts) ?_
        refine y_iload rfl rfl ?_
        refine y_baloadP (n := 5000) rfl (tp_sv (by assumption)) (lay_tp (by assumption)) (by decide) (by unfold rg; omega) (fun w16 w17 => ?_)
        have w18 : -2147483648 ≤ (Xi S ts ((v5).toNat)) ∧ (Xi S ts ((v5).toNat)) ≤ 2147483647 := Xi_rgI
        have b17 := hby (v5).toNat
        refine y_callS rfl rfl (by decide) rfl (t_rs_letterOf__p hH (Xi S ts ((v5).toNat)) ⟨by omega, by omega⟩ _) ?_
        rintro _ _ ⟨rfl, z19, rfl, w19, q18⟩
        show Pl _ _ _ _ _ _ [iv z19] _ _
        have r18 := lt7_r (Xi S ts (v5).toNat)
        refine y_if_le rfl rfl (by unfold rg; omega) (fun w20 => ?_) (fun w21 => ?_)
        · exact Pl_weak (C61 (v3) (v5) (by omega) (by omega) (h5) (by first | exact w5.trans (we7_e (by omega)) | exact w5.trans (we7_n (by omega)))) (by omega) (And.intro rfl (And.intro rfl (And.intro rfl (And.intro rfl (True.intro)))))
        · refine y_iload rfl rfl ?_
          refine y_iload_n rfl rfl ?_
          refine y_isub rfl ?_
          refine y_bipush rfl rfl ?_
          refine y_icmp_ge rfl rfl (by unfold rg; omega) (by unfold rg; omega) (fun w22 => ?_) (fun w23 => ?_)
          · refine y_lload_n rfl rfl ?_
            refine y_lstore_n rfl rfl rfl rfl ?_
            refine y_iinc rfl rfl rfl rfl ?_
            refine y_goto rfl rfl ?_
            exact Pl_weak (ih5 (by omega) (v3) ((v5 + 1)) (by omega) (by omega) (by first | exact c27_0 | exact c27_m q45 (by omega) (by omega) (by omega) h5 | exact c27_l (by omega) h5) (by first | rfl | exact w5.trans (we7_s (by omega) (by omega)))) (by omega) (And.intro rfl (And.intro rfl (And.intro rfl (And.intro rfl (And.intro rfl (True.intro))))))
          · refine y_lload_n rfl rfl ?_
            refine y_ldc2 (z := 27) rfl rfl ?_
            refine y_lmul rfl ?_
            refine y_aload_n rfl rfl ?_
            refine y_gfr rfl rfl rfl rfl rfl ((hF 876 4 rfl).2.2.trans hts) ?_
            refine y_iload rfl rfl ?_
            refine y_baloadP (n := 5000) rfl (tp_sv (by assumption)) (lay_tp (by assumption)) (by decide) (by unfold rg; omega) (fun w25 w26 => ?_)
            have b44 := hby (v5).toNat
            refine y_callS rfl rfl (by decide) rfl (t_rs_letterOf__p hH (Xi S ts ((v5).toNat)) ⟨by omega, by omega⟩ _) ?_
            rintro _ _ ⟨rfl, z27, rfl, w27, q45⟩
            show Pl _ _ _ _ _ _ [iv z27, jw (v3 * 27)] _ _
            have g45 : 0 ≤ v3 ∧ v3 < 27 ^ (m12 (v5 - from_)) := by rw [h5]; exact c27_r _
            have p45 : (27 : Int) ^ (m12 (v5 - from_)) ≤ 4052555153018976267 := pw27 (by have := m12_le (v5 - from_); omega)
            refine y_i2l rfl (by unfold rg; omega) ?_
            refine y_ladd rfl ?_
            refine y_goto rfl rfl ?_
            refine y_lstore_n rfl rfl rfl rfl ?_
            refine y_iinc rfl rfl rfl rfl ?_
            refine y_goto rfl rfl ?_
            exact Pl_weak (ih5 (by omega) (((v3 * 27) + z27)) ((v5 + 1)) (by omega) (by omega) (by first | exact c27_0 | exact c27_m q45 (by omega) (by omega) (by omega) h5 | exact c27_l (by omega) h5) (by first | rfl | exact w5.trans (we7_s (by omega) (by omega)))) (by omega) (And.intro rfl (And.intro rfl (And.intro rfl (And.intro rfl (And.intro rfl (True.intro))))))
  refine y_lconst (z := 0) rfl rfl ?_
  refine y_lstore_n rfl rfl rfl rfl ?_
  refine y_iload_n rfl rfl ?_
  refine y_istore rfl rfl rfl ?_
  exact Pl_weak (C5 fu (by omega) (0) (from_) (by omega) (by omega) (by first | exact c27_0 | exact c27_m q45 (by omega) (by omega) (by omega) h5 | exact c27_l (by omega) h5) (by first | rfl | exact w5.trans (we7_s (by omega) (by omega)))) (by omega) (And.intro rfl (And.intro rfl (And.intro rfl (And.intro rfl (And.intro rfl (True.intro))))))
def md_to_takeInside__p : List rec := [(876, 877, 7, 8), (877, 878, 0, 100000), (878, 879, 0, 100000), (879, 880, 0, 100000)]
abbrev Q_to_takeInside__p (S : sS) (ts : Nat) (from_ : Int) (to : Int) : pst := fun r S1 => RI S1 ∧ FR md_to_takeInside__p S S1 ∧ (∃ z : Int, r = some (iv z) ∧ (-2147483648 ≤ z ∧ z ≤ 2147483647) ∧ (TIO S S1 ts from_ to z) ∧ (PLH S S1))
set_option maxRecDepth 100000 in
theorem t_to_takeInside__p {S : sS} (hH : RI S) (ts : Nat) (from_ : Int) (to : Int) (hfrom_ : 0 ≤ from_ ∧ from_ ≤ 5000) (hto : 0 ≤ to ∧ to ≤ 5000) (hts : S.2.2 876 4 = some ts) (htp : tp ts) (hby : BYT S ts) (hft : from_ ≤ to ∧ to ≤ from_ + 121) (hc6 : 0 ≤ Xi S 876 6 ∧ Xi S 876 6 ≤ 5005) (d : Nat) : Mp lay0 (d + 3) m_to_takeInside [.ref 876, iv from_, iv to] S (Q_to_takeInside__p S ts from_ to) := by
  refine Mp_R rfl rfl (fun fu => ?_)
  have hF : FR md_to_takeInside__p S S := FR.rf
  have w1 : -2147483648 ≤ Xi S 876 6 ∧ Xi S 876 6 ≤ 2147483647 := Xi_rgI
  have w2 : -2147483648 ≤ Xi S 876 7 ∧ Xi S 876 7 ≤ 2147483647 := Xi_rgI
  have C10 : ∀ (n10 : Nat) (_ : n10 ≤ fu) (T1 : sS) (_ : RI T1) (_ : FR md_to_takeInside__p S T1) (v3 : Int), (0 ≤ v3 ∧ v3 ≤ 5000) → (from_ ≤ v3 ∧ v3 ≤ to) → (0 ≤ Xi T1 876 7 ∧ Xi T1 876 7 ≤ Xi S 876 6 + (v3 - from_)) → (Hid (ILC S T1 ts from_ to v3)) → (PLH S T1) → Pl n10 lay0 (d + 2) m_to_takeInside 10 [(0, .ref 876), (2, iv to), (3, iv v3)] [] T1 (Q_to_takeInside__p S ts from_ to) := by
    intro n10
    induction n10 with
    | zero => intros; exact Pl_0
    | succ n10 ih10 =>
      intro hm10 T1 hHT1 hFT1 v3 w3 w4 w5 I10 P10
      have w6 : Xi T1 876 5 = Xi S 876 5 := hFT1.x _ _ rfl
      have w7 : Xi T1 876 6 = Xi S 876 6 := hFT1.x _ _ rfl
      have w8 : -2147483648 ≤ Xi T1 876 6 ∧ Xi T1 876 6 ≤ 2147483647 := Xi_rgI
      have w9 : -2147483648 ≤ Xi T1 876 7 ∧ Xi T1 876 7 ≤ 2147483647 := Xi_rgI
      refine ys_iload_n rfl rfl ?_
      refine y_iload_n rfl rfl ?_
      refine y_icmp_ge rfl rfl (by unfold rg; omega) (by unfold rg; omega) (fun w10 => ?_) (fun w11 => ?_)
      · refine y_aload_n rfl rfl ?_
        refine y_bipush rfl rfl ?_
        refine y_iload_n rfl rfl ?_
        refine y_lconst (z := 0) rfl rfl ?_
        refine y_callV rfl rfl rfl (t_to_note__p hHT1 107 to 0 ⟨by omega, by omega⟩ ⟨by omega, by omega⟩ (by first | assumption | omega) (by unfold rgL; omega) _) ?_
        rintro _ T2 ⟨hHT2, w13, rfl, n59, k59, r59, pp59⟩
        have hFT2 : FR md_to_takeInside__p S T2 := FR.tr hFT1 w13 rfl
        show Pl _ _ _ _ _ _ [] _ _
        refine y_aload_n rfl rfl ?_
        refine y_gfi rfl rfl rfl rfl rfl ?_
        have w14 : (Xi T2 876 6) = (Xi T1 876 6) := (show Xi T2 876 6 = Xi T1 876 6 from w13.x _ _ rfl)
        rw [w14]
        refine y_ireturn rfl rfl ?_
        have w15 : Xi T2 876 6 = Xi T1 876 6 := (show Xi T2 876 6 = Xi T1 876 6 from w13.x _ _ rfl)
        exact ⟨hHT2, hFT2, _, rfl, ⟨by omega, by omega⟩, (by first | (have u := n59; exact tio_z I10.o (by omega) (by omega) n59 k59 r59 (by omega)) | exact X46), (by first | exact PLH.tr P10 pp59 | (rw [s35 (by omega)]; exact P10))⟩
      · refine y_aload_n rfl rfl ?_
        refine y_gfr rfl rfl rfl rfl rfl ((hFT1 876 4 rfl).2.2.trans hts) ?_
        refine y_iload_n rfl rfl ?_
        refine y_baloadP (n := 5000) rfl (tp_sv (by assumption)) (lay_tp (by assumption)) (by decide) (by unfold rg; omega) (fun w17 w18 => ?_)
        have w19 : -2147483648 ≤ (Xi T1 ts ((v3).toNat)) ∧ (Xi T1 ts ((v3).toNat)) ≤ 2147483647 := Xi_rgI
        have y20 : Xi T1 ts (v3).toNat = Xi S ts (v3).toNat := congrFun (tp_F hFT1 rfl htp) _
        have b20 := hby (v3).toNat
        refine y_bipush rfl rfl ?_
        refine y_icmp_ne rfl rfl (by unfold rg; omega) (by unfold rg; omega) (fun w20 => ?_) (fun w21 => ?_)
        · refine y_aload_n rfl rfl ?_
          refine y_iload_n rfl rfl ?_
          refine y_iload_n rfl rfl ?_
          refine y_callV rfl rfl rfl (t_to_scanWord__p hHT1 ts v3 to ⟨by omega, by omega⟩ ⟨by omega, by omega⟩ ((hFT1 876 4 rfl).2.2.trans hts) htp (BYT_F hFT1 rfl htp hby) (by first | assumption | omega) _) ?_
          rintro _ T3 ⟨hHT3, w23, z22, rfl, w22, q35, n35_, k35, s35, pp35⟩
          have hFT3 : FR md_to_takeInside__p S T3 := FR.tr hFT1 w23 rfl
          show Pl _ _ _ _ _ _ [iv z22] _ _
          have Q35 : z22 = (if we7 (Xi S ts) to v3 = v3 ∨ 12 < we7 (Xi S ts) to v3 - v3 then -1 else we7 (Xi S ts) to v3) := by have u := q35; rw [tp_F hFT1 rfl htp] at u; exact u
          have N35 : z22 ≠ -1 → v3 < z22 ∧ z22 ≤ to ∧ NT T1 T3 (ky7 (Xj S 880) (c27 (Xi S ts) (v3).toNat (z22 - v3).toNat) 100) v3 (c27 (Xi S ts) (v3).toNat (z22 - v3).toNat) ∧ Xi T3 876 7 = Xi T1 876 7 + 1 := fun q => by have u := n35_ q; rw [tp_F hFT1 rfl htp, show Xj T1 880 = Xj S 880 from funext (fun j => (hFT1.cx 880 rfl j).2)] at u; exact u
          clear q35 n35_
          refine y_istore rfl rfl rfl ?_
          refine y_iload rfl rfl ?_
          refine y_iconst rfl ?_
          refine y_icmp_ne rfl rfl (by unfold rg; omega) (by unfold rg; omega) (fun w24 => ?_) (fun w25 => ?_)
          · refine y_iload rfl rfl ?_
            refine y_istore_n rfl rfl rfl ?_
            have I50 : Hid (ILC S T3 ts from_ to z22) := by first | (have u := Q35; exact ilc_w I10.o (by omega) (by omega) (by rw [← y20]; omega) (by rw [if_neg (fun c => by rw [if_pos c] at Q35; omega)] at Q35; exact Q35) (by have := (N35 (by omega)).1; omega) (by have w := Q35; by_cases c : we7 (Xi S ts) to v3 = v3 ∨ 12 < we7 (Xi S ts) to v3 - v3; (rw [if_pos c] at w; omega); (rw [if_neg c] at w; omega)) (N35 (by omega)).2.1 (N35 (by omega)).1 rfl rfl (N35 (by omega)).2.2.1 k35 (N35 (by omega)).2.2.2) | exact ilc_b I10.o (by omega) (by rw [← y20]; omega)
            have r50 : 0 ≤ Xi T3 876 7 ∧ Xi T3 876 7 ≤ Xi S 876 6 + (z22 - from_) := by obtain ⟨L, _, _, _, h4, h5⟩ := I50.o; omega
            have g50 : from_ ≤ z22 ∧ z22 ≤ to := by first | (have u := Q35; have := N35 (by omega); omega) | omega
            refine y_goto rfl rfl ?_
            have w26 : Xi T3 876 6 = Xi T1 876 6 := (show Xi T3 876 6 = Xi T1 876 6 from w23.x _ _ rfl)
            exact Pl_weak (ih10 (by omega) T3 hHT3 hFT3 (z22) (by omega) (by omega) (by omega) (by first | exact I50 | exact ilc_0 (by omega) e7 (by unfold rg; omega)) (by first | (have u := Q35; exact PLH.tr P10 pp35) | exact P10 | exact plh_o e7)) (by omega) (And.intro rfl (And.intro rfl (And.intro rfl (True.intro))))
          · refine y_iconst rfl ?_
            have X46 : TIO S T3 ts from_ to (-1) := by rw [s35 (by omega)]; exact tio_x I10.o (by omega) (by rw [← y20]; omega) (by have u := Q35; by_cases c : we7 (Xi S ts) to v3 = v3 ∨ 12 < we7 (Xi S ts) to v3 - v3; exact c; (rw [if_neg c] at u; have b := we7_b (B := Xi S ts) (e := to) (p := v3); exfalso; omega)) rfl
            refine y_ireturn rfl rfl ?_
            have w27 : Xi T3 876 6 = Xi T1 876 6 := (show Xi T3 876 6 = Xi T1 876 6 from w23.x _ _ rfl)
            exact ⟨hHT3, hFT3, _, rfl, ⟨by omega, by omega⟩, (by first | (have u := n59; exact tio_z I10.o (by omega) (by omega) n59 k59 r59 (by omega)) | exact X46), (by first | exact PLH.tr P10 pp59 | (rw [s35 (by omega)]; exact P10))⟩
        · refine y_iload_n rfl rfl ?_
          refine y_iconst rfl ?_
          refine y_iadd rfl ?_
          refine y_goto rfl rfl ?_
          refine y_istore rfl rfl rfl ?_
          refine y_iload rfl rfl ?_
          refine y_iconst rfl ?_
          refine y_icmp_ne rfl rfl (by unfold rg; omega) (by unfold rg; omega) (fun w28 => ?_) (fun w29 => ?_)
          · refine y_iload rfl rfl ?_
            refine y_istore_n rfl rfl rfl ?_
            have I50 : Hid (ILC S T1 ts from_ to (v3 + 1)) := by first | (have u := Q35; exact ilc_w I10.o (by omega) (by omega) (by rw [← y20]; omega) (by rw [if_neg (fun c => by rw [if_pos c] at Q35; omega)] at Q35; exact Q35) (by have := (N35 (by omega)).1; omega) (by have w := Q35; by_cases c : we7 (Xi S ts) to v3 = v3 ∨ 12 < we7 (Xi S ts) to v3 - v3; (rw [if_pos c] at w; omega); (rw [if_neg c] at w; omega)) (N35 (by omega)).2.1 (N35 (by omega)).1 rfl rfl (N35 (by omega)).2.2.1 k35 (N35 (by omega)).2.2.2) | exact ilc_b I10.o (by omega) (by rw [← y20]; omega)
            have r50 : 0 ≤ Xi T1 876 7 ∧ Xi T1 876 7 ≤ Xi S 876 6 + ((v3 + 1) - from_) := by obtain ⟨L, _, _, _, h4, h5⟩ := I50.o; omega
            have g50 : from_ ≤ (v3 + 1) ∧ (v3 + 1) ≤ to := by first | (have u := Q35; have := N35 (by omega); omega) | omega
            refine y_goto rfl rfl ?_
            exact Pl_weak (ih10 (by omega) T1 hHT1 hFT1 ((v3 + 1)) (by omega) (by omega) (by omega) (by first | exact I50 | exact ilc_0 (by omega) e7 (by unfold rg; omega)) (by first | (have u := Q35; exact PLH.tr P10 pp35) | exact P10 | exact plh_o e7)) (by omega) (And.intro rfl (And.intro rfl (And.intro rfl (True.intro))))
          · exfalso; omega
  refine y_iload_n rfl rfl ?_
  refine y_istore_n rfl rfl rfl ?_
  refine y_aload_n rfl rfl ?_
  refine y_aload_n rfl rfl ?_
  refine y_gfi rfl rfl rfl rfl rfl ?_
  refine y_pfi rfl rfl rfl rfl ?_
  obtain ⟨U4, eU4⟩ : ∃ T : sS, T = uI S 876 7 (Int32.ofInt (Xi S 876 6)) := ⟨_, rfl⟩
  rw [← eU4]
  have hHU4 : RI U4 := by rw [eU4]; exact RI_w hH
  have hFU4 : FR md_to_takeInside__p S U4 := by rw [eU4]; exact FR.wI hF (mdf_i (r := (876, 877, 7, 8)) (List.mem_of_getElem? (i := 0) rfl) (inR_i (by omega) (by omega) (by omega) (by omega)))
  have w30 : Xi U4 876 7 = (Xi S 876 6) := by rw [eU4]; exact Xi_same (by unfold rg; omega)
  have e7 := eU4
  have w31 : Xi U4 876 6 = Xi S 876 6 := (show Xi U4 876 6 = Xi S 876 6 from by rw [eU4]; exact Xi_ne (by omega))
  exact Pl_weak (C10 fu (by omega) U4 hHU4 hFU4 (from_) (by omega) (by omega) (by omega) (by first | exact I50 | exact ilc_0 (by omega) e7 (by unfold rg; omega)) (by first | (have u := Q35; exact PLH.tr P10 pp35) | exact P10 | exact plh_o e7)) (by omega) (And.intro rfl (And.intro rfl (And.intro rfl (True.intro))))
def md_bo_addInsert__p : List rec := [(246, 247, 8, 9), (274, 275, 0, 100000), (275, 276, 0, 100000)]
abbrev Q_bo_addInsert__p (S : sS) (thing : Int) (prop : Int) : pst := fun r S1 => RI S1 ∧ FR md_bo_addInsert__p S S1 ∧ (r = none ∧ (IAO S S1 thing prop))
set_option maxRecDepth 100000 in
theorem t_bo_addInsert__p {S : sS} (hH : RI S) (thing : Int) (prop : Int) (hthing : -2147483648 ≤ thing ∧ thing ≤ 2147483647) (hprop : -2147483648 ≤ prop ∧ prop ≤ 2147483647) (hi8 : 0 ≤ Xi S 246 8) (d : Nat) : Mp lay0 (d + 1) m_bo_addInsert [.ref 246, iv thing, iv prop] S (Q_bo_addInsert__p S thing prop) := by
  refine Mp_R rfl rfl (fun fu => ?_)
  have hF : FR md_bo_addInsert__p S S := FR.rf
  have w1 : -2147483648 ≤ Xi S 246 8 ∧ Xi S 246 8 ≤ 2147483647 := Xi_rgI
  refine y_aload_n rfl rfl ?_
  refine y_gfi rfl rfl rfl rfl rfl ?_
  refine y_sipush rfl rfl ?_
  refine y_icmp_ge rfl rfl (by unfold rg; omega) (by unfold rg; omega) (fun w2 => ?_) (fun w3 => ?_)
  · refine y_return rfl rfl ?_
    exact ⟨hH, hF, rfl, (by first | exact ⟨fun q => absurd q (by omega), fun _ => rfl⟩ | exact ⟨fun _ => by rw [← eU1, ← eU2]; exact eU3, fun q => absurd q (by omega)⟩)⟩
  · refine y_aload_n rfl rfl ?_
    refine y_gfr rfl rfl rfl rfl rfl (hH.r 246 6 274 rfl) ?_
    refine y_aload_n rfl rfl ?_
    refine y_gfi rfl rfl rfl rfl rfl ?_
    refine y_iload_n rfl rfl ?_
    refine y_iastoreP (n := 1666) rfl rfl (by unfold rg; omega) (fun w4 w5 => ?_)
    obtain ⟨U1, eU1⟩ : ∃ T : sS, T = uI S 274 (((Xi S 246 8)).toNat) (Int32.ofInt thing) := ⟨_, rfl⟩
    rw [← eU1]
    have hHU1 : RI U1 := by rw [eU1]; exact RI_w hH
    have hFU1 : FR md_bo_addInsert__p S U1 := by rw [eU1]; exact FR.wI hF (mdf_i (r := (274, 275, 0, 100000)) (List.mem_of_getElem? (i := 1) rfl) (inR_i (by omega) (by omega) (by omega) (by omega)))
    have w6 : Xi U1 274 (((Xi S 246 8)).toNat) = thing := by rw [eU1]; exact Xi_same (by unfold rg; omega)
    refine y_aload_n rfl rfl ?_
    refine y_gfr rfl rfl rfl rfl rfl (hHU1.r 246 7 275 rfl) ?_
    refine y_aload_n rfl rfl ?_
    refine y_gfi rfl rfl rfl rfl rfl ?_
    have w7 : (Xi U1 246 8) = (Xi S 246 8) := (show Xi U1 246 8 = Xi S 246 8 from by rw [eU1]; exact Xi_ne (by omega))
    rw [w7]
    refine y_iload_n rfl rfl ?_
    refine y_iastoreP (n := 1666) rfl rfl (by unfold rg; omega) (fun w8 w9 => ?_)
    obtain ⟨U2, eU2⟩ : ∃ T : sS, T = uI U1 275 (((Xi S 246 8)).toNat) (Int32.ofInt prop) := ⟨_, rfl⟩
    rw [← eU2]
    have hHU2 : RI U2 := by rw [eU2]; exact RI_w hHU1
    have hFU2 : FR md_bo_addInsert__p S U2 := by rw [eU2]; exact FR.wI hFU1 (mdf_i (r := (275, 276, 0, 100000)) (List.mem_of_getElem? (i := 2) rfl) (inR_i (by omega) (by omega) (by omega) (by omega)))
    have w10 : Xi U2 275 (((Xi S 246 8)).toNat) = prop := by rw [eU2]; exact Xi_same (by unfold rg; omega)
    refine y_aload_n rfl rfl ?_
    refine y_dup rfl rfl ?_
    refine y_gfi rfl rfl rfl rfl rfl ?_
    have w11 : (Xi U2 246 8) = (Xi S 246 8) := (show Xi U2 246 8 = Xi U1 246 8 from by rw [eU2]; exact Xi_ne (by omega)).trans ((show Xi U1 246 8 = Xi S 246 8 from by rw [eU1]; exact Xi_ne (by omega)))
    rw [w11]
    refine y_iconst rfl ?_
    refine y_iadd rfl ?_
    refine y_pfi rfl rfl rfl rfl ?_
    obtain ⟨U3, eU3⟩ : ∃ T : sS, T = uI U2 246 8 (Int32.ofInt ((Xi S 246 8) + 1)) := ⟨_, rfl⟩
    rw [← eU3]
    have hHU3 : RI U3 := by rw [eU3]; exact RI_w hHU2
    have hFU3 : FR md_bo_addInsert__p S U3 := by rw [eU3]; exact FR.wI hFU2 (mdf_i (r := (246, 247, 8, 9)) (List.mem_of_getElem? (i := 0) rfl) (inR_i (by omega) (by omega) (by omega) (by omega)))
    have w12 : Xi U3 246 8 = ((Xi S 246 8) + 1) := by rw [eU3]; exact Xi_same (by unfold rg; omega)
    refine y_return rfl rfl ?_
    exact ⟨hHU3, hFU3, rfl, (by first | exact ⟨fun q => absurd q (by omega), fun _ => rfl⟩ | exact ⟨fun _ => by rw [← eU1, ← eU2]; exact eU3, fun q => absurd q (by omega)⟩)⟩
end
section
/-! rules of the class: what stands in [ ] -/
noncomputable def inT (T : sS) (c : Int) : Int := @ite Int (bpP T c) (Classical.propDecidable _) (re7 (ty7 T) (c + 1) + 1) c
noncomputable def inP (T : sS) (c : Int) : Int := @ite Int (bpP T c) (Classical.propDecidable _) (fnd T 5 (c + 1) (re7 (ty7 T) (c + 1))) (-1)
def inOK (T : sS) (c : Int) : Prop := wheC T (inT T c) (Xi T 876 7 - 1) = Xi T 876 7 - 1 ∧ whoC T (inT T c) (Xi T 876 7 - 1) ≠ -1 ∧ (bpP T c → fnd T 5 (c + 1) (re7 (ty7 T) (c + 1)) ≠ -1 ∧ iandF (ishrF (pps T (whkC T (inT T c) (Xi T 876 7 - 1))) (fnd T 5 (c + 1) (re7 (ty7 T) (c + 1)))) 1 ≠ 0)
def KIN (T U : sS) : Prop := Xi U 246 8 = Xi T 246 8 ∧ ∀ j, Xi U 274 j = Xi T 274 j ∧ Xi U 275 j = Xi T 275 j
def INA (T S1 : sS) (c z : Int) : Prop := (¬ inOK T c → z = 0 ∧ KIN T S1) ∧ (inOK T c → z = 1 ∧ ∃ U : sS, KIN T U ∧ IAO U S1 (whoC T (inT T c) (Xi T 876 7 - 1)) (inP T c))
def INO (S S1 : sS) (ts : Nat) (a to z : Int) : Prop := ∃ (T : sS) (c : Int), TIO S T ts a to c ∧ FR md_to_takeInside__p S T ∧ (c = -1 → z = 0 ∧ S1 = T) ∧ (c ≠ -1 → INA T S1 c z)
theorem KIN.rf {T : sS} : KIN T T := ⟨rfl, fun _ => ⟨rfl, rfl⟩⟩
theorem kin_F {l : List rec} {T U : sS} (h : FR l T U) (e : kdis l [(274, 276)] = true) (e8 : mdf l 246 8 = false) : KIN T U := ⟨h.x 246 8 e8, fun j => ⟨(h.smk e).x 274 rfl j, (h.smk e).x 275 rfl j⟩⟩
theorem inT_y {T : sS} {c : Int} (h : bpP T c) : inT T c = re7 (ty7 T) (c + 1) + 1 := if_pos h
theorem inT_n {T : sS} {c : Int} (h : ¬ bpP T c) : inT T c = c := if_neg h
theorem inP_y {T : sS} {c : Int} (h : bpP T c) : inP T c = fnd T 5 (c + 1) (re7 (ty7 T) (c + 1)) := if_pos h
theorem inP_n {T : sS} {c : Int} (h : ¬ bpP T c) : inP T c = -1 := if_neg h
theorem ino_b {S T : sS} {ts : Nat} {a to z c : Int} (t : TIO S T ts a to c) (f : FR md_to_takeInside__p S T) (hc : c = -1) (hz : z = 0) : INO S T ts a to z := ⟨T, c, t, f, fun _ => ⟨hz, rfl⟩, fun q => absurd hc q⟩
theorem ino_n {S T U : sS} {ts : Nat} {a to z c : Int} (t : TIO S T ts a to c) (f : FR md_to_takeInside__p S T) (hc : c ≠ -1) (hz : z = 0) (k : KIN T U) (n : ¬ inOK T c) : INO S U ts a to z := ⟨T, c, t, f, fun q => absurd q hc, fun _ => ⟨fun _ => ⟨hz, k⟩, fun q => absurd q n⟩⟩
theorem ino_y {S T U V : sS} {ts : Nat} {a to z c w p : Int} (t : TIO S T ts a to c) (f : FR md_to_takeInside__p S T) (hc : c ≠ -1) (hz : z = 1) (k : KIN T U) (n : inOK T c) (hw : w = whoC T (inT T c) (Xi T 876 7 - 1)) (hp : p = inP T c) (i : IAO U V w p) : INO S V ts a to z := by
  subst hw hp
  exact ⟨T, c, t, f, fun q => absurd q hc, fun _ => ⟨fun q => absurd n q, fun _ => ⟨hz, U, k, i⟩⟩⟩
theorem kr_F {l : List rec} {S T U : sS} {n : Int} (h : FR l T U) (e : kdis l [(877, 880)] = true) (k : KR S T n) : KR S U n := fun r hr => by
  obtain ⟨a, b, c⟩ := k r hr
  have m := h.smk e
  exact ⟨(m.x 877 rfl r).trans a, (m.x 878 rfl r).trans b, (SMK_j m 879 rfl r).trans c⟩
theorem plh_F {l : List rec} {S T U : sS} (h : FR l T U) (e : kdis l [(877, 880)] = true) (k : PLH S T) : PLH S U := fun w j => by
  rw [(h.smk e).x 878 rfl j]; exact k w j
def RWW (S T : sS) : Prop := ∀ r : Nat, Xi S 876 6 ≤ r → (r : Int) < Xi T 876 7 → Xi T 877 r ≤ 100 ∨ Xi T 877 r = 107
theorem rww_F {l : List rec} {S T U : sS} (h : FR l T U) (e : kdis l [(877, 880)] = true) (e7 : mdf l 876 7 = false) (k : RWW S T) : RWW S U := fun r a b => by
  rw [(h.smk e).x 877 rfl r]; rw [h.x 876 7 e7] at b; exact k r a b
theorem tio_rw {S T : sS} {ts : Nat} {a to z : Int} (h : TIO S T ts a to z) (h0 : 0 ≤ Xi S 876 6) (hz : z ≠ -1) : RWW S T := fun r x y => by
  obtain ⟨_, _, _, h4⟩ := h
  obtain ⟨_, L, _, w, n, e, _, _⟩ := h4 hz
  by_cases q : (r : Int) < Xi S 876 6 + L.length
  · have u := (w (r - (Xi S 876 6).toNat) (by omega)).1
    rw [show (Xi S 876 6).toNat + (r - (Xi S 876 6).toNat) = r by omega] at u
    rw [u]
    exact Or.inl ky7_r7.2
  · rw [show r = (Xi S 876 6).toNat + L.length by omega]
    exact Or.inr e
theorem iao_8 {S T : sS} {a b : Int} (h : IAO S T a b) (h0 : 0 ≤ Xi S 246 8) : 0 ≤ Xi T 246 8 := by
  by_cases q : Xi S 246 8 < 1666
  · rw [h.1 q, Xi_same ⟨by omega, by omega⟩]; omega
  · rw [h.2 (by omega)]; exact h0
theorem ino_eq {S T : sS} {ts : Nat} {a b z w : Int} (h : INO S T ts a b z) (e : z = w) : INO S T ts a b w := e ▸ h

def md_rr_insert__p : List rec := [(246, 247, 8, 9), (274, 275, 0, 100000), (275, 276, 0, 100000), (876, 877, 7, 8), (877, 878, 0, 100000), (878, 879, 0, 100000), (879, 880, 0, 100000), (895, 896, 5, 6), (895, 896, 6, 7), (895, 896, 7, 8)]
abbrev Q_rr_insert__p (S : sS) (ts : Nat) (from_ : Int) (to : Int) : pst := fun r S1 => RI S1 ∧ FR md_rr_insert__p S S1 ∧ (∃ z : Int, r = some (iv z) ∧ (0 ≤ z ∧ z ≤ 1) ∧ (INO S S1 ts from_ to z) ∧ (KR S S1 (Xi S 876 6)) ∧ (Xi S 876 6 ≤ Xi S1 876 7 ∧ Xi S1 876 7 ≤ Xi S 876 6 + (to - from_) + 1) ∧ (PLH S S1) ∧ (z = 1 → RWW S S1) ∧ (0 ≤ Xi S1 246 8))
set_option maxRecDepth 100000 in
theorem t_rr_insert__p {S : sS} (hH : RI S) (ts : Nat) (from_ : Int) (to : Int) (hfrom_ : 0 ≤ from_ ∧ from_ ≤ 5000) (hto : 0 ≤ to ∧ to ≤ 5000) (hts : S.2.2 876 4 = some ts) (htp : tp ts) (h13 : 0 ≤ Xi S 1 3 ∧ Xi S 1 3 ≤ 200) (hCE : CEN S) (hby : BYT S ts) (hft : from_ ≤ to ∧ to ≤ from_ + 121) (hc6 : 0 ≤ Xi S 876 6 ∧ Xi S 876 6 ≤ 5005) (hi8 : 0 ≤ Xi S 246 8) (d : Nat) : Mp lay0 (d + 4) m_rr_insert [.ref 899, iv from_, iv to] S (Q_rr_insert__p S ts from_ to) := by
  refine Mp_R rfl rfl (fun fu => ?_)
  have hF : FR md_rr_insert__p S S := FR.rf
  have w1 : -2147483648 ≤ Xi S 1 3 ∧ Xi S 1 3 ≤ 2147483647 := Xi_rgI
  have w2 : -2147483648 ≤ Xi S 246 8 ∧ Xi S 246 8 ≤ 2147483647 := Xi_rgI
  have w3 : -2147483648 ≤ Xi S 876 6 ∧ Xi S 876 6 ≤ 2147483647 := Xi_rgI
  have w4 : -2147483648 ≤ Xi S 876 7 ∧ Xi S 876 7 ≤ 2147483647 := Xi_rgI
  have w5 : -2147483648 ≤ Xi S 895 5 ∧ Xi S 895 5 ≤ 2147483647 := Xi_rgI
  have w6 : -2147483648 ≤ Xi S 895 6 ∧ Xi S 895 6 ≤ 2147483647 := Xi_rgI
  refine y_aload_n rfl rfl ?_
  refine y_gfr rfl rfl rfl rfl rfl (hH.r 899 0 876 rfl) ?_
  refine y_iload_n rfl rfl ?_
  refine y_iload_n rfl rfl ?_
  refine y_callV rfl rfl rfl (t_to_takeInside__p hH ts from_ to ⟨by omega, by omega⟩ ⟨by omega, by omega⟩ ((hF 876 4 rfl).2.2.trans hts) htp (by first | assumption | omega) (by first | assumption | omega) (by first | assumption | omega) _) ?_
  rintro _ T1 ⟨hHT1, w8, z7, rfl, w7, o6, PS⟩
  have hFT1 : FR md_rr_insert__p S T1 := FR.tr hF w8 rfl
  show Pl _ _ _ _ _ _ [iv z7] _ _
  have F6 := (by assumption : FR md_to_takeInside__p S T1)
  have r6 := o6.2.1
  have KS := o6.1
  refine y_istore_n rfl rfl rfl ?_
  refine y_iconst rfl ?_
  refine y_istore rfl rfl rfl ?_
  refine y_iload_n rfl rfl ?_
  refine y_iconst rfl ?_
  refine y_icmp_ne rfl rfl (by unfold rg; omega) (by unfold rg; omega) (fun w9 => ?_) (fun w10 => ?_)
  · refine y_aload_n rfl rfl ?_
    have z20 := (o6.2.2.2 (by omega)).1
    have WS := tio_rw o6 (by omega) (by omega)
    refine y_gfr rfl rfl rfl rfl rfl (hHT1.r 899 0 876 rfl) ?_
    refine y_iload_n rfl rfl ?_
    refine y_callV rfl rfl rfl (t_to_beginsProperty__p hHT1 z7 ⟨by omega, by omega⟩ _) ?_
    rintro _ _ ⟨rfl, z14, rfl, w14, gb25, g25⟩
    show Pl _ _ _ _ _ _ [iv z14] _ _
    refine y_istore rfl rfl rfl ?_
    refine y_iload_n rfl rfl ?_
    refine y_iconst rfl ?_
    refine y_iadd rfl ?_
    refine y_istore rfl rfl rfl ?_
    refine y_aload_n rfl rfl ?_
    refine y_gfr rfl rfl rfl rfl rfl (hHT1.r 899 0 876 rfl) ?_
    refine y_iload rfl rfl ?_
    refine y_callV rfl rfl rfl (t_to_runEnd__p hHT1 (z7 + 1) ⟨by omega, by omega⟩ _) ?_
    rintro _ _ ⟨rfl, z18, rfl, w18, q41, b41⟩
    show Pl _ _ _ _ _ _ [iv z18] _ _
    refine y_istore rfl rfl rfl ?_
    refine y_iload rfl rfl ?_
    have q46 : re7 (ty7 T1) (z7 + 1) = z18 := q41
    refine y_if_eq rfl rfl (by unfold rg; omega) (fun w19 => ?_) (fun w20 => ?_)
    · refine y_iload_n rfl rfl ?_
      have B46 : ¬ bpP T1 z7 := gb25.2 (by omega)
      refine y_istore rfl rfl rfl ?_
      refine y_aload_n rfl rfl ?_
      have I59 : inT T1 z7 = z7 := by first | (rw [inT_y B46, q46]) | (rw [inT_n B46])
      refine y_gfr rfl rfl rfl rfl rfl (hHT1.r 899 2 895 rfl) ?_
      refine y_iload rfl rfl ?_
      refine y_aload_n rfl rfl ?_
      refine y_gfr rfl rfl rfl rfl rfl (hHT1.r 899 0 876 rfl) ?_
      refine y_callV rfl rfl rfl (t_to_lastRow__p hHT1 (by first | assumption | omega) _) ?_
      rintro _ _ ⟨rfl, z24, rfl, w24, p71⟩
      show Pl _ _ _ _ _ _ [iv z24, iv z7, .ref 895] _ _
      have w25 : Xi T1 1 3 = Xi S 1 3 := (show Xi T1 1 3 = Xi S 1 3 from w8.x _ _ rfl)
      refine y_callV rfl rfl rfl (t_me_readThing__p hHT1 z7 z24 ⟨by omega, by omega⟩ ⟨by omega, by omega⟩ (by first | assumption | omega) (by first | assumption | exact (CEN_FR hFT1 rfl rfl (by assumption : CEN S))) (by first | assumption | omega) _) ?_
      rintro _ T2 ⟨hHT2, w30, z29, rfl, w29, o74, b74⟩
      have hFT2 : FR md_rr_insert__p S T2 := FR.tr hFT1 w30 rfl
      show Pl _ _ _ _ _ _ [iv z29] _ _
      have K74 : True := trivial
      have R74 := o74
      clear o74
      have F74 := (by assumption : FR md_me_readThing__p T1 T2)
      have k74 : KIN T1 T2 := kin_F F74 rfl rfl
      have KS := kr_F F74 rfl KS
      have PS := plh_F F74 rfl PS
      have WS := rww_F F74 rfl rfl WS
      have x74 : Xi T2 876 7 = Xi T1 876 7 := F74.x 876 7 rfl
      have w74 : z29 = wheC T1 z7 (Xi T1 876 7 - 1) := by have t := R74.2.2.2; rw [p71] at t; exact t
      refine y_aload_n rfl rfl ?_
      refine y_gfr rfl rfl rfl rfl rfl (hHT2.r 899 0 876 rfl) ?_
      have w32 : Xi T2 876 7 = Xi T1 876 7 := (show Xi T2 876 7 = Xi T1 876 7 from w30.x _ _ rfl)
      refine y_callV rfl rfl rfl (t_to_lastRow__p hHT2 (by first | assumption | omega) _) ?_
      rintro _ _ ⟨rfl, z33, rfl, w33, p81⟩
      show Pl _ _ _ _ _ _ [iv z33, iv z29] _ _
      refine y_icmp_ne rfl rfl (by unfold rg; omega) (by unfold rg; omega) (fun w34 => ?_) (fun w35 => ?_)
      · refine y_iconst rfl ?_
        refine y_ireturn rfl rfl ?_
        have w36 : Xi T2 246 8 = Xi S 246 8 := (show Xi T2 246 8 = Xi T1 246 8 from w30.x _ _ rfl).trans ((show Xi T1 246 8 = Xi S 246 8 from w8.x _ _ rfl))
        exact ⟨hHT2, hFT2, _, rfl, ⟨by omega, by omega⟩, (by first | (have u := K162; first | (have u := K105; exact ino_y o6 F6 (by omega) rfl k74 (by rw [inOK, I59]; exact ⟨w81, W100, fun _ => ⟨by rw [← v117]; omega, by rw [← b141]; omega⟩⟩) (by rw [I59]; exact w157) (by rw [inP_y B46]; exact v117) o162) | exact ino_y o6 F6 (by omega) rfl k74 (by rw [inOK, I59]; exact ⟨w81, W100, fun q => absurd q B46⟩) (by rw [I59]; exact w157) (by rw [inP_n B46]) o162) | (have u := K105; exact ino_n o6 F6 (by omega) rfl k74 (fun q => by have t := (q.2.2 B46); first | (have u := b141; have r := t.2; rw [I59, ← b141] at r; omega) | (have r := t.1; rw [← v117] at r; omega))) | (have u := K74; first | (have u := w94; exact ino_n o6 F6 (by omega) rfl k74 (fun q => by have t := q.2.1; rw [I59, ← w94] at t; omega)) | exact ino_n o6 F6 (by omega) rfl k74 (fun q => by have t := q.1; rw [I59, ← w74] at t; omega)) | exact ino_b o6 F6 (by omega) rfl), (KS), (by omega), (PS), (by first | (have u := K162; exact fun _ => WS) | exact fun q => absurd q (by decide)), (by first | (have u := K162; exact iao_8 o162 (by omega)) | omega)⟩
      · refine y_aload_n rfl rfl ?_
        have w81 : wheC T1 z7 (Xi T1 876 7 - 1) = Xi T1 876 7 - 1 := by rw [← w74]; omega
        refine y_gfr rfl rfl rfl rfl rfl (hHT2.r 899 2 895 rfl) ?_
        refine y_gfi rfl rfl rfl rfl rfl ?_
        have w38 : -2147483648 ≤ (Xi T2 895 5) ∧ (Xi T2 895 5) ≤ 2147483647 := Xi_rgI
        have w94 : (Xi T2 895 5) = whoC T1 z7 (Xi T1 876 7 - 1) := by have t := R74.1; rw [p71] at t; exact t
        refine y_iconst rfl ?_
        refine y_icmp_ne rfl rfl (by unfold rg; omega) (by unfold rg; omega) (fun w39 => ?_) (fun w40 => ?_)
        · refine y_iload rfl rfl ?_
          have W100 : whoC T1 z7 (Xi T1 876 7 - 1) ≠ -1 := by rw [← w94]; omega
          refine y_if_eq rfl rfl (by unfold rg; omega) (fun w41 => ?_) (fun w42 => ?_)
          · refine y_aload_n rfl rfl ?_
            refine y_gfr rfl rfl rfl rfl rfl (hHT2.r 899 3 246 rfl) ?_
            refine y_aload_n rfl rfl ?_
            refine y_gfr rfl rfl rfl rfl rfl (hHT2.r 899 2 895 rfl) ?_
            refine y_gfi rfl rfl rfl rfl rfl ?_
            have w157 : (Xi T2 895 5) = whoC T1 z7 (Xi T1 876 7 - 1) := by have t := R74.1; rw [p71] at t; exact t
            refine y_iload rfl rfl ?_
            have w43 : Xi T2 246 8 = Xi S 246 8 := (show Xi T2 246 8 = Xi T1 246 8 from w30.x _ _ rfl).trans ((show Xi T1 246 8 = Xi S 246 8 from w8.x _ _ rfl))
            refine y_callV rfl rfl rfl (t_bo_addInsert__p hHT2 (Xi T2 895 5) (-1) ⟨by omega, by omega⟩ ⟨by omega, by omega⟩ (by first | assumption | omega) _) ?_
            rintro _ T3 ⟨hHT3, w46, rfl, o162⟩
            have hFT3 : FR md_rr_insert__p S T3 := FR.tr hFT2 w46 rfl
            show Pl _ _ _ _ _ _ [] _ _
            have K162 : True := trivial
            have F162 := (by assumption : FR md_bo_addInsert__p T2 T3)
            have KS := kr_F F162 rfl KS
            have PS := plh_F F162 rfl PS
            have WS := rww_F F162 rfl rfl WS
            refine y_iconst rfl ?_
            refine y_ireturn rfl rfl ?_
            have w47 : Xi T3 876 7 = Xi T1 876 7 := (show Xi T3 876 7 = Xi T2 876 7 from w46.x _ _ rfl).trans ((show Xi T2 876 7 = Xi T1 876 7 from w30.x _ _ rfl))
            have w48 : Xi T3 895 5 = Xi T2 895 5 := (show Xi T3 895 5 = Xi T2 895 5 from w46.x _ _ rfl)
            have w49 : Xi T3 895 6 = Xi T2 895 6 := (show Xi T3 895 6 = Xi T2 895 6 from w46.x _ _ rfl)
            exact ⟨hHT3, hFT3, _, rfl, ⟨by omega, by omega⟩, (by first | (have u := K162; first | (have u := K105; exact ino_y o6 F6 (by omega) rfl k74 (by rw [inOK, I59]; exact ⟨w81, W100, fun _ => ⟨by rw [← v117]; omega, by rw [← b141]; omega⟩⟩) (by rw [I59]; exact w157) (by rw [inP_y B46]; exact v117) o162) | exact ino_y o6 F6 (by omega) rfl k74 (by rw [inOK, I59]; exact ⟨w81, W100, fun q => absurd q B46⟩) (by rw [I59]; exact w157) (by rw [inP_n B46]) o162) | (have u := K105; exact ino_n o6 F6 (by omega) rfl k74 (fun q => by have t := (q.2.2 B46); first | (have u := b141; have r := t.2; rw [I59, ← b141] at r; omega) | (have r := t.1; rw [← v117] at r; omega))) | (have u := K74; first | (have u := w94; exact ino_n o6 F6 (by omega) rfl k74 (fun q => by have t := q.2.1; rw [I59, ← w94] at t; omega)) | exact ino_n o6 F6 (by omega) rfl k74 (fun q => by have t := q.1; rw [I59, ← w74] at t; omega)) | exact ino_b o6 F6 (by omega) rfl), (KS), (by omega), (PS), (by first | (have u := K162; exact fun _ => WS) | exact fun q => absurd q (by decide)), (by first | (have u := K162; exact iao_8 o162 (by omega)) | omega)⟩
          · exfalso; omega
        · refine y_iconst rfl ?_
          refine y_ireturn rfl rfl ?_
          have w50 : Xi T2 246 8 = Xi S 246 8 := (show Xi T2 246 8 = Xi T1 246 8 from w30.x _ _ rfl).trans ((show Xi T1 246 8 = Xi S 246 8 from w8.x _ _ rfl))
          exact ⟨hHT2, hFT2, _, rfl, ⟨by omega, by omega⟩, (by first | (have u := K162; first | (have u := K105; exact ino_y o6 F6 (by omega) rfl k74 (by rw [inOK, I59]; exact ⟨w81, W100, fun _ => ⟨by rw [← v117]; omega, by rw [← b141]; omega⟩⟩) (by rw [I59]; exact w157) (by rw [inP_y B46]; exact v117) o162) | exact ino_y o6 F6 (by omega) rfl k74 (by rw [inOK, I59]; exact ⟨w81, W100, fun q => absurd q B46⟩) (by rw [I59]; exact w157) (by rw [inP_n B46]) o162) | (have u := K105; exact ino_n o6 F6 (by omega) rfl k74 (fun q => by have t := (q.2.2 B46); first | (have u := b141; have r := t.2; rw [I59, ← b141] at r; omega) | (have r := t.1; rw [← v117] at r; omega))) | (have u := K74; first | (have u := w94; exact ino_n o6 F6 (by omega) rfl k74 (fun q => by have t := q.2.1; rw [I59, ← w94] at t; omega)) | exact ino_n o6 F6 (by omega) rfl k74 (fun q => by have t := q.1; rw [I59, ← w74] at t; omega)) | exact ino_b o6 F6 (by omega) rfl), (KS), (by omega), (PS), (by first | (have u := K162; exact fun _ => WS) | exact fun q => absurd q (by decide)), (by first | (have u := K162; exact iao_8 o162 (by omega)) | omega)⟩
    · refine y_iload rfl rfl ?_
      have B46 : bpP T1 z7 := gb25.1 (by omega)
      refine y_iconst rfl ?_
      refine y_iadd rfl ?_
      refine y_goto rfl rfl ?_
      refine y_istore rfl rfl rfl ?_
      refine y_aload_n rfl rfl ?_
      have I59 : inT T1 z7 = (z18 + 1) := by first | (rw [inT_y B46, q46]) | (rw [inT_n B46])
      refine y_gfr rfl rfl rfl rfl rfl (hHT1.r 899 2 895 rfl) ?_
      refine y_iload rfl rfl ?_
      refine y_aload_n rfl rfl ?_
      refine y_gfr rfl rfl rfl rfl rfl (hHT1.r 899 0 876 rfl) ?_
      refine y_callV rfl rfl rfl (t_to_lastRow__p hHT1 (by first | assumption | omega) _) ?_
      rintro _ _ ⟨rfl, z55, rfl, w55, p71⟩
      show Pl _ _ _ _ _ _ [iv z55, iv (z18 + 1), .ref 895] _ _
      have w56 : Xi T1 1 3 = Xi S 1 3 := (show Xi T1 1 3 = Xi S 1 3 from w8.x _ _ rfl)
      refine y_callV rfl rfl rfl (t_me_readThing__p hHT1 (z18 + 1) z55 ⟨by omega, by omega⟩ ⟨by omega, by omega⟩ (by first | assumption | omega) (by first | assumption | exact (CEN_FR hFT1 rfl rfl (by assumption : CEN S))) (by first | assumption | omega) _) ?_
      rintro _ T4 ⟨hHT4, w61, z60, rfl, w60, o74, b74⟩
      have hFT4 : FR md_rr_insert__p S T4 := FR.tr hFT1 w61 rfl
      show Pl _ _ _ _ _ _ [iv z60] _ _
      have K74 : True := trivial
      have R74 := o74
      clear o74
      have F74 := (by assumption : FR md_me_readThing__p T1 T4)
      have k74 : KIN T1 T4 := kin_F F74 rfl rfl
      have KS := kr_F F74 rfl KS
      have PS := plh_F F74 rfl PS
      have WS := rww_F F74 rfl rfl WS
      have x74 : Xi T4 876 7 = Xi T1 876 7 := F74.x 876 7 rfl
      have w74 : z60 = wheC T1 (z18 + 1) (Xi T1 876 7 - 1) := by have t := R74.2.2.2; rw [p71] at t; exact t
      refine y_aload_n rfl rfl ?_
      refine y_gfr rfl rfl rfl rfl rfl (hHT4.r 899 0 876 rfl) ?_
      have w63 : Xi T4 876 7 = Xi T1 876 7 := (show Xi T4 876 7 = Xi T1 876 7 from w61.x _ _ rfl)
      refine y_callV rfl rfl rfl (t_to_lastRow__p hHT4 (by first | assumption | omega) _) ?_
      rintro _ _ ⟨rfl, z64, rfl, w64, p81⟩
      show Pl _ _ _ _ _ _ [iv z64, iv z60] _ _
      refine y_icmp_ne rfl rfl (by unfold rg; omega) (by unfold rg; omega) (fun w65 => ?_) (fun w66 => ?_)
      · refine y_iconst rfl ?_
        refine y_ireturn rfl rfl ?_
        have w67 : Xi T4 246 8 = Xi S 246 8 := (show Xi T4 246 8 = Xi T1 246 8 from w61.x _ _ rfl).trans ((show Xi T1 246 8 = Xi S 246 8 from w8.x _ _ rfl))
        exact ⟨hHT4, hFT4, _, rfl, ⟨by omega, by omega⟩, (by first | (have u := K162; first | (have u := K105; exact ino_y o6 F6 (by omega) rfl k74 (by rw [inOK, I59]; exact ⟨w81, W100, fun _ => ⟨by rw [← v117]; omega, by rw [← b141]; omega⟩⟩) (by rw [I59]; exact w157) (by rw [inP_y B46]; exact v117) o162) | exact ino_y o6 F6 (by omega) rfl k74 (by rw [inOK, I59]; exact ⟨w81, W100, fun q => absurd q B46⟩) (by rw [I59]; exact w157) (by rw [inP_n B46]) o162) | (have u := K105; exact ino_n o6 F6 (by omega) rfl k74 (fun q => by have t := (q.2.2 B46); first | (have u := b141; have r := t.2; rw [I59, ← b141] at r; omega) | (have r := t.1; rw [← v117] at r; omega))) | (have u := K74; first | (have u := w94; exact ino_n o6 F6 (by omega) rfl k74 (fun q => by have t := q.2.1; rw [I59, ← w94] at t; omega)) | exact ino_n o6 F6 (by omega) rfl k74 (fun q => by have t := q.1; rw [I59, ← w74] at t; omega)) | exact ino_b o6 F6 (by omega) rfl), (KS), (by omega), (PS), (by first | (have u := K162; exact fun _ => WS) | exact fun q => absurd q (by decide)), (by first | (have u := K162; exact iao_8 o162 (by omega)) | omega)⟩
      · refine y_aload_n rfl rfl ?_
        have w81 : wheC T1 (z18 + 1) (Xi T1 876 7 - 1) = Xi T1 876 7 - 1 := by rw [← w74]; omega
        refine y_gfr rfl rfl rfl rfl rfl (hHT4.r 899 2 895 rfl) ?_
        refine y_gfi rfl rfl rfl rfl rfl ?_
        have w69 : -2147483648 ≤ (Xi T4 895 5) ∧ (Xi T4 895 5) ≤ 2147483647 := Xi_rgI
        have w94 : (Xi T4 895 5) = whoC T1 (z18 + 1) (Xi T1 876 7 - 1) := by have t := R74.1; rw [p71] at t; exact t
        refine y_iconst rfl ?_
        refine y_icmp_ne rfl rfl (by unfold rg; omega) (by unfold rg; omega) (fun w70 => ?_) (fun w71 => ?_)
        · refine y_iload rfl rfl ?_
          have W100 : whoC T1 (z18 + 1) (Xi T1 876 7 - 1) ≠ -1 := by rw [← w94]; omega
          refine y_if_eq rfl rfl (by unfold rg; omega) (fun w72 => ?_) (fun w73 => ?_)
          · exfalso; omega
          · refine y_aload_n rfl rfl ?_
            have K105 : True := trivial
            refine y_gfr rfl rfl rfl rfl rfl (hHT4.r 899 2 895 rfl) ?_
            refine y_iconst rfl ?_
            refine y_iload rfl rfl ?_
            refine y_iload rfl rfl ?_
            have w74 : Xi T4 1 3 = Xi S 1 3 := (show Xi T4 1 3 = Xi T1 1 3 from w61.x _ _ rfl).trans ((show Xi T1 1 3 = Xi S 1 3 from w8.x _ _ rfl))
            refine y_callV rfl rfl rfl (t_me_find__p hHT4 5 (z7 + 1) z18 ⟨by omega, by omega⟩ ⟨by omega, by omega⟩ ⟨by omega, by omega⟩ (by first | assumption | omega) (by first | assumption | exact (CEN_FR hFT4 rfl rfl (by assumption : CEN S))) _) ?_
            rintro _ _ ⟨rfl, z77, rfl, w77, v114⟩
            show Pl _ _ _ _ _ _ [iv z77] _ _
            have v117 : z77 = fnd T1 5 (z7 + 1) (re7 (ty7 T1) (z7 + 1)) := by rw [q46]; exact v114.trans (fnd_FR F74 rfl)
            refine y_istore rfl rfl rfl ?_
            refine y_iload rfl rfl ?_
            refine y_iconst rfl ?_
            refine y_icmp_eq rfl rfl (by unfold rg; omega) (by unfold rg; omega) (fun w78 => ?_) (fun w79 => ?_)
            · refine y_iconst rfl ?_
              refine y_ireturn rfl rfl ?_
              have w80 : Xi T4 246 8 = Xi S 246 8 := (show Xi T4 246 8 = Xi T1 246 8 from w61.x _ _ rfl).trans ((show Xi T1 246 8 = Xi S 246 8 from w8.x _ _ rfl))
              have w81 : Xi T4 876 7 = Xi T1 876 7 := (show Xi T4 876 7 = Xi T1 876 7 from w61.x _ _ rfl)
              exact ⟨hHT4, hFT4, _, rfl, ⟨by omega, by omega⟩, (by first | (have u := K162; first | (have u := K105; exact ino_y o6 F6 (by omega) rfl k74 (by rw [inOK, I59]; exact ⟨w81, W100, fun _ => ⟨by rw [← v117]; omega, by rw [← b141]; omega⟩⟩) (by rw [I59]; exact w157) (by rw [inP_y B46]; exact v117) o162) | exact ino_y o6 F6 (by omega) rfl k74 (by rw [inOK, I59]; exact ⟨w81, W100, fun q => absurd q B46⟩) (by rw [I59]; exact w157) (by rw [inP_n B46]) o162) | (have u := K105; exact ino_n o6 F6 (by omega) rfl k74 (fun q => by have t := (q.2.2 B46); first | (have u := b141; have r := t.2; rw [I59, ← b141] at r; omega) | (have r := t.1; rw [← v117] at r; omega))) | (have u := K74; first | (have u := w94; exact ino_n o6 F6 (by omega) rfl k74 (fun q => by have t := q.2.1; rw [I59, ← w94] at t; omega)) | exact ino_n o6 F6 (by omega) rfl k74 (fun q => by have t := q.1; rw [I59, ← w74] at t; omega)) | exact ino_b o6 F6 (by omega) rfl), (KS), (by omega), (PS), (by first | (have u := K162; exact fun _ => WS) | exact fun q => absurd q (by decide)), (by first | (have u := K162; exact iao_8 o162 (by omega)) | omega)⟩
            · refine y_aload_n rfl rfl ?_
              refine y_gfr rfl rfl rfl rfl rfl (hHT4.r 899 1 1 rfl) ?_
              refine y_aload_n rfl rfl ?_
              refine y_gfr rfl rfl rfl rfl rfl (hHT4.r 899 2 895 rfl) ?_
              refine y_gfi rfl rfl rfl rfl rfl ?_
              have w82 : -2147483648 ≤ (Xi T4 895 6) ∧ (Xi T4 895 6) ≤ 2147483647 := Xi_rgI
              refine y_callV rfl rfl rfl (t_vo_propertiesOf__p hHT4 (Xi T4 895 6) ⟨by omega, by omega⟩ _) ?_
              rintro _ _ ⟨rfl, z85, rfl, w85, q136⟩
              show Pl _ _ _ _ _ _ [iv z85] _ _
              have b136 : z85 = pps T1 (whkC T1 (z18 + 1) (Xi T1 876 7 - 1)) := by have t := R74.2.1; rw [p71] at t; rw [← t]; exact q136.trans (ra_p F74 rfl rfl)
              refine y_iload rfl rfl ?_
              refine y_ishrF rfl ?_
              have w86 : -2147483648 ≤ (ishrF z85 z77) ∧ (ishrF z85 z77) ≤ 2147483647 := ishrF_rg
              refine y_iconst rfl ?_
              refine y_iandF rfl ?_
              have w87 : 0 ≤ (iandF (ishrF z85 z77) 1) ∧ (iandF (ishrF z85 z77) 1) ≤ 1 := iandF_le (by omega) (by unfold rg; omega)
              have b141 : (iandF (ishrF z85 z77) 1) = iandF (ishrF (pps T1 (whkC T1 (z18 + 1) (Xi T1 876 7 - 1))) (fnd T1 5 (z7 + 1) (re7 (ty7 T1) (z7 + 1)))) 1 := by rw [← b136, ← v117]
              refine y_if_ne rfl rfl (by unfold rg; omega) (fun w88 => ?_) (fun w89 => ?_)
              · refine y_aload_n rfl rfl ?_
                refine y_gfr rfl rfl rfl rfl rfl (hHT4.r 899 3 246 rfl) ?_
                refine y_aload_n rfl rfl ?_
                refine y_gfr rfl rfl rfl rfl rfl (hHT4.r 899 2 895 rfl) ?_
                refine y_gfi rfl rfl rfl rfl rfl ?_
                have w157 : (Xi T4 895 5) = whoC T1 (z18 + 1) (Xi T1 876 7 - 1) := by have t := R74.1; rw [p71] at t; exact t
                refine y_iload rfl rfl ?_
                have w90 : Xi T4 246 8 = Xi S 246 8 := (show Xi T4 246 8 = Xi T1 246 8 from w61.x _ _ rfl).trans ((show Xi T1 246 8 = Xi S 246 8 from w8.x _ _ rfl))
                refine y_callV rfl rfl rfl (t_bo_addInsert__p hHT4 (Xi T4 895 5) z77 ⟨by omega, by omega⟩ ⟨by omega, by omega⟩ (by first | assumption | omega) _) ?_
                rintro _ T5 ⟨hHT5, w93, rfl, o162⟩
                have hFT5 : FR md_rr_insert__p S T5 := FR.tr hFT4 w93 rfl
                show Pl _ _ _ _ _ _ [] _ _
                have K162 : True := trivial
                have F162 := (by assumption : FR md_bo_addInsert__p T4 T5)
                have KS := kr_F F162 rfl KS
                have PS := plh_F F162 rfl PS
                have WS := rww_F F162 rfl rfl WS
                refine y_iconst rfl ?_
                refine y_ireturn rfl rfl ?_
                have w94 : Xi T5 876 7 = Xi T1 876 7 := (show Xi T5 876 7 = Xi T4 876 7 from w93.x _ _ rfl).trans ((show Xi T4 876 7 = Xi T1 876 7 from w61.x _ _ rfl))
                have w95 : Xi T5 895 5 = Xi T4 895 5 := (show Xi T5 895 5 = Xi T4 895 5 from w93.x _ _ rfl)
                have w96 : Xi T5 895 6 = Xi T4 895 6 := (show Xi T5 895 6 = Xi T4 895 6 from w93.x _ _ rfl)
                exact ⟨hHT5, hFT5, _, rfl, ⟨by omega, by omega⟩, (by first | (have u := K162; first | (have u := K105; exact ino_y o6 F6 (by omega) rfl k74 (by rw [inOK, I59]; exact ⟨w81, W100, fun _ => ⟨by rw [← v117]; omega, by rw [← b141]; omega⟩⟩) (by rw [I59]; exact w157) (by rw [inP_y B46]; exact v117) o162) | exact ino_y o6 F6 (by omega) rfl k74 (by rw [inOK, I59]; exact ⟨w81, W100, fun q => absurd q B46⟩) (by rw [I59]; exact w157) (by rw [inP_n B46]) o162) | (have u := K105; exact ino_n o6 F6 (by omega) rfl k74 (fun q => by have t := (q.2.2 B46); first | (have u := b141; have r := t.2; rw [I59, ← b141] at r; omega) | (have r := t.1; rw [← v117] at r; omega))) | (have u := K74; first | (have u := w94; exact ino_n o6 F6 (by omega) rfl k74 (fun q => by have t := q.2.1; rw [I59, ← w94] at t; omega)) | exact ino_n o6 F6 (by omega) rfl k74 (fun q => by have t := q.1; rw [I59, ← w74] at t; omega)) | exact ino_b o6 F6 (by omega) rfl), (KS), (by omega), (PS), (by first | (have u := K162; exact fun _ => WS) | exact fun q => absurd q (by decide)), (by first | (have u := K162; exact iao_8 o162 (by omega)) | omega)⟩
              · refine y_iconst rfl ?_
                refine y_ireturn rfl rfl ?_
                have w97 : Xi T4 246 8 = Xi S 246 8 := (show Xi T4 246 8 = Xi T1 246 8 from w61.x _ _ rfl).trans ((show Xi T1 246 8 = Xi S 246 8 from w8.x _ _ rfl))
                exact ⟨hHT4, hFT4, _, rfl, ⟨by omega, by omega⟩, (by first | (have u := K162; first | (have u := K105; exact ino_y o6 F6 (by omega) rfl k74 (by rw [inOK, I59]; exact ⟨w81, W100, fun _ => ⟨by rw [← v117]; omega, by rw [← b141]; omega⟩⟩) (by rw [I59]; exact w157) (by rw [inP_y B46]; exact v117) o162) | exact ino_y o6 F6 (by omega) rfl k74 (by rw [inOK, I59]; exact ⟨w81, W100, fun q => absurd q B46⟩) (by rw [I59]; exact w157) (by rw [inP_n B46]) o162) | (have u := K105; exact ino_n o6 F6 (by omega) rfl k74 (fun q => by have t := (q.2.2 B46); first | (have u := b141; have r := t.2; rw [I59, ← b141] at r; omega) | (have r := t.1; rw [← v117] at r; omega))) | (have u := K74; first | (have u := w94; exact ino_n o6 F6 (by omega) rfl k74 (fun q => by have t := q.2.1; rw [I59, ← w94] at t; omega)) | exact ino_n o6 F6 (by omega) rfl k74 (fun q => by have t := q.1; rw [I59, ← w74] at t; omega)) | exact ino_b o6 F6 (by omega) rfl), (KS), (by omega), (PS), (by first | (have u := K162; exact fun _ => WS) | exact fun q => absurd q (by decide)), (by first | (have u := K162; exact iao_8 o162 (by omega)) | omega)⟩
        · refine y_iconst rfl ?_
          refine y_ireturn rfl rfl ?_
          have w99 : Xi T4 246 8 = Xi S 246 8 := (show Xi T4 246 8 = Xi T1 246 8 from w61.x _ _ rfl).trans ((show Xi T1 246 8 = Xi S 246 8 from w8.x _ _ rfl))
          exact ⟨hHT4, hFT4, _, rfl, ⟨by omega, by omega⟩, (by first | (have u := K162; first | (have u := K105; exact ino_y o6 F6 (by omega) rfl k74 (by rw [inOK, I59]; exact ⟨w81, W100, fun _ => ⟨by rw [← v117]; omega, by rw [← b141]; omega⟩⟩) (by rw [I59]; exact w157) (by rw [inP_y B46]; exact v117) o162) | exact ino_y o6 F6 (by omega) rfl k74 (by rw [inOK, I59]; exact ⟨w81, W100, fun q => absurd q B46⟩) (by rw [I59]; exact w157) (by rw [inP_n B46]) o162) | (have u := K105; exact ino_n o6 F6 (by omega) rfl k74 (fun q => by have t := (q.2.2 B46); first | (have u := b141; have r := t.2; rw [I59, ← b141] at r; omega) | (have r := t.1; rw [← v117] at r; omega))) | (have u := K74; first | (have u := w94; exact ino_n o6 F6 (by omega) rfl k74 (fun q => by have t := q.2.1; rw [I59, ← w94] at t; omega)) | exact ino_n o6 F6 (by omega) rfl k74 (fun q => by have t := q.1; rw [I59, ← w74] at t; omega)) | exact ino_b o6 F6 (by omega) rfl), (KS), (by omega), (PS), (by first | (have u := K162; exact fun _ => WS) | exact fun q => absurd q (by decide)), (by first | (have u := K162; exact iao_8 o162 (by omega)) | omega)⟩
  · refine y_iconst rfl ?_
    refine y_ireturn rfl rfl ?_
    have w101 : Xi T1 246 8 = Xi S 246 8 := (show Xi T1 246 8 = Xi S 246 8 from w8.x _ _ rfl)
    have w102 : Xi T1 895 5 = Xi S 895 5 := (show Xi T1 895 5 = Xi S 895 5 from w8.x _ _ rfl)
    have w103 : Xi T1 895 6 = Xi S 895 6 := (show Xi T1 895 6 = Xi S 895 6 from w8.x _ _ rfl)
    exact ⟨hHT1, hFT1, _, rfl, ⟨by omega, by omega⟩, (by first | (have u := K162; first | (have u := K105; exact ino_y o6 F6 (by omega) rfl k74 (by rw [inOK, I59]; exact ⟨w81, W100, fun _ => ⟨by rw [← v117]; omega, by rw [← b141]; omega⟩⟩) (by rw [I59]; exact w157) (by rw [inP_y B46]; exact v117) o162) | exact ino_y o6 F6 (by omega) rfl k74 (by rw [inOK, I59]; exact ⟨w81, W100, fun q => absurd q B46⟩) (by rw [I59]; exact w157) (by rw [inP_n B46]) o162) | (have u := K105; exact ino_n o6 F6 (by omega) rfl k74 (fun q => by have t := (q.2.2 B46); first | (have u := b141; have r := t.2; rw [I59, ← b141] at r; omega) | (have r := t.1; rw [← v117] at r; omega))) | (have u := K74; first | (have u := w94; exact ino_n o6 F6 (by omega) rfl k74 (fun q => by have t := q.2.1; rw [I59, ← w94] at t; omega)) | exact ino_n o6 F6 (by omega) rfl k74 (fun q => by have t := q.1; rw [I59, ← w74] at t; omega)) | exact ino_b o6 F6 (by omega) rfl), (KS), (by omega), (PS), (by first | (have u := K162; exact fun _ => WS) | exact fun q => absurd q (by decide)), (by first | (have u := K162; exact iao_8 o162 (by omega)) | omega)⟩
end
