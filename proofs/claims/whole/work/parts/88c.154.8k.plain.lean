section
/-! 15: plain (class) -/
def nh5 (S : sS) : Int := if ty7 S (Xi S 890 3 + 1) = 6 then 1 else 0
def wh5 (S : sS) : Int := Xi S 890 3 + (if ty7 S (Xi S 890 3 + 1) = 6 then 2 else 1)
def eh5 (S : sS) : Int := re7 (ty7 S) (wh5 S)
def ph5 (S : sS) : Prop := (ty7 S (Xi S 890 3) = 5 ∧ nh5 S = 0) ∧ eh5 S - wh5 S ≤ 6 ∧ 0 < ccT S (wh5 S) (eh5 S) 1 0 (-1) 4
def ah5 (S : sS) : Prop := mnV S (wh5 S) (eh5 S) / 256 = 3 ∨ mnV S (wh5 S) (eh5 S) / 256 = 4
theorem tdg_1 {A B : sS} {z a t pl : Int} (o : TDS A B z a t pl) (hz : z ≠ 0) : t - a ≤ 6 ∧ ccT A a t pl 0 (-1) 4 = 1 := by
  obtain ⟨o1, o2, o3⟩ := o
  by_cases q : 6 < t - a ∨ ccT A a t pl 0 (-1) 4 = 0
  · exact absurd (o1 q).1 hz
  · by_cases w : 1 < ccT A a t pl 0 (-1) 4
    · exact absurd (o2 (by omega) w).1 hz
    · have n := ccT_nn (S := A) (a := a) (t := t) (pl := pl) (d := 0) (al := -1) (v := 4)
      exact ⟨by omega, by omega⟩
theorem tdg_n {A B : sS} {z a t pl : Int} (o : TDS A B z a t pl) (hz : z ≠ 0) : Xi B 876 8 = Xi A 876 8 ∧ (0 ≤ Xi B 895 14 ∧ Xi B 895 14 ≤ 6) ∧ ∀ i : Nat, (i : Int) < Xi B 895 14 → -1 ≤ Xi B 897 i ∧ Xi B 897 i ≤ 11 := by
  have d := tdg_1 o hz
  obtain ⟨_, f, m, _, _, _, _, m5⟩ := o.2.2 d.1 d.2
  exact ⟨f, kpc_rg m5⟩
def TPNA (C S1 : sS) (z a t : Int) : Prop := ∃ (A : sS) (y : Int), TOB C A y ∧ FR md_re_takeObjects__p C A ∧ ((y = 0 ∧ z = 0 ∧ S1 = A) ∨ (y ≠ 0 ∧ ∃ (B : sS) (x : Int), TDS A B x a t 1 ∧ FR md_re_takeDescription__p A B ∧ ((x = 0 ∧ z = 0 ∧ S1 = B) ∨ (x ≠ 0 ∧ DOB B S1 z 1))))
def TPNB (h : List rec) (S C S1 : sS) (z a t nt : Int) : Prop := ∃ (A : sS) (y : Int), TOO C A y ∧ ((y = 0 ∧ z = 0 ∧ S1 = A) ∨ (y = 1 ∧ ph5 S ∧ z = 0 ∧ FTO S S1 7 a) ∨ (y = 1 ∧ ¬ ph5 S ∧ ∃ (B : sS) (x : Int), ASP A B x a t nt ∧ FR md_re_adjectiveSuits__p A B ∧ ((x = 0 ∧ z = 0 ∧ S1 = B) ∨ (x ≠ 0 ∧ DAD h B S1 z a t nt))))
def TPN (g h : List rec) (S S1 : sS) (z : Int) : Prop := ∃ C : sS, FR g S C ∧ ((ph5 S ∧ ¬ ah5 S ∧ TPNA C S1 z (wh5 S) (eh5 S)) ∨ ((¬ ph5 S ∨ ah5 S) ∧ TPNB h S C S1 z (wh5 S) (eh5 S) (nh5 S)))
theorem oL_eq {S U : sS} {i : Nat} (v : SMV S U) (t : ty7 U = ty7 S) : oL U i = oL S i := by unfold oL; rw [t, fnd_eq v]
theorem asp_ok {S S1 : sS} {z a t nt : Int} (h : ASP S S1 z a t nt) (hz : z ≠ 0) : Xi S1 876 8 = 0 := by
  obtain ⟨h1, h2, h3⟩ := h
  have n1 : ∀ i : Nat, i < nL S → qL S i a t nt ≠ 0 := fun i hi e => hz (h1 ⟨i, hi, e⟩).1
  have n2 : ∀ i : Nat, i < nL S → qL S i a t nt ≤ 1 := fun i hi => by
    by_cases q : qL S i a t nt ≤ 1
    · exact q
    · exact absurd (h2 n1 ⟨i, hi, by omega⟩).1 hz
  exact (h3 n1 n2).2

def md_re_tellPlain__p : List rec := [(1, 2, 3, 4), (2, 3, 0, 100000), (3, 4, 0, 100000), (4, 5, 0, 100000), (5, 6, 0, 100000), (21, 22, 0, 100000), (22, 23, 0, 100000), (23, 24, 0, 100000), (25, 65, 0, 100000), (66, 106, 0, 100000), (107, 147, 0, 100000), (148, 188, 0, 100000), (876, 877, 8, 9), (876, 877, 9, 10), (891, 892, 9, 10), (891, 892, 10, 11), (892, 893, 0, 100000), (893, 894, 0, 100000), (895, 896, 8, 9), (895, 896, 9, 10), (895, 896, 12, 13), (895, 896, 13, 14), (895, 896, 14, 15), (896, 897, 0, 100000), (897, 898, 0, 100000), (898, 899, 0, 100000)]
abbrev Q_re_tellPlain__p (S : sS) : pst := fun r S1 => RI S1 ∧ FR md_re_tellPlain__p S S1 ∧ (∃ z : Int, r = some (iv z) ∧ (0 ≤ z ∧ z ≤ 1) ∧ (TPN md_me_countReadings__p md_me_readAdjective__p S S1 z))
set_option maxRecDepth 100000 in
theorem t_re_tellPlain__p {S : sS} (hH : RI S) (h13 : 0 ≤ Xi S 1 3 ∧ Xi S 1 3 ≤ 200) (hCE : CEN S) (hNB : NRB S) (hf : Xi S 876 8 = 0) (hr : Xi S 876 7 ≤ 5130) (ht : 0 ≤ Xi S 890 3 ∧ Xi S 890 3 ≤ 5125) (hn0 : Xi S 891 9 = 0) (h2 : Xi S 1 3 < 199) (hX : TX S) (hw2 : WH2 S) (hc : 0 ≤ Xi S 5 2 ∧ Xi S 5 2 ≤ 24) (hE : Xi S 1 3 + 24 - Xi S 5 2 < 199) (d : Nat) : Mp lay0 (d + 6) m_re_tellPlain [.ref 891] S (Q_re_tellPlain__p S) := by
  refine Mp_R rfl rfl (fun fu => ?_)
  have hF : FR md_re_tellPlain__p S S := FR.rf
  have w1 : -2147483648 ≤ Xi S 1 3 ∧ Xi S 1 3 ≤ 2147483647 := Xi_rgI
  have w2 : -2147483648 ≤ Xi S 5 2 ∧ Xi S 5 2 ≤ 2147483647 := Xi_rgI
  have w3 : -2147483648 ≤ Xi S 876 7 ∧ Xi S 876 7 ≤ 2147483647 := Xi_rgI
  have w4 : -2147483648 ≤ Xi S 876 8 ∧ Xi S 876 8 ≤ 2147483647 := Xi_rgI
  have w5 : -2147483648 ≤ Xi S 890 3 ∧ Xi S 890 3 ≤ 2147483647 := Xi_rgI
  have w6 : -2147483648 ≤ Xi S 891 9 ∧ Xi S 891 9 ≤ 2147483647 := Xi_rgI
  have C110 : ∀  (T1 : sS) (_ : RI T1) (_ : FR md_re_tellPlain__p S T1) (v1 : Int) (v2 : Int) (v3 : Int) (v5 : Int), (0 ≤ v1 ∧ v1 ≤ 1) → (0 ≤ v2 ∧ v2 ≤ 5140) → (0 ≤ v3 ∧ v3 ≤ 5140) → (0 ≤ v5 ∧ v5 ≤ 1) → (v1 = nh5 S) → (v2 = wh5 S) → (v3 = eh5 S) → (0 ≤ v1 ∧ v1 ≤ 1) → (0 ≤ v2 ∧ v2 ≤ 5140) → (0 ≤ v3 ∧ v3 ≤ 5140) → (0 ≤ v5 ∧ v5 ≤ 1) → (Hid ((v5 = 1 → ph5 S) ∧ (v5 = 0 → ¬ ph5 S))) → (FR md_me_countReadings__p S T1) → (CEN T1) → (NRB T1) → (TX T1) → (Xi T1 890 3 = Xi S 890 3) → (Xi T1 876 7 = Xi S 876 7) → (Xi T1 876 8 = 0) → (Xi T1 1 3 = Xi S 1 3) → (Xi T1 5 2 = Xi S 5 2) → (Xi T1 891 9 = 0) → Pl fu lay0 (d + 5) m_re_tellPlain 110 [(0, .ref 891), (1, iv v1), (2, iv v2), (3, iv v3), (5, iv v5)] [] T1 (Q_re_tellPlain__p S) := by
    intro T1 hHT1 hFT1 v1 v2 v3 v5 w7 w8 w9 w10 n1 n2 n3 w11 w12 w13 w14 P5 C5 E5 B5 X5 w15 w16 w17 w18 w19 w20
    have w21 : Xi T1 876 7 = Xi S 876 7 := hFT1.x _ _ rfl
    have w22 : Xi T1 890 3 = Xi S 890 3 := hFT1.x _ _ rfl
    have w23 : Xi T1 891 11 = Xi S 891 11 := hFT1.x _ _ rfl
    have w24 : Xi T1 891 12 = Xi S 891 12 := hFT1.x _ _ rfl
    have w25 : -2147483648 ≤ Xi T1 1 3 ∧ Xi T1 1 3 ≤ 2147483647 := Xi_rgI
    have w26 : -2147483648 ≤ Xi T1 5 2 ∧ Xi T1 5 2 ≤ 2147483647 := Xi_rgI
    have w27 : -2147483648 ≤ Xi T1 876 7 ∧ Xi T1 876 7 ≤ 2147483647 := Xi_rgI
    have w28 : -2147483648 ≤ Xi T1 876 8 ∧ Xi T1 876 8 ≤ 2147483647 := Xi_rgI
    have w29 : -2147483648 ≤ Xi T1 890 3 ∧ Xi T1 890 3 ≤ 2147483647 := Xi_rgI
    have w30 : -2147483648 ≤ Xi T1 891 9 ∧ Xi T1 891 9 ≤ 2147483647 := Xi_rgI
    have C150 : ∀  (v1 : Int) (v2 : Int) (v3 : Int) (v5 : Int) (v7 : Int), (0 ≤ v1 ∧ v1 ≤ 1) → (0 ≤ v2 ∧ v2 ≤ 5140) → (0 ≤ v3 ∧ v3 ≤ 5140) → (0 ≤ v5 ∧ v5 ≤ 1) → (0 ≤ v7 ∧ v7 ≤ 1) → (v1 = nh5 S) → (v2 = wh5 S) → (v3 = eh5 S) → (0 ≤ v1 ∧ v1 ≤ 1) → (0 ≤ v2 ∧ v2 ≤ 5140) → (0 ≤ v3 ∧ v3 ≤ 5140) → (0 ≤ v5 ∧ v5 ≤ 1) → (Hid ((v5 = 1 → ph5 S) ∧ (v5 = 0 → ¬ ph5 S))) → (FR md_me_countReadings__p S T1) → (CEN T1) → (NRB T1) → (TX T1) → (0 ≤ v7 ∧ v7 ≤ 1) → (Hid ((v7 = 1 → ah5 S) ∧ (v7 = 0 → ¬ ah5 S))) → (Xi T1 890 3 = Xi S 890 3) → (Xi T1 876 7 = Xi S 876 7) → (Xi T1 876 8 = 0) → (Xi T1 1 3 = Xi S 1 3) → (Xi T1 5 2 = Xi S 5 2) → (Xi T1 891 9 = 0) → Pl fu lay0 (d + 5) m_re_tellPlain 150 [(0, .ref 891), (1, iv v1), (2, iv v2), (3, iv v3), (5, iv v5), (7, iv v7)] [] T1 (Q_re_tellPlain__p S) := by
      intro v1 v2 v3 v5 v7 w31 w32 w33 w34 w35 m1 m2 m3 w36 w37 w38 w39 P7 C7 E7 B7 X7 w40 A7 w41 w42 w43 w44 w45 w46
      refine y_iload rfl rfl ?_
      refine y_if_eq rfl rfl (by unfold rg; omega) (fun w47 => ?_) (fun w48 => ?_)
      · refine y_aload_n rfl rfl ?_
        have G191 : Hid (¬ ph5 S ∨ ah5 S) := by first | exact Or.inl (P7.o.2 (by omega)) | exact Or.inr (A7.o.1 (by omega))
        refine y_callV rfl rfl rfl (t_re_takeOldObjects__p hHT1 (by first | assumption | omega) (by first | assumption | exact (by assumption : CEN T1)) (by first | assumption | omega) (by first | assumption | omega) (by first | assumption | omega) _) ?_
        rintro _ T2 ⟨hHT2, w50, z49, rfl, w49, o192⟩
        have hFT2 : FR md_re_tellPlain__p S T2 := FR.tr hFT1 w50 rfl
        show Pl _ _ _ _ _ _ [iv z49] _ _
        have O192 := Hid.i o192
        clear o192
        refine y_if_ne rfl rfl (by unfold rg; omega) (fun w51 => ?_) (fun w52 => ?_)
        · refine y_iload rfl rfl ?_
          have e200 : T2 = T1 := (O192.o.1 (by omega)).1
          have H200 := Hid.i (O192.o.1 (by omega)).2
          have z200 : Xi T2 876 8 = 0 := by rw [e200]; omega
          refine y_if_eq rfl rfl (by unfold rg; omega) (fun w53 => ?_) (fun w54 => ?_)
          · refine y_aload_n rfl rfl ?_
            refine y_iload_n rfl rfl ?_
            refine y_iload_n rfl rfl ?_
            refine y_iload_n rfl rfl ?_
            have w55 : Xi T2 1 3 = Xi T1 1 3 := (show Xi T2 1 3 = Xi T1 1 3 from w50.x _ _ rfl)
            have w56 : Xi T2 5 2 = Xi T1 5 2 := (show Xi T2 5 2 = Xi T1 5 2 from w50.x _ _ rfl)
            have w57 : Xi T2 876 7 = Xi T1 876 7 := (show Xi T2 876 7 = Xi T1 876 7 from w50.x _ _ rfl)
            have w58 : Xi T2 890 3 = Xi T1 890 3 := (show Xi T2 890 3 = Xi T1 890 3 from w50.x _ _ rfl)
            have w59 : Xi T2 891 9 = Xi T1 891 9 := (show Xi T2 891 9 = Xi T1 891 9 from w50.x _ _ rfl)
            refine y_callV rfl rfl rfl (t_re_adjectiveSuits__p hHT2 v2 v3 v1 ⟨by omega, by omega⟩ ⟨by omega, by omega⟩ ⟨by omega, by omega⟩ (by first | assumption | omega) (by first | assumption | exact (CEN_FR w50 rfl rfl (by assumption : CEN T1))) (by first | assumption | omega) (by first | assumption | omega) (by first | assumption | omega) _) ?_
            rintro _ T3 ⟨hHT3, w61, z60, rfl, w60, o220⟩
            have hFT3 : FR md_re_tellPlain__p S T3 := FR.tr hFT2 w61 rfl
            show Pl _ _ _ _ _ _ [iv z60] _ _
            have K220 : True := trivial
            have O220 : Hid (ASP T2 T3 z60 (wh5 S) (eh5 S) (nh5 S)) := by have u := o220; rw [m1, m2, m3] at u; exact u
            clear o220
            have F220 := (by assumption : FR md_re_adjectiveSuits__p T2 T3)
            refine y_if_eq rfl rfl (by unfold rg; omega) (fun w62 => ?_) (fun w63 => ?_)
            · refine y_iconst rfl ?_
              refine y_ireturn rfl rfl ?_
              have w64 : Xi T3 1 3 = Xi T1 1 3 := (show Xi T3 1 3 = Xi T2 1 3 from w61.x _ _ rfl).trans ((show Xi T2 1 3 = Xi T1 1 3 from w50.x _ _ rfl))
              have w65 : Xi T3 5 2 = Xi T1 5 2 := (show Xi T3 5 2 = Xi T2 5 2 from w61.x _ _ rfl).trans ((show Xi T2 5 2 = Xi T1 5 2 from w50.x _ _ rfl))
              have w66 : Xi T3 876 7 = Xi T1 876 7 := (show Xi T3 876 7 = Xi T2 876 7 from w61.x _ _ rfl).trans ((show Xi T2 876 7 = Xi T1 876 7 from w50.x _ _ rfl))
              have w67 : Xi T3 890 3 = Xi T1 890 3 := (show Xi T3 890 3 = Xi T2 890 3 from w61.x _ _ rfl).trans ((show Xi T2 890 3 = Xi T1 890 3 from w50.x _ _ rfl))
              have w68 : Xi T3 891 9 = Xi T1 891 9 := (show Xi T3 891 9 = Xi T2 891 9 from w61.x _ _ rfl).trans ((show Xi T2 891 9 = Xi T1 891 9 from w50.x _ _ rfl))
              exact ⟨hHT3, hFT3, _, rfl, ⟨by omega, by omega⟩, (by first | (have u := K179; exact ⟨_, C7, Or.inl ⟨P7.o.1 (by omega), A7.o.2 (by omega), _, _, O161.o, F161, Or.inr ⟨by omega, _, _, O171.o, F171, Or.inr ⟨by omega, Eq.subst (motive := fun x => DOB _ T3 x 1) (by omega) O179.o⟩⟩⟩⟩) | (have u := K171; exact ⟨_, C7, Or.inl ⟨P7.o.1 (by omega), A7.o.2 (by omega), _, _, O161.o, F161, Or.inr ⟨by omega, _, _, O171.o, F171, Or.inl ⟨by omega, by omega, rfl⟩⟩⟩⟩) | (have u := K161; exact ⟨_, C7, Or.inl ⟨P7.o.1 (by omega), A7.o.2 (by omega), _, _, O161.o, F161, Or.inl ⟨by omega, by omega, rfl⟩⟩⟩) | (have u := K230; exact ⟨_, C7, Or.inr ⟨G191.o, _, _, O192.o, Or.inr (Or.inr ⟨by omega, P7.o.2 (by omega), _, _, O220.o, F220, Or.inr ⟨by omega, Eq.subst (motive := fun x => DAD md_me_readAdjective__p _ T3 x (wh5 S) (eh5 S) (nh5 S)) (by omega) O230.o⟩⟩)⟩⟩) | (have u := K220; exact ⟨_, C7, Or.inr ⟨G191.o, _, _, O192.o, Or.inr (Or.inr ⟨by omega, P7.o.2 (by omega), _, _, O220.o, F220, Or.inl ⟨by omega, by omega, rfl⟩⟩)⟩⟩) | (have u := K212; exact ⟨_, C7, Or.inr ⟨G191.o, _, _, O192.o, Or.inr (Or.inl ⟨by omega, P7.o.1 (by omega), by omega, Y212⟩)⟩⟩) | exact ⟨_, C7, Or.inr ⟨G191.o, _, _, O192.o, Or.inl ⟨by omega, by omega, rfl⟩⟩⟩)⟩
            · refine y_aload_n rfl rfl ?_
              have z226 : Xi T3 876 8 = 0 := asp_ok O220.o (by omega)
              have F226 : FR md_re_adjectiveSuits__p T1 T3 := by have u := F220; rw [e200] at u; exact u
              have t226 : ty7 T3 = ty7 T1 := FRT F226 rfl rfl
              have h226 : Hid (∀ i : Nat, i < nL T3 → oL T3 i ≠ -1) := fun i hi => by rw [oL_eq (SMV_FR F226 rfl rfl) t226]; exact H200.o i (by unfold nL at hi ⊢; rw [t226, F226.x 890 3 rfl] at hi; exact hi)
              refine y_iload_n rfl rfl ?_
              refine y_iload_n rfl rfl ?_
              refine y_iload_n rfl rfl ?_
              have w69 : Xi T3 1 3 = Xi T1 1 3 := (show Xi T3 1 3 = Xi T2 1 3 from w61.x _ _ rfl).trans ((show Xi T2 1 3 = Xi T1 1 3 from w50.x _ _ rfl))
              have w71 : Xi T3 876 7 = Xi T1 876 7 := (show Xi T3 876 7 = Xi T2 876 7 from w61.x _ _ rfl).trans ((show Xi T2 876 7 = Xi T1 876 7 from w50.x _ _ rfl))
              have w72 : Xi T3 890 3 = Xi T1 890 3 := (show Xi T3 890 3 = Xi T2 890 3 from w61.x _ _ rfl).trans ((show Xi T2 890 3 = Xi T1 890 3 from w50.x _ _ rfl))
              refine y_callV rfl rfl rfl (t_re_doAdjective__p hHT3 v2 v3 v1 ⟨by omega, by omega⟩ ⟨by omega, by omega⟩ ⟨by omega, by omega⟩ (by first | assumption | omega) (by first | assumption | exact (CEN_FR w61 rfl rfl (CEN_FR w50 rfl rfl (by assumption : CEN T1)))) (by first | assumption | omega) (by first | assumption | omega) (by first | assumption | omega) (by first | assumption | exact (TX_FR w61 rfl (TX_FR w50 rfl (by first | assumption | exact (by assumption : WI T1).2.1 : TX T1)))) (h226) _) ?_
              rintro _ T4 ⟨hHT4, w75, z74, rfl, w74, o230⟩
              have hFT4 : FR md_re_tellPlain__p S T4 := FR.tr hFT3 w75 rfl
              show Pl _ _ _ _ _ _ [iv z74] _ _
              have K230 : True := trivial
              have O230 : Hid (DAD md_me_readAdjective__p T3 T4 z74 (wh5 S) (eh5 S) (nh5 S)) := by have u := o230; rw [m1, m2, m3] at u; exact u
              clear o230
              refine y_if_eq rfl rfl (by unfold rg; omega) (fun w76 => ?_) (fun w77 => ?_)
              · refine y_iconst rfl ?_
                refine y_ireturn rfl rfl ?_
                have w78 : Xi T4 1 3 = Xi T1 1 3 := (show Xi T4 1 3 = Xi T3 1 3 from w75.x _ _ rfl).trans ( (show Xi T3 1 3 = Xi T2 1 3 from w61.x _ _ rfl).trans ((show Xi T2 1 3 = Xi T1 1 3 from w50.x _ _ rfl)))
                have w79 : Xi T4 5 2 = Xi T1 5 2 := (show Xi T4 5 2 = Xi T3 5 2 from w75.x _ _ rfl).trans ( (show Xi T3 5 2 = Xi T2 5 2 from w61.x _ _ rfl).trans ((show Xi T2 5 2 = Xi T1 5 2 from w50.x _ _ rfl)))
                have w80 : Xi T4 876 7 = Xi T1 876 7 := (show Xi T4 876 7 = Xi T3 876 7 from w75.x _ _ rfl).trans ( (show Xi T3 876 7 = Xi T2 876 7 from w61.x _ _ rfl).trans ((show Xi T2 876 7 = Xi T1 876 7 from w50.x _ _ rfl)))
                have w81 : Xi T4 890 3 = Xi T1 890 3 := (show Xi T4 890 3 = Xi T3 890 3 from w75.x _ _ rfl).trans ( (show Xi T3 890 3 = Xi T2 890 3 from w61.x _ _ rfl).trans ((show Xi T2 890 3 = Xi T1 890 3 from w50.x _ _ rfl)))
                have w82 : Xi T4 891 9 = Xi T1 891 9 := (show Xi T4 891 9 = Xi T3 891 9 from w75.x _ _ rfl).trans ( (show Xi T3 891 9 = Xi T2 891 9 from w61.x _ _ rfl).trans ((show Xi T2 891 9 = Xi T1 891 9 from w50.x _ _ rfl)))
                exact ⟨hHT4, hFT4, _, rfl, ⟨by omega, by omega⟩, (by first | (have u := K179; exact ⟨_, C7, Or.inl ⟨P7.o.1 (by omega), A7.o.2 (by omega), _, _, O161.o, F161, Or.inr ⟨by omega, _, _, O171.o, F171, Or.inr ⟨by omega, Eq.subst (motive := fun x => DOB _ T4 x 1) (by omega) O179.o⟩⟩⟩⟩) | (have u := K171; exact ⟨_, C7, Or.inl ⟨P7.o.1 (by omega), A7.o.2 (by omega), _, _, O161.o, F161, Or.inr ⟨by omega, _, _, O171.o, F171, Or.inl ⟨by omega, by omega, rfl⟩⟩⟩⟩) | (have u := K161; exact ⟨_, C7, Or.inl ⟨P7.o.1 (by omega), A7.o.2 (by omega), _, _, O161.o, F161, Or.inl ⟨by omega, by omega, rfl⟩⟩⟩) | (have u := K230; exact ⟨_, C7, Or.inr ⟨G191.o, _, _, O192.o, Or.inr (Or.inr ⟨by omega, P7.o.2 (by omega), _, _, O220.o, F220, Or.inr ⟨by omega, Eq.subst (motive := fun x => DAD md_me_readAdjective__p _ T4 x (wh5 S) (eh5 S) (nh5 S)) (by omega) O230.o⟩⟩)⟩⟩) | (have u := K220; exact ⟨_, C7, Or.inr ⟨G191.o, _, _, O192.o, Or.inr (Or.inr ⟨by omega, P7.o.2 (by omega), _, _, O220.o, F220, Or.inl ⟨by omega, by omega, rfl⟩⟩)⟩⟩) | (have u := K212; exact ⟨_, C7, Or.inr ⟨G191.o, _, _, O192.o, Or.inr (Or.inl ⟨by omega, P7.o.1 (by omega), by omega, Y212⟩)⟩⟩) | exact ⟨_, C7, Or.inr ⟨G191.o, _, _, O192.o, Or.inl ⟨by omega, by omega, rfl⟩⟩⟩)⟩
              · refine y_iconst rfl ?_
                refine y_goto rfl rfl ?_
                refine y_ireturn rfl rfl ?_
                have w83 : Xi T4 1 3 = Xi T1 1 3 := (show Xi T4 1 3 = Xi T3 1 3 from w75.x _ _ rfl).trans ( (show Xi T3 1 3 = Xi T2 1 3 from w61.x _ _ rfl).trans ((show Xi T2 1 3 = Xi T1 1 3 from w50.x _ _ rfl)))
                have w84 : Xi T4 5 2 = Xi T1 5 2 := (show Xi T4 5 2 = Xi T3 5 2 from w75.x _ _ rfl).trans ( (show Xi T3 5 2 = Xi T2 5 2 from w61.x _ _ rfl).trans ((show Xi T2 5 2 = Xi T1 5 2 from w50.x _ _ rfl)))
                have w85 : Xi T4 876 7 = Xi T1 876 7 := (show Xi T4 876 7 = Xi T3 876 7 from w75.x _ _ rfl).trans ( (show Xi T3 876 7 = Xi T2 876 7 from w61.x _ _ rfl).trans ((show Xi T2 876 7 = Xi T1 876 7 from w50.x _ _ rfl)))
                have w86 : Xi T4 890 3 = Xi T1 890 3 := (show Xi T4 890 3 = Xi T3 890 3 from w75.x _ _ rfl).trans ( (show Xi T3 890 3 = Xi T2 890 3 from w61.x _ _ rfl).trans ((show Xi T2 890 3 = Xi T1 890 3 from w50.x _ _ rfl)))
                have w87 : Xi T4 891 9 = Xi T1 891 9 := (show Xi T4 891 9 = Xi T3 891 9 from w75.x _ _ rfl).trans ( (show Xi T3 891 9 = Xi T2 891 9 from w61.x _ _ rfl).trans ((show Xi T2 891 9 = Xi T1 891 9 from w50.x _ _ rfl)))
                exact ⟨hHT4, hFT4, _, rfl, ⟨by omega, by omega⟩, (by first | (have u := K179; exact ⟨_, C7, Or.inl ⟨P7.o.1 (by omega), A7.o.2 (by omega), _, _, O161.o, F161, Or.inr ⟨by omega, _, _, O171.o, F171, Or.inr ⟨by omega, Eq.subst (motive := fun x => DOB _ T4 x 1) (by omega) O179.o⟩⟩⟩⟩) | (have u := K171; exact ⟨_, C7, Or.inl ⟨P7.o.1 (by omega), A7.o.2 (by omega), _, _, O161.o, F161, Or.inr ⟨by omega, _, _, O171.o, F171, Or.inl ⟨by omega, by omega, rfl⟩⟩⟩⟩) | (have u := K161; exact ⟨_, C7, Or.inl ⟨P7.o.1 (by omega), A7.o.2 (by omega), _, _, O161.o, F161, Or.inl ⟨by omega, by omega, rfl⟩⟩⟩) | (have u := K230; exact ⟨_, C7, Or.inr ⟨G191.o, _, _, O192.o, Or.inr (Or.inr ⟨by omega, P7.o.2 (by omega), _, _, O220.o, F220, Or.inr ⟨by omega, Eq.subst (motive := fun x => DAD md_me_readAdjective__p _ T4 x (wh5 S) (eh5 S) (nh5 S)) (by omega) O230.o⟩⟩)⟩⟩) | (have u := K220; exact ⟨_, C7, Or.inr ⟨G191.o, _, _, O192.o, Or.inr (Or.inr ⟨by omega, P7.o.2 (by omega), _, _, O220.o, F220, Or.inl ⟨by omega, by omega, rfl⟩⟩)⟩⟩) | (have u := K212; exact ⟨_, C7, Or.inr ⟨G191.o, _, _, O192.o, Or.inr (Or.inl ⟨by omega, P7.o.1 (by omega), by omega, Y212⟩)⟩⟩) | exact ⟨_, C7, Or.inr ⟨G191.o, _, _, O192.o, Or.inl ⟨by omega, by omega, rfl⟩⟩⟩)⟩
          · refine y_aload_n rfl rfl ?_
            refine y_gfr rfl rfl rfl rfl rfl (hHT2.r 891 0 876 rfl) ?_
            refine y_bipush rfl rfl ?_
            refine y_iload_n rfl rfl ?_
            refine y_callV rfl rfl rfl (t_to_wrong__p hHT2 7 v2 ⟨by omega, by omega⟩ ⟨by omega, by omega⟩ _) ?_
            rintro _ T5 ⟨hHT5, w96, z95, rfl, w95, w93, f212, w94⟩
            have hFT5 : FR md_re_tellPlain__p S T5 := FR.tr hFT2 w96 rfl
            show Pl _ _ _ _ _ _ [iv z95] _ _
            have K212 : True := trivial
            have Y212 : FTO S T5 7 (wh5 S) := by have u := f212 (by rw [e200]; omega); rw [e200, pc7_FR C7 rfl rfl rfl, m2] at u; exact u
            refine y_ireturn rfl (retI_z (by omega)) ?_
            have w97 : Xi T5 1 3 = Xi T1 1 3 := (show Xi T5 1 3 = Xi T2 1 3 from w96.x _ _ rfl).trans ((show Xi T2 1 3 = Xi T1 1 3 from w50.x _ _ rfl))
            have w98 : Xi T5 5 2 = Xi T1 5 2 := (show Xi T5 5 2 = Xi T2 5 2 from w96.x _ _ rfl).trans ((show Xi T2 5 2 = Xi T1 5 2 from w50.x _ _ rfl))
            have w99 : Xi T5 876 7 = Xi T1 876 7 := (show Xi T5 876 7 = Xi T2 876 7 from w96.x _ _ rfl).trans ((show Xi T2 876 7 = Xi T1 876 7 from w50.x _ _ rfl))
            have w100 : Xi T5 890 3 = Xi T1 890 3 := (show Xi T5 890 3 = Xi T2 890 3 from w96.x _ _ rfl).trans ((show Xi T2 890 3 = Xi T1 890 3 from w50.x _ _ rfl))
            have w101 : Xi T5 891 9 = Xi T1 891 9 := (show Xi T5 891 9 = Xi T2 891 9 from w96.x _ _ rfl).trans ((show Xi T2 891 9 = Xi T1 891 9 from w50.x _ _ rfl))
            exact ⟨hHT5, hFT5, _, rfl, ⟨by omega, by omega⟩, (by first | (have u := K179; exact ⟨_, C7, Or.inl ⟨P7.o.1 (by omega), A7.o.2 (by omega), _, _, O161.o, F161, Or.inr ⟨by omega, _, _, O171.o, F171, Or.inr ⟨by omega, Eq.subst (motive := fun x => DOB _ T5 x 1) (by omega) O179.o⟩⟩⟩⟩) | (have u := K171; exact ⟨_, C7, Or.inl ⟨P7.o.1 (by omega), A7.o.2 (by omega), _, _, O161.o, F161, Or.inr ⟨by omega, _, _, O171.o, F171, Or.inl ⟨by omega, by omega, rfl⟩⟩⟩⟩) | (have u := K161; exact ⟨_, C7, Or.inl ⟨P7.o.1 (by omega), A7.o.2 (by omega), _, _, O161.o, F161, Or.inl ⟨by omega, by omega, rfl⟩⟩⟩) | (have u := K230; exact ⟨_, C7, Or.inr ⟨G191.o, _, _, O192.o, Or.inr (Or.inr ⟨by omega, P7.o.2 (by omega), _, _, O220.o, F220, Or.inr ⟨by omega, Eq.subst (motive := fun x => DAD md_me_readAdjective__p _ T5 x (wh5 S) (eh5 S) (nh5 S)) (by omega) O230.o⟩⟩)⟩⟩) | (have u := K220; exact ⟨_, C7, Or.inr ⟨G191.o, _, _, O192.o, Or.inr (Or.inr ⟨by omega, P7.o.2 (by omega), _, _, O220.o, F220, Or.inl ⟨by omega, by omega, rfl⟩⟩)⟩⟩) | (have u := K212; exact ⟨_, C7, Or.inr ⟨G191.o, _, _, O192.o, Or.inr (Or.inl ⟨by omega, P7.o.1 (by omega), by omega, Y212⟩)⟩⟩) | exact ⟨_, C7, Or.inr ⟨G191.o, _, _, O192.o, Or.inl ⟨by omega, by omega, rfl⟩⟩⟩)⟩
        · refine y_iconst rfl ?_
          refine y_ireturn rfl rfl ?_
          have w102 : Xi T2 1 3 = Xi T1 1 3 := (show Xi T2 1 3 = Xi T1 1 3 from w50.x _ _ rfl)
          have w103 : Xi T2 5 2 = Xi T1 5 2 := (show Xi T2 5 2 = Xi T1 5 2 from w50.x _ _ rfl)
          have w104 : Xi T2 876 7 = Xi T1 876 7 := (show Xi T2 876 7 = Xi T1 876 7 from w50.x _ _ rfl)
          have w105 : Xi T2 890 3 = Xi T1 890 3 := (show Xi T2 890 3 = Xi T1 890 3 from w50.x _ _ rfl)
          have w106 : Xi T2 891 9 = Xi T1 891 9 := (show Xi T2 891 9 = Xi T1 891 9 from w50.x _ _ rfl)
          exact ⟨hHT2, hFT2, _, rfl, ⟨by omega, by omega⟩, (by first | (have u := K179; exact ⟨_, C7, Or.inl ⟨P7.o.1 (by omega), A7.o.2 (by omega), _, _, O161.o, F161, Or.inr ⟨by omega, _, _, O171.o, F171, Or.inr ⟨by omega, Eq.subst (motive := fun x => DOB _ T2 x 1) (by omega) O179.o⟩⟩⟩⟩) | (have u := K171; exact ⟨_, C7, Or.inl ⟨P7.o.1 (by omega), A7.o.2 (by omega), _, _, O161.o, F161, Or.inr ⟨by omega, _, _, O171.o, F171, Or.inl ⟨by omega, by omega, rfl⟩⟩⟩⟩) | (have u := K161; exact ⟨_, C7, Or.inl ⟨P7.o.1 (by omega), A7.o.2 (by omega), _, _, O161.o, F161, Or.inl ⟨by omega, by omega, rfl⟩⟩⟩) | (have u := K230; exact ⟨_, C7, Or.inr ⟨G191.o, _, _, O192.o, Or.inr (Or.inr ⟨by omega, P7.o.2 (by omega), _, _, O220.o, F220, Or.inr ⟨by omega, Eq.subst (motive := fun x => DAD md_me_readAdjective__p _ T2 x (wh5 S) (eh5 S) (nh5 S)) (by omega) O230.o⟩⟩)⟩⟩) | (have u := K220; exact ⟨_, C7, Or.inr ⟨G191.o, _, _, O192.o, Or.inr (Or.inr ⟨by omega, P7.o.2 (by omega), _, _, O220.o, F220, Or.inl ⟨by omega, by omega, rfl⟩⟩)⟩⟩) | (have u := K212; exact ⟨_, C7, Or.inr ⟨G191.o, _, _, O192.o, Or.inr (Or.inl ⟨by omega, P7.o.1 (by omega), by omega, Y212⟩)⟩⟩) | exact ⟨_, C7, Or.inr ⟨G191.o, _, _, O192.o, Or.inl ⟨by omega, by omega, rfl⟩⟩⟩)⟩
      · refine y_iload rfl rfl ?_
        refine y_if_ne rfl rfl (by unfold rg; omega) (fun w107 => ?_) (fun w108 => ?_)
        · refine y_aload_n rfl rfl ?_
          have G191 : Hid (¬ ph5 S ∨ ah5 S) := by first | exact Or.inl (P7.o.2 (by omega)) | exact Or.inr (A7.o.1 (by omega))
          refine y_callV rfl rfl rfl (t_re_takeOldObjects__p hHT1 (by first | assumption | omega) (by first | assumption | exact (by assumption : CEN T1)) (by first | assumption | omega) (by first | assumption | omega) (by first | assumption | omega) _) ?_
          rintro _ T6 ⟨hHT6, w110, z109, rfl, w109, o192⟩
          have hFT6 : FR md_re_tellPlain__p S T6 := FR.tr hFT1 w110 rfl
          show Pl _ _ _ _ _ _ [iv z109] _ _
          have O192 := Hid.i o192
          clear o192
          refine y_if_ne rfl rfl (by unfold rg; omega) (fun w111 => ?_) (fun w112 => ?_)
          · refine y_iload rfl rfl ?_
            have e200 : T6 = T1 := (O192.o.1 (by omega)).1
            have H200 := Hid.i (O192.o.1 (by omega)).2
            have z200 : Xi T6 876 8 = 0 := by rw [e200]; omega
            refine y_if_eq rfl rfl (by unfold rg; omega) (fun w113 => ?_) (fun w114 => ?_)
            · refine y_aload_n rfl rfl ?_
              refine y_iload_n rfl rfl ?_
              refine y_iload_n rfl rfl ?_
              refine y_iload_n rfl rfl ?_
              have w115 : Xi T6 1 3 = Xi T1 1 3 := (show Xi T6 1 3 = Xi T1 1 3 from w110.x _ _ rfl)
              have w116 : Xi T6 5 2 = Xi T1 5 2 := (show Xi T6 5 2 = Xi T1 5 2 from w110.x _ _ rfl)
              have w117 : Xi T6 876 7 = Xi T1 876 7 := (show Xi T6 876 7 = Xi T1 876 7 from w110.x _ _ rfl)
              have w118 : Xi T6 890 3 = Xi T1 890 3 := (show Xi T6 890 3 = Xi T1 890 3 from w110.x _ _ rfl)
              have w119 : Xi T6 891 9 = Xi T1 891 9 := (show Xi T6 891 9 = Xi T1 891 9 from w110.x _ _ rfl)
              refine y_callV rfl rfl rfl (t_re_adjectiveSuits__p hHT6 v2 v3 v1 ⟨by omega, by omega⟩ ⟨by omega, by omega⟩ ⟨by omega, by omega⟩ (by first | assumption | omega) (by first | assumption | exact (CEN_FR w110 rfl rfl (by assumption : CEN T1))) (by first | assumption | omega) (by first | assumption | omega) (by first | assumption | omega) _) ?_
              rintro _ T7 ⟨hHT7, w121, z120, rfl, w120, o220⟩
              have hFT7 : FR md_re_tellPlain__p S T7 := FR.tr hFT6 w121 rfl
              show Pl _ _ _ _ _ _ [iv z120] _ _
              have K220 : True := trivial
              have O220 : Hid (ASP T6 T7 z120 (wh5 S) (eh5 S) (nh5 S)) := by have u := o220; rw [m1, m2, m3] at u; exact u
              clear o220
              have F220 := (by assumption : FR md_re_adjectiveSuits__p T6 T7)
              refine y_if_eq rfl rfl (by unfold rg; omega) (fun w122 => ?_) (fun w123 => ?_)
              · refine y_iconst rfl ?_
                refine y_ireturn rfl rfl ?_
                have w124 : Xi T7 1 3 = Xi T1 1 3 := (show Xi T7 1 3 = Xi T6 1 3 from w121.x _ _ rfl).trans ((show Xi T6 1 3 = Xi T1 1 3 from w110.x _ _ rfl))
                have w125 : Xi T7 5 2 = Xi T1 5 2 := (show Xi T7 5 2 = Xi T6 5 2 from w121.x _ _ rfl).trans ((show Xi T6 5 2 = Xi T1 5 2 from w110.x _ _ rfl))
                have w126 : Xi T7 876 7 = Xi T1 876 7 := (show Xi T7 876 7 = Xi T6 876 7 from w121.x _ _ rfl).trans ((show Xi T6 876 7 = Xi T1 876 7 from w110.x _ _ rfl))
                have w127 : Xi T7 890 3 = Xi T1 890 3 := (show Xi T7 890 3 = Xi T6 890 3 from w121.x _ _ rfl).trans ((show Xi T6 890 3 = Xi T1 890 3 from w110.x _ _ rfl))
                have w128 : Xi T7 891 9 = Xi T1 891 9 := (show Xi T7 891 9 = Xi T6 891 9 from w121.x _ _ rfl).trans ((show Xi T6 891 9 = Xi T1 891 9 from w110.x _ _ rfl))
                exact ⟨hHT7, hFT7, _, rfl, ⟨by omega, by omega⟩, (by first | (have u := K179; exact ⟨_, C7, Or.inl ⟨P7.o.1 (by omega), A7.o.2 (by omega), _, _, O161.o, F161, Or.inr ⟨by omega, _, _, O171.o, F171, Or.inr ⟨by omega, Eq.subst (motive := fun x => DOB _ T7 x 1) (by omega) O179.o⟩⟩⟩⟩) | (have u := K171; exact ⟨_, C7, Or.inl ⟨P7.o.1 (by omega), A7.o.2 (by omega), _, _, O161.o, F161, Or.inr ⟨by omega, _, _, O171.o, F171, Or.inl ⟨by omega, by omega, rfl⟩⟩⟩⟩) | (have u := K161; exact ⟨_, C7, Or.inl ⟨P7.o.1 (by omega), A7.o.2 (by omega), _, _, O161.o, F161, Or.inl ⟨by omega, by omega, rfl⟩⟩⟩) | (have u := K230; exact ⟨_, C7, Or.inr ⟨G191.o, _, _, O192.o, Or.inr (Or.inr ⟨by omega, P7.o.2 (by omega), _, _, O220.o, F220, Or.inr ⟨by omega, Eq.subst (motive := fun x => DAD md_me_readAdjective__p _ T7 x (wh5 S) (eh5 S) (nh5 S)) (by omega) O230.o⟩⟩)⟩⟩) | (have u := K220; exact ⟨_, C7, Or.inr ⟨G191.o, _, _, O192.o, Or.inr (Or.inr ⟨by omega, P7.o.2 (by omega), _, _, O220.o, F220, Or.inl ⟨by omega, by omega, rfl⟩⟩)⟩⟩) | (have u := K212; exact ⟨_, C7, Or.inr ⟨G191.o, _, _, O192.o, Or.inr (Or.inl ⟨by omega, P7.o.1 (by omega), by omega, Y212⟩)⟩⟩) | exact ⟨_, C7, Or.inr ⟨G191.o, _, _, O192.o, Or.inl ⟨by omega, by omega, rfl⟩⟩⟩)⟩
              · refine y_aload_n rfl rfl ?_
                have z226 : Xi T7 876 8 = 0 := asp_ok O220.o (by omega)
                have F226 : FR md_re_adjectiveSuits__p T1 T7 := by have u := F220; rw [e200] at u; exact u
                have t226 : ty7 T7 = ty7 T1 := FRT F226 rfl rfl
                have h226 : Hid (∀ i : Nat, i < nL T7 → oL T7 i ≠ -1) := fun i hi => by rw [oL_eq (SMV_FR F226 rfl rfl) t226]; exact H200.o i (by unfold nL at hi ⊢; rw [t226, F226.x 890 3 rfl] at hi; exact hi)
                refine y_iload_n rfl rfl ?_
                refine y_iload_n rfl rfl ?_
                refine y_iload_n rfl rfl ?_
                have w129 : Xi T7 1 3 = Xi T1 1 3 := (show Xi T7 1 3 = Xi T6 1 3 from w121.x _ _ rfl).trans ((show Xi T6 1 3 = Xi T1 1 3 from w110.x _ _ rfl))
                have w131 : Xi T7 876 7 = Xi T1 876 7 := (show Xi T7 876 7 = Xi T6 876 7 from w121.x _ _ rfl).trans ((show Xi T6 876 7 = Xi T1 876 7 from w110.x _ _ rfl))
                have w132 : Xi T7 890 3 = Xi T1 890 3 := (show Xi T7 890 3 = Xi T6 890 3 from w121.x _ _ rfl).trans ((show Xi T6 890 3 = Xi T1 890 3 from w110.x _ _ rfl))
                refine y_callV rfl rfl rfl (t_re_doAdjective__p hHT7 v2 v3 v1 ⟨by omega, by omega⟩ ⟨by omega, by omega⟩ ⟨by omega, by omega⟩ (by first | assumption | omega) (by first | assumption | exact (CEN_FR w121 rfl rfl (CEN_FR w110 rfl rfl (by assumption : CEN T1)))) (by first | assumption | omega) (by first | assumption | omega) (by first | assumption | omega) (by first | assumption | exact (TX_FR w121 rfl (TX_FR w110 rfl (by first | assumption | exact (by assumption : WI T1).2.1 : TX T1)))) (h226) _) ?_
                rintro _ T8 ⟨hHT8, w135, z134, rfl, w134, o230⟩
                have hFT8 : FR md_re_tellPlain__p S T8 := FR.tr hFT7 w135 rfl
                show Pl _ _ _ _ _ _ [iv z134] _ _
                have K230 : True := trivial
                have O230 : Hid (DAD md_me_readAdjective__p T7 T8 z134 (wh5 S) (eh5 S) (nh5 S)) := by have u := o230; rw [m1, m2, m3] at u; exact u
                clear o230
                refine y_if_eq rfl rfl (by unfold rg; omega) (fun w136 => ?_) (fun w137 => ?_)
                · refine y_iconst rfl ?_
                  refine y_ireturn rfl rfl ?_
                  have w138 : Xi T8 1 3 = Xi T1 1 3 := (show Xi T8 1 3 = Xi T7 1 3 from w135.x _ _ rfl).trans ( (show Xi T7 1 3 = Xi T6 1 3 from w121.x _ _ rfl).trans ((show Xi T6 1 3 = Xi T1 1 3 from w110.x _ _ rfl)))
                  have w139 : Xi T8 5 2 = Xi T1 5 2 := (show Xi T8 5 2 = Xi T7 5 2 from w135.x _ _ rfl).trans ( (show Xi T7 5 2 = Xi T6 5 2 from w121.x _ _ rfl).trans ((show Xi T6 5 2 = Xi T1 5 2 from w110.x _ _ rfl)))
                  have w140 : Xi T8 876 7 = Xi T1 876 7 := (show Xi T8 876 7 = Xi T7 876 7 from w135.x _ _ rfl).trans ( (show Xi T7 876 7 = Xi T6 876 7 from w121.x _ _ rfl).trans ((show Xi T6 876 7 = Xi T1 876 7 from w110.x _ _ rfl)))
                  have w141 : Xi T8 890 3 = Xi T1 890 3 := (show Xi T8 890 3 = Xi T7 890 3 from w135.x _ _ rfl).trans ( (show Xi T7 890 3 = Xi T6 890 3 from w121.x _ _ rfl).trans ((show Xi T6 890 3 = Xi T1 890 3 from w110.x _ _ rfl)))
                  have w142 : Xi T8 891 9 = Xi T1 891 9 := (show Xi T8 891 9 = Xi T7 891 9 from w135.x _ _ rfl).trans ( (show Xi T7 891 9 = Xi T6 891 9 from w121.x _ _ rfl).trans ((show Xi T6 891 9 = Xi T1 891 9 from w110.x _ _ rfl)))
                  exact ⟨hHT8, hFT8, _, rfl, ⟨by omega, by omega⟩, (by first | (have u := K179; exact ⟨_, C7, Or.inl ⟨P7.o.1 (by omega), A7.o.2 (by omega), _, _, O161.o, F161, Or.inr ⟨by omega, _, _, O171.o, F171, Or.inr ⟨by omega, Eq.subst (motive := fun x => DOB _ T8 x 1) (by omega) O179.o⟩⟩⟩⟩) | (have u := K171; exact ⟨_, C7, Or.inl ⟨P7.o.1 (by omega), A7.o.2 (by omega), _, _, O161.o, F161, Or.inr ⟨by omega, _, _, O171.o, F171, Or.inl ⟨by omega, by omega, rfl⟩⟩⟩⟩) | (have u := K161; exact ⟨_, C7, Or.inl ⟨P7.o.1 (by omega), A7.o.2 (by omega), _, _, O161.o, F161, Or.inl ⟨by omega, by omega, rfl⟩⟩⟩) | (have u := K230; exact ⟨_, C7, Or.inr ⟨G191.o, _, _, O192.o, Or.inr (Or.inr ⟨by omega, P7.o.2 (by omega), _, _, O220.o, F220, Or.inr ⟨by omega, Eq.subst (motive := fun x => DAD md_me_readAdjective__p _ T8 x (wh5 S) (eh5 S) (nh5 S)) (by omega) O230.o⟩⟩)⟩⟩) | (have u := K220; exact ⟨_, C7, Or.inr ⟨G191.o, _, _, O192.o, Or.inr (Or.inr ⟨by omega, P7.o.2 (by omega), _, _, O220.o, F220, Or.inl ⟨by omega, by omega, rfl⟩⟩)⟩⟩) | (have u := K212; exact ⟨_, C7, Or.inr ⟨G191.o, _, _, O192.o, Or.inr (Or.inl ⟨by omega, P7.o.1 (by omega), by omega, Y212⟩)⟩⟩) | exact ⟨_, C7, Or.inr ⟨G191.o, _, _, O192.o, Or.inl ⟨by omega, by omega, rfl⟩⟩⟩)⟩
                · refine y_iconst rfl ?_
                  refine y_goto rfl rfl ?_
                  refine y_ireturn rfl rfl ?_
                  have w143 : Xi T8 1 3 = Xi T1 1 3 := (show Xi T8 1 3 = Xi T7 1 3 from w135.x _ _ rfl).trans ( (show Xi T7 1 3 = Xi T6 1 3 from w121.x _ _ rfl).trans ((show Xi T6 1 3 = Xi T1 1 3 from w110.x _ _ rfl)))
                  have w144 : Xi T8 5 2 = Xi T1 5 2 := (show Xi T8 5 2 = Xi T7 5 2 from w135.x _ _ rfl).trans ( (show Xi T7 5 2 = Xi T6 5 2 from w121.x _ _ rfl).trans ((show Xi T6 5 2 = Xi T1 5 2 from w110.x _ _ rfl)))
                  have w145 : Xi T8 876 7 = Xi T1 876 7 := (show Xi T8 876 7 = Xi T7 876 7 from w135.x _ _ rfl).trans ( (show Xi T7 876 7 = Xi T6 876 7 from w121.x _ _ rfl).trans ((show Xi T6 876 7 = Xi T1 876 7 from w110.x _ _ rfl)))
                  have w146 : Xi T8 890 3 = Xi T1 890 3 := (show Xi T8 890 3 = Xi T7 890 3 from w135.x _ _ rfl).trans ( (show Xi T7 890 3 = Xi T6 890 3 from w121.x _ _ rfl).trans ((show Xi T6 890 3 = Xi T1 890 3 from w110.x _ _ rfl)))
                  have w147 : Xi T8 891 9 = Xi T1 891 9 := (show Xi T8 891 9 = Xi T7 891 9 from w135.x _ _ rfl).trans ( (show Xi T7 891 9 = Xi T6 891 9 from w121.x _ _ rfl).trans ((show Xi T6 891 9 = Xi T1 891 9 from w110.x _ _ rfl)))
                  exact ⟨hHT8, hFT8, _, rfl, ⟨by omega, by omega⟩, (by first | (have u := K179; exact ⟨_, C7, Or.inl ⟨P7.o.1 (by omega), A7.o.2 (by omega), _, _, O161.o, F161, Or.inr ⟨by omega, _, _, O171.o, F171, Or.inr ⟨by omega, Eq.subst (motive := fun x => DOB _ T8 x 1) (by omega) O179.o⟩⟩⟩⟩) | (have u := K171; exact ⟨_, C7, Or.inl ⟨P7.o.1 (by omega), A7.o.2 (by omega), _, _, O161.o, F161, Or.inr ⟨by omega, _, _, O171.o, F171, Or.inl ⟨by omega, by omega, rfl⟩⟩⟩⟩) | (have u := K161; exact ⟨_, C7, Or.inl ⟨P7.o.1 (by omega), A7.o.2 (by omega), _, _, O161.o, F161, Or.inl ⟨by omega, by omega, rfl⟩⟩⟩) | (have u := K230; exact ⟨_, C7, Or.inr ⟨G191.o, _, _, O192.o, Or.inr (Or.inr ⟨by omega, P7.o.2 (by omega), _, _, O220.o, F220, Or.inr ⟨by omega, Eq.subst (motive := fun x => DAD md_me_readAdjective__p _ T8 x (wh5 S) (eh5 S) (nh5 S)) (by omega) O230.o⟩⟩)⟩⟩) | (have u := K220; exact ⟨_, C7, Or.inr ⟨G191.o, _, _, O192.o, Or.inr (Or.inr ⟨by omega, P7.o.2 (by omega), _, _, O220.o, F220, Or.inl ⟨by omega, by omega, rfl⟩⟩)⟩⟩) | (have u := K212; exact ⟨_, C7, Or.inr ⟨G191.o, _, _, O192.o, Or.inr (Or.inl ⟨by omega, P7.o.1 (by omega), by omega, Y212⟩)⟩⟩) | exact ⟨_, C7, Or.inr ⟨G191.o, _, _, O192.o, Or.inl ⟨by omega, by omega, rfl⟩⟩⟩)⟩
            · refine y_aload_n rfl rfl ?_
              refine y_gfr rfl rfl rfl rfl rfl (hHT6.r 891 0 876 rfl) ?_
              refine y_bipush rfl rfl ?_
              refine y_iload_n rfl rfl ?_
              refine y_callV rfl rfl rfl (t_to_wrong__p hHT6 7 v2 ⟨by omega, by omega⟩ ⟨by omega, by omega⟩ _) ?_
              rintro _ T9 ⟨hHT9, w156, z155, rfl, w155, w153, f212, w154⟩
              have hFT9 : FR md_re_tellPlain__p S T9 := FR.tr hFT6 w156 rfl
              show Pl _ _ _ _ _ _ [iv z155] _ _
              have K212 : True := trivial
              have Y212 : FTO S T9 7 (wh5 S) := by have u := f212 (by rw [e200]; omega); rw [e200, pc7_FR C7 rfl rfl rfl, m2] at u; exact u
              refine y_ireturn rfl (retI_z (by omega)) ?_
              have w157 : Xi T9 1 3 = Xi T1 1 3 := (show Xi T9 1 3 = Xi T6 1 3 from w156.x _ _ rfl).trans ((show Xi T6 1 3 = Xi T1 1 3 from w110.x _ _ rfl))
              have w158 : Xi T9 5 2 = Xi T1 5 2 := (show Xi T9 5 2 = Xi T6 5 2 from w156.x _ _ rfl).trans ((show Xi T6 5 2 = Xi T1 5 2 from w110.x _ _ rfl))
              have w159 : Xi T9 876 7 = Xi T1 876 7 := (show Xi T9 876 7 = Xi T6 876 7 from w156.x _ _ rfl).trans ((show Xi T6 876 7 = Xi T1 876 7 from w110.x _ _ rfl))
              have w160 : Xi T9 890 3 = Xi T1 890 3 := (show Xi T9 890 3 = Xi T6 890 3 from w156.x _ _ rfl).trans ((show Xi T6 890 3 = Xi T1 890 3 from w110.x _ _ rfl))
              have w161 : Xi T9 891 9 = Xi T1 891 9 := (show Xi T9 891 9 = Xi T6 891 9 from w156.x _ _ rfl).trans ((show Xi T6 891 9 = Xi T1 891 9 from w110.x _ _ rfl))
              exact ⟨hHT9, hFT9, _, rfl, ⟨by omega, by omega⟩, (by first | (have u := K179; exact ⟨_, C7, Or.inl ⟨P7.o.1 (by omega), A7.o.2 (by omega), _, _, O161.o, F161, Or.inr ⟨by omega, _, _, O171.o, F171, Or.inr ⟨by omega, Eq.subst (motive := fun x => DOB _ T9 x 1) (by omega) O179.o⟩⟩⟩⟩) | (have u := K171; exact ⟨_, C7, Or.inl ⟨P7.o.1 (by omega), A7.o.2 (by omega), _, _, O161.o, F161, Or.inr ⟨by omega, _, _, O171.o, F171, Or.inl ⟨by omega, by omega, rfl⟩⟩⟩⟩) | (have u := K161; exact ⟨_, C7, Or.inl ⟨P7.o.1 (by omega), A7.o.2 (by omega), _, _, O161.o, F161, Or.inl ⟨by omega, by omega, rfl⟩⟩⟩) | (have u := K230; exact ⟨_, C7, Or.inr ⟨G191.o, _, _, O192.o, Or.inr (Or.inr ⟨by omega, P7.o.2 (by omega), _, _, O220.o, F220, Or.inr ⟨by omega, Eq.subst (motive := fun x => DAD md_me_readAdjective__p _ T9 x (wh5 S) (eh5 S) (nh5 S)) (by omega) O230.o⟩⟩)⟩⟩) | (have u := K220; exact ⟨_, C7, Or.inr ⟨G191.o, _, _, O192.o, Or.inr (Or.inr ⟨by omega, P7.o.2 (by omega), _, _, O220.o, F220, Or.inl ⟨by omega, by omega, rfl⟩⟩)⟩⟩) | (have u := K212; exact ⟨_, C7, Or.inr ⟨G191.o, _, _, O192.o, Or.inr (Or.inl ⟨by omega, P7.o.1 (by omega), by omega, Y212⟩)⟩⟩) | exact ⟨_, C7, Or.inr ⟨G191.o, _, _, O192.o, Or.inl ⟨by omega, by omega, rfl⟩⟩⟩)⟩
          · refine y_iconst rfl ?_
            refine y_ireturn rfl rfl ?_
            have w162 : Xi T6 1 3 = Xi T1 1 3 := (show Xi T6 1 3 = Xi T1 1 3 from w110.x _ _ rfl)
            have w163 : Xi T6 5 2 = Xi T1 5 2 := (show Xi T6 5 2 = Xi T1 5 2 from w110.x _ _ rfl)
            have w164 : Xi T6 876 7 = Xi T1 876 7 := (show Xi T6 876 7 = Xi T1 876 7 from w110.x _ _ rfl)
            have w165 : Xi T6 890 3 = Xi T1 890 3 := (show Xi T6 890 3 = Xi T1 890 3 from w110.x _ _ rfl)
            have w166 : Xi T6 891 9 = Xi T1 891 9 := (show Xi T6 891 9 = Xi T1 891 9 from w110.x _ _ rfl)
            exact ⟨hHT6, hFT6, _, rfl, ⟨by omega, by omega⟩, (by first | (have u := K179; exact ⟨_, C7, Or.inl ⟨P7.o.1 (by omega), A7.o.2 (by omega), _, _, O161.o, F161, Or.inr ⟨by omega, _, _, O171.o, F171, Or.inr ⟨by omega, Eq.subst (motive := fun x => DOB _ T6 x 1) (by omega) O179.o⟩⟩⟩⟩) | (have u := K171; exact ⟨_, C7, Or.inl ⟨P7.o.1 (by omega), A7.o.2 (by omega), _, _, O161.o, F161, Or.inr ⟨by omega, _, _, O171.o, F171, Or.inl ⟨by omega, by omega, rfl⟩⟩⟩⟩) | (have u := K161; exact ⟨_, C7, Or.inl ⟨P7.o.1 (by omega), A7.o.2 (by omega), _, _, O161.o, F161, Or.inl ⟨by omega, by omega, rfl⟩⟩⟩) | (have u := K230; exact ⟨_, C7, Or.inr ⟨G191.o, _, _, O192.o, Or.inr (Or.inr ⟨by omega, P7.o.2 (by omega), _, _, O220.o, F220, Or.inr ⟨by omega, Eq.subst (motive := fun x => DAD md_me_readAdjective__p _ T6 x (wh5 S) (eh5 S) (nh5 S)) (by omega) O230.o⟩⟩)⟩⟩) | (have u := K220; exact ⟨_, C7, Or.inr ⟨G191.o, _, _, O192.o, Or.inr (Or.inr ⟨by omega, P7.o.2 (by omega), _, _, O220.o, F220, Or.inl ⟨by omega, by omega, rfl⟩⟩)⟩⟩) | (have u := K212; exact ⟨_, C7, Or.inr ⟨G191.o, _, _, O192.o, Or.inr (Or.inl ⟨by omega, P7.o.1 (by omega), by omega, Y212⟩)⟩⟩) | exact ⟨_, C7, Or.inr ⟨G191.o, _, _, O192.o, Or.inl ⟨by omega, by omega, rfl⟩⟩⟩)⟩
        · refine y_aload_n rfl rfl ?_
          refine y_callV rfl rfl rfl (t_re_takeObjects__p hHT1 (by first | assumption | omega) (by first | assumption | exact (by assumption : CEN T1)) (by first | assumption | exact (by assumption : NRB T1)) (by first | assumption | omega) (by first | assumption | omega) (by first | assumption | omega) (by first | assumption | omega) (by first | assumption | omega) _) ?_
          rintro _ T10 ⟨hHT10, w168, z167, rfl, w167, o161⟩
          have hFT10 : FR md_re_tellPlain__p S T10 := FR.tr hFT1 w168 rfl
          show Pl _ _ _ _ _ _ [iv z167] _ _
          have K161 : True := trivial
          have O161 := Hid.i o161
          clear o161
          have F161 := (by assumption : FR md_re_takeObjects__p T1 T10)
          refine y_if_eq rfl rfl (by unfold rg; omega) (fun w169 => ?_) (fun w170 => ?_)
          · refine y_iconst rfl ?_
            refine y_ireturn rfl rfl ?_
            have w171 : Xi T10 1 3 = Xi T1 1 3 := (show Xi T10 1 3 = Xi T1 1 3 from w168.x _ _ rfl)
            have w172 : Xi T10 5 2 = Xi T1 5 2 := (show Xi T10 5 2 = Xi T1 5 2 from w168.x _ _ rfl)
            have w173 : Xi T10 876 7 = Xi T1 876 7 := (show Xi T10 876 7 = Xi T1 876 7 from w168.x _ _ rfl)
            have w174 : Xi T10 890 3 = Xi T1 890 3 := (show Xi T10 890 3 = Xi T1 890 3 from w168.x _ _ rfl)
            exact ⟨hHT10, hFT10, _, rfl, ⟨by omega, by omega⟩, (by first | (have u := K179; exact ⟨_, C7, Or.inl ⟨P7.o.1 (by omega), A7.o.2 (by omega), _, _, O161.o, F161, Or.inr ⟨by omega, _, _, O171.o, F171, Or.inr ⟨by omega, Eq.subst (motive := fun x => DOB _ T10 x 1) (by omega) O179.o⟩⟩⟩⟩) | (have u := K171; exact ⟨_, C7, Or.inl ⟨P7.o.1 (by omega), A7.o.2 (by omega), _, _, O161.o, F161, Or.inr ⟨by omega, _, _, O171.o, F171, Or.inl ⟨by omega, by omega, rfl⟩⟩⟩⟩) | (have u := K161; exact ⟨_, C7, Or.inl ⟨P7.o.1 (by omega), A7.o.2 (by omega), _, _, O161.o, F161, Or.inl ⟨by omega, by omega, rfl⟩⟩⟩) | (have u := K230; exact ⟨_, C7, Or.inr ⟨G191.o, _, _, O192.o, Or.inr (Or.inr ⟨by omega, P7.o.2 (by omega), _, _, O220.o, F220, Or.inr ⟨by omega, Eq.subst (motive := fun x => DAD md_me_readAdjective__p _ T10 x (wh5 S) (eh5 S) (nh5 S)) (by omega) O230.o⟩⟩)⟩⟩) | (have u := K220; exact ⟨_, C7, Or.inr ⟨G191.o, _, _, O192.o, Or.inr (Or.inr ⟨by omega, P7.o.2 (by omega), _, _, O220.o, F220, Or.inl ⟨by omega, by omega, rfl⟩⟩)⟩⟩) | (have u := K212; exact ⟨_, C7, Or.inr ⟨G191.o, _, _, O192.o, Or.inr (Or.inl ⟨by omega, P7.o.1 (by omega), by omega, Y212⟩)⟩⟩) | exact ⟨_, C7, Or.inr ⟨G191.o, _, _, O192.o, Or.inl ⟨by omega, by omega, rfl⟩⟩⟩)⟩
          · refine y_aload_n rfl rfl ?_
            have L167 : Hid (LOO T1 (nL T1)) := O161.o.2.2 (by omega)
            have f167 : Xi T10 876 8 = 0 := (O161.o.2.1 L167.o).2.2.2.1
            have V167 : SMV S T10 := (SMV_FR C7 rfl rfl).tr (SMV_FR F161 rfl rfl)
            have E167 : CEN T10 := CEN_v hCE V167
            refine y_iload_n rfl rfl ?_
            refine y_iload_n rfl rfl ?_
            refine y_iconst rfl ?_
            have w175 : Xi T10 1 3 = Xi T1 1 3 := (show Xi T10 1 3 = Xi T1 1 3 from w168.x _ _ rfl)
            have w176 : Xi T10 5 2 = Xi T1 5 2 := (show Xi T10 5 2 = Xi T1 5 2 from w168.x _ _ rfl)
            have w177 : Xi T10 876 7 = Xi T1 876 7 := (show Xi T10 876 7 = Xi T1 876 7 from w168.x _ _ rfl)
            have w178 : Xi T10 890 3 = Xi T1 890 3 := (show Xi T10 890 3 = Xi T1 890 3 from w168.x _ _ rfl)
            refine y_callV rfl rfl rfl (t_re_takeDescription__p hHT10 v2 v3 1 ⟨by omega, by omega⟩ ⟨by omega, by omega⟩ ⟨by omega, by omega⟩ (by first | assumption | omega) (E167) (by first | assumption | omega) _) ?_
            rintro _ T11 ⟨hHT11, w180, z179, rfl, w179, o171⟩
            have hFT11 : FR md_re_tellPlain__p S T11 := FR.tr hFT10 w180 rfl
            show Pl _ _ _ _ _ _ [iv z179] _ _
            have K171 : True := trivial
            have O171 : Hid (TDS T10 T11 z179 (wh5 S) (eh5 S) 1) := by have u := o171; rw [m2, m3] at u; exact u
            clear o171
            have F171 := (by assumption : FR md_re_takeDescription__p T10 T11)
            refine y_if_eq rfl rfl (by unfold rg; omega) (fun w181 => ?_) (fun w182 => ?_)
            · refine y_iconst rfl ?_
              refine y_ireturn rfl rfl ?_
              have w183 : Xi T11 1 3 = Xi T1 1 3 := (show Xi T11 1 3 = Xi T10 1 3 from w180.x _ _ rfl).trans ((show Xi T10 1 3 = Xi T1 1 3 from w168.x _ _ rfl))
              have w184 : Xi T11 5 2 = Xi T1 5 2 := (show Xi T11 5 2 = Xi T10 5 2 from w180.x _ _ rfl).trans ((show Xi T10 5 2 = Xi T1 5 2 from w168.x _ _ rfl))
              have w185 : Xi T11 876 7 = Xi T1 876 7 := (show Xi T11 876 7 = Xi T10 876 7 from w180.x _ _ rfl).trans ((show Xi T10 876 7 = Xi T1 876 7 from w168.x _ _ rfl))
              have w186 : Xi T11 890 3 = Xi T1 890 3 := (show Xi T11 890 3 = Xi T10 890 3 from w180.x _ _ rfl).trans ((show Xi T10 890 3 = Xi T1 890 3 from w168.x _ _ rfl))
              have w187 : Xi T11 891 9 = Xi T10 891 9 := (show Xi T11 891 9 = Xi T10 891 9 from w180.x _ _ rfl)
              exact ⟨hHT11, hFT11, _, rfl, ⟨by omega, by omega⟩, (by first | (have u := K179; exact ⟨_, C7, Or.inl ⟨P7.o.1 (by omega), A7.o.2 (by omega), _, _, O161.o, F161, Or.inr ⟨by omega, _, _, O171.o, F171, Or.inr ⟨by omega, Eq.subst (motive := fun x => DOB _ T11 x 1) (by omega) O179.o⟩⟩⟩⟩) | (have u := K171; exact ⟨_, C7, Or.inl ⟨P7.o.1 (by omega), A7.o.2 (by omega), _, _, O161.o, F161, Or.inr ⟨by omega, _, _, O171.o, F171, Or.inl ⟨by omega, by omega, rfl⟩⟩⟩⟩) | (have u := K161; exact ⟨_, C7, Or.inl ⟨P7.o.1 (by omega), A7.o.2 (by omega), _, _, O161.o, F161, Or.inl ⟨by omega, by omega, rfl⟩⟩⟩) | (have u := K230; exact ⟨_, C7, Or.inr ⟨G191.o, _, _, O192.o, Or.inr (Or.inr ⟨by omega, P7.o.2 (by omega), _, _, O220.o, F220, Or.inr ⟨by omega, Eq.subst (motive := fun x => DAD md_me_readAdjective__p _ T11 x (wh5 S) (eh5 S) (nh5 S)) (by omega) O230.o⟩⟩)⟩⟩) | (have u := K220; exact ⟨_, C7, Or.inr ⟨G191.o, _, _, O192.o, Or.inr (Or.inr ⟨by omega, P7.o.2 (by omega), _, _, O220.o, F220, Or.inl ⟨by omega, by omega, rfl⟩⟩)⟩⟩) | (have u := K212; exact ⟨_, C7, Or.inr ⟨G191.o, _, _, O192.o, Or.inr (Or.inl ⟨by omega, P7.o.1 (by omega), by omega, Y212⟩)⟩⟩) | exact ⟨_, C7, Or.inr ⟨G191.o, _, _, O192.o, Or.inl ⟨by omega, by omega, rfl⟩⟩⟩)⟩
            · refine y_aload_n rfl rfl ?_
              have N177 := Hid.i (tdg_n O171.o (by omega))
              have f177 : Xi T11 876 8 = 0 := N177.o.1.trans f167
              have V177 : SMV S T11 := V167.tr (SMV_FR F171 rfl rfl)
              have E177 : CEN T11 := CEN_v hCE V177
              have c177 : Xi T11 5 2 = Xi S 5 2 := (F171.x 5 2 rfl).trans ((F161.x 5 2 rfl).trans (by omega))
              have W177 : WH2 T11 := WH2_v hw2 V177 c177
              have X177 : TX T11 := TX_FR F171 rfl (TX_FR F161 rfl (TX_FR C7 rfl hX))
              have L177 : Hid (LOO T11 (nL T11)) := by have t1 : ty7 T11 = ty7 T1 := (FRT F171 rfl rfl).trans (FRT F161 rfl rfl); have t2 : Xi T11 890 3 = Xi T1 890 3 := (F171.x 890 3 rfl).trans (F161.x 890 3 rfl); unfold nL; rw [t1, t2]; exact (LOO_eq ((SMV_FR F161 rfl rfl).tr (SMV_FR F171 rfl rfl)) t1 ((F171.x 5 2 rfl).trans (F161.x 5 2 rfl))).2 L167.o
              refine y_iconst rfl ?_
              have w188 : Xi T11 1 3 = Xi T1 1 3 := (show Xi T11 1 3 = Xi T10 1 3 from w180.x _ _ rfl).trans ((show Xi T10 1 3 = Xi T1 1 3 from w168.x _ _ rfl))
              have w189 : Xi T11 5 2 = Xi T1 5 2 := (show Xi T11 5 2 = Xi T10 5 2 from w180.x _ _ rfl).trans ((show Xi T10 5 2 = Xi T1 5 2 from w168.x _ _ rfl))
              have w190 : Xi T11 876 7 = Xi T1 876 7 := (show Xi T11 876 7 = Xi T10 876 7 from w180.x _ _ rfl).trans ((show Xi T10 876 7 = Xi T1 876 7 from w168.x _ _ rfl))
              have w191 : Xi T11 890 3 = Xi T1 890 3 := (show Xi T11 890 3 = Xi T10 890 3 from w180.x _ _ rfl).trans ((show Xi T10 890 3 = Xi T1 890 3 from w168.x _ _ rfl))
              refine y_callV rfl rfl rfl (t_re_doObjects__p hHT11 1 ⟨by omega, by omega⟩ (by first | assumption | omega) (E177) (by first | assumption | omega) (by first | assumption | omega) (by first | assumption | omega) (X177) (W177) (by omega) (by omega) (L177.o) (N177.o.2.1) (N177.o.2.2) _) ?_
              rintro _ T12 ⟨hHT12, w194, z193, rfl, w193, o179⟩
              have hFT12 : FR md_re_tellPlain__p S T12 := FR.tr hFT11 w194 rfl
              show Pl _ _ _ _ _ _ [iv z193] _ _
              have K179 : True := trivial
              have O179 := Hid.i o179
              clear o179
              refine y_if_eq rfl rfl (by unfold rg; omega) (fun w195 => ?_) (fun w196 => ?_)
              · refine y_iconst rfl ?_
                refine y_ireturn rfl rfl ?_
                have w197 : Xi T12 876 7 = Xi T1 876 7 := (show Xi T12 876 7 = Xi T11 876 7 from w194.x _ _ rfl).trans ( (show Xi T11 876 7 = Xi T10 876 7 from w180.x _ _ rfl).trans ((show Xi T10 876 7 = Xi T1 876 7 from w168.x _ _ rfl)))
                have w198 : Xi T12 890 3 = Xi T1 890 3 := (show Xi T12 890 3 = Xi T11 890 3 from w194.x _ _ rfl).trans ( (show Xi T11 890 3 = Xi T10 890 3 from w180.x _ _ rfl).trans ((show Xi T10 890 3 = Xi T1 890 3 from w168.x _ _ rfl)))
                have w199 : Xi T12 891 9 = Xi T10 891 9 := (show Xi T12 891 9 = Xi T11 891 9 from w194.x _ _ rfl).trans ((show Xi T11 891 9 = Xi T10 891 9 from w180.x _ _ rfl))
                exact ⟨hHT12, hFT12, _, rfl, ⟨by omega, by omega⟩, (by first | (have u := K179; exact ⟨_, C7, Or.inl ⟨P7.o.1 (by omega), A7.o.2 (by omega), _, _, O161.o, F161, Or.inr ⟨by omega, _, _, O171.o, F171, Or.inr ⟨by omega, Eq.subst (motive := fun x => DOB _ T12 x 1) (by omega) O179.o⟩⟩⟩⟩) | (have u := K171; exact ⟨_, C7, Or.inl ⟨P7.o.1 (by omega), A7.o.2 (by omega), _, _, O161.o, F161, Or.inr ⟨by omega, _, _, O171.o, F171, Or.inl ⟨by omega, by omega, rfl⟩⟩⟩⟩) | (have u := K161; exact ⟨_, C7, Or.inl ⟨P7.o.1 (by omega), A7.o.2 (by omega), _, _, O161.o, F161, Or.inl ⟨by omega, by omega, rfl⟩⟩⟩) | (have u := K230; exact ⟨_, C7, Or.inr ⟨G191.o, _, _, O192.o, Or.inr (Or.inr ⟨by omega, P7.o.2 (by omega), _, _, O220.o, F220, Or.inr ⟨by omega, Eq.subst (motive := fun x => DAD md_me_readAdjective__p _ T12 x (wh5 S) (eh5 S) (nh5 S)) (by omega) O230.o⟩⟩)⟩⟩) | (have u := K220; exact ⟨_, C7, Or.inr ⟨G191.o, _, _, O192.o, Or.inr (Or.inr ⟨by omega, P7.o.2 (by omega), _, _, O220.o, F220, Or.inl ⟨by omega, by omega, rfl⟩⟩)⟩⟩) | (have u := K212; exact ⟨_, C7, Or.inr ⟨G191.o, _, _, O192.o, Or.inr (Or.inl ⟨by omega, P7.o.1 (by omega), by omega, Y212⟩)⟩⟩) | exact ⟨_, C7, Or.inr ⟨G191.o, _, _, O192.o, Or.inl ⟨by omega, by omega, rfl⟩⟩⟩)⟩
              · refine y_iconst rfl ?_
                refine y_goto rfl rfl ?_
                refine y_ireturn rfl rfl ?_
                have w200 : Xi T12 876 7 = Xi T1 876 7 := (show Xi T12 876 7 = Xi T11 876 7 from w194.x _ _ rfl).trans ( (show Xi T11 876 7 = Xi T10 876 7 from w180.x _ _ rfl).trans ((show Xi T10 876 7 = Xi T1 876 7 from w168.x _ _ rfl)))
                have w201 : Xi T12 890 3 = Xi T1 890 3 := (show Xi T12 890 3 = Xi T11 890 3 from w194.x _ _ rfl).trans ( (show Xi T11 890 3 = Xi T10 890 3 from w180.x _ _ rfl).trans ((show Xi T10 890 3 = Xi T1 890 3 from w168.x _ _ rfl)))
                have w202 : Xi T12 891 9 = Xi T10 891 9 := (show Xi T12 891 9 = Xi T11 891 9 from w194.x _ _ rfl).trans ((show Xi T11 891 9 = Xi T10 891 9 from w180.x _ _ rfl))
                exact ⟨hHT12, hFT12, _, rfl, ⟨by omega, by omega⟩, (by first | (have u := K179; exact ⟨_, C7, Or.inl ⟨P7.o.1 (by omega), A7.o.2 (by omega), _, _, O161.o, F161, Or.inr ⟨by omega, _, _, O171.o, F171, Or.inr ⟨by omega, Eq.subst (motive := fun x => DOB _ T12 x 1) (by omega) O179.o⟩⟩⟩⟩) | (have u := K171; exact ⟨_, C7, Or.inl ⟨P7.o.1 (by omega), A7.o.2 (by omega), _, _, O161.o, F161, Or.inr ⟨by omega, _, _, O171.o, F171, Or.inl ⟨by omega, by omega, rfl⟩⟩⟩⟩) | (have u := K161; exact ⟨_, C7, Or.inl ⟨P7.o.1 (by omega), A7.o.2 (by omega), _, _, O161.o, F161, Or.inl ⟨by omega, by omega, rfl⟩⟩⟩) | (have u := K230; exact ⟨_, C7, Or.inr ⟨G191.o, _, _, O192.o, Or.inr (Or.inr ⟨by omega, P7.o.2 (by omega), _, _, O220.o, F220, Or.inr ⟨by omega, Eq.subst (motive := fun x => DAD md_me_readAdjective__p _ T12 x (wh5 S) (eh5 S) (nh5 S)) (by omega) O230.o⟩⟩)⟩⟩) | (have u := K220; exact ⟨_, C7, Or.inr ⟨G191.o, _, _, O192.o, Or.inr (Or.inr ⟨by omega, P7.o.2 (by omega), _, _, O220.o, F220, Or.inl ⟨by omega, by omega, rfl⟩⟩)⟩⟩) | (have u := K212; exact ⟨_, C7, Or.inr ⟨G191.o, _, _, O192.o, Or.inr (Or.inl ⟨by omega, P7.o.1 (by omega), by omega, Y212⟩)⟩⟩) | exact ⟨_, C7, Or.inr ⟨G191.o, _, _, O192.o, Or.inl ⟨by omega, by omega, rfl⟩⟩⟩)⟩
    refine y_aload_n rfl rfl ?_
    refine y_gfr rfl rfl rfl rfl rfl (hHT1.r 891 2 1 rfl) ?_
    refine y_aload_n rfl rfl ?_
    refine y_gfr rfl rfl rfl rfl rfl (hHT1.r 891 0 876 rfl) ?_
    refine y_gfr rfl rfl rfl rfl rfl (hHT1.r 876 2 879 rfl) ?_
    refine y_iload_n rfl rfl ?_
    refine y_iload_n rfl rfl ?_
    refine y_callV rfl rfl rfl (t_vo_meaning__p hHT1 879 5130 v2 v3 rfl ⟨by omega, by omega⟩ ⟨by omega, by omega⟩ ⟨by omega, by omega⟩ (by first | assumption | omega) (by first | assumption | exact (by assumption : CEN T1)) _) ?_
    rintro _ _ ⟨rfl, z203, rfl, w203, f123, n123⟩
    show Pl _ _ _ _ _ _ [iv z203] _ _
    have hm123 : mnV S (wh5 S) (eh5 S) = z203 := by have u := mnV_of f123 n123; rw [mnV_eq (SMV_FR C5 rfl rfl), n2, n3] at u; exact u
    refine y_bipush rfl rfl ?_
    refine y_ishr8 rfl (by unfold rg; omega) ?_
    refine y_istore rfl rfl rfl ?_
    refine y_iload rfl rfl ?_
    refine y_iconst rfl ?_
    refine y_icmp_eq rfl rfl (by unfold rg; omega) (by unfold rg; omega) (fun w205 => ?_) (fun w206 => ?_)
    · refine y_iconst rfl ?_
      refine y_goto rfl rfl ?_
      refine y_istore rfl rfl rfl ?_
      have A148 : Hid ((((1 : Int) = 1) → ah5 S) ∧ (((1 : Int) = 0) → ¬ ah5 S)) := by unfold ah5; rw [hm123]; first | exact ⟨fun _ => by omega, fun q => absurd q (by omega)⟩ | exact ⟨fun q => absurd q (by omega), fun _ => by omega⟩
      exact Pl_weak (C150 (v1) (v2) (v3) (v5) (1) (by omega) (by omega) (by omega) (by omega) (by omega) (n1) (n2) (n3) (by omega) (by omega) (by omega) (by omega) (P5) (C5) (E5) (B5) (X5) (by omega) (A148) (by omega) (by omega) (by omega) (by omega) (by omega) (by omega)) (by omega) (And.intro rfl (And.intro rfl (And.intro rfl (And.intro rfl (And.intro rfl (And.intro rfl (True.intro)))))))
    · refine y_iload rfl rfl ?_
      refine y_iconst rfl ?_
      refine y_icmp_ne rfl rfl (by unfold rg; omega) (by unfold rg; omega) (fun w207 => ?_) (fun w208 => ?_)
      · refine y_iconst rfl ?_
        refine y_istore rfl rfl rfl ?_
        have A148 : Hid ((((0 : Int) = 1) → ah5 S) ∧ (((0 : Int) = 0) → ¬ ah5 S)) := by unfold ah5; rw [hm123]; first | exact ⟨fun _ => by omega, fun q => absurd q (by omega)⟩ | exact ⟨fun q => absurd q (by omega), fun _ => by omega⟩
        exact Pl_weak (C150 (v1) (v2) (v3) (v5) (0) (by omega) (by omega) (by omega) (by omega) (by omega) (n1) (n2) (n3) (by omega) (by omega) (by omega) (by omega) (P5) (C5) (E5) (B5) (X5) (by omega) (A148) (by omega) (by omega) (by omega) (by omega) (by omega) (by omega)) (by omega) (And.intro rfl (And.intro rfl (And.intro rfl (And.intro rfl (And.intro rfl (And.intro rfl (True.intro)))))))
      · refine y_iconst rfl ?_
        refine y_goto rfl rfl ?_
        refine y_istore rfl rfl rfl ?_
        have A148 : Hid ((((1 : Int) = 1) → ah5 S) ∧ (((1 : Int) = 0) → ¬ ah5 S)) := by unfold ah5; rw [hm123]; first | exact ⟨fun _ => by omega, fun q => absurd q (by omega)⟩ | exact ⟨fun q => absurd q (by omega), fun _ => by omega⟩
        exact Pl_weak (C150 (v1) (v2) (v3) (v5) (1) (by omega) (by omega) (by omega) (by omega) (by omega) (n1) (n2) (n3) (by omega) (by omega) (by omega) (by omega) (P5) (C5) (E5) (B5) (X5) (by omega) (A148) (by omega) (by omega) (by omega) (by omega) (by omega) (by omega)) (by omega) (And.intro rfl (And.intro rfl (And.intro rfl (And.intro rfl (And.intro rfl (And.intro rfl (True.intro)))))))
  refine y_aload_n rfl rfl ?_
  refine y_gfr rfl rfl rfl rfl rfl (hH.r 891 0 876 rfl) ?_
  refine y_aload_n rfl rfl ?_
  refine y_gfr rfl rfl rfl rfl rfl (hH.r 891 1 890 rfl) ?_
  refine y_gfi rfl rfl rfl rfl rfl ?_
  refine y_iconst rfl ?_
  refine y_iadd rfl ?_
  refine y_callV rfl rfl rfl (t_to_typeAt__p hH ((Xi S 890 3) + 1) ⟨by omega, by omega⟩ _) ?_
  rintro _ _ ⟨rfl, z211, rfl, w211, w209, w210⟩
  show Pl _ _ _ _ _ _ [iv z211] _ _
  have gq13 := w209
  clear w209
  refine y_bipush rfl rfl ?_
  refine y_icmp_ne rfl rfl (by unfold rg; omega) (by unfold rg; omega) (fun w212 => ?_) (fun w213 => ?_)
  · refine y_iconst rfl ?_
    refine y_istore_n rfl rfl rfl ?_
    have n26 : (0 : Int) = nh5 S := by unfold nh5; rw [gq13]; first | (rw [if_pos (by omega)]) | (rw [if_neg (by omega)])
    refine y_aload_n rfl rfl ?_
    refine y_gfr rfl rfl rfl rfl rfl (hH.r 891 1 890 rfl) ?_
    refine y_gfi rfl rfl rfl rfl rfl ?_
    refine y_iload_n rfl rfl ?_
    refine y_if_eq rfl rfl (by unfold rg; omega) (fun w214 => ?_) (fun w215 => absurd w215 (by omega))
    · refine y_iconst rfl ?_
      refine y_iadd rfl ?_
      refine y_istore_n rfl rfl rfl ?_
      have n44 : ((Xi S 890 3) + 1) = wh5 S := by unfold wh5; rw [gq13]; first | (rw [if_pos (by omega)]) | (rw [if_neg (by omega)])
      refine y_aload_n rfl rfl ?_
      refine y_gfr rfl rfl rfl rfl rfl (hH.r 891 0 876 rfl) ?_
      refine y_iload_n rfl rfl ?_
      refine y_callV rfl rfl rfl (t_to_runEnd__p hH ((Xi S 890 3) + 1) ⟨by omega, by omega⟩ _) ?_
      rintro _ _ ⟨rfl, z218, rfl, w218, w216, w217⟩
      show Pl _ _ _ _ _ _ [iv z218] _ _
      have gq50 := w216
      clear w216
      have n50 : z218 = eh5 S := by unfold eh5; rw [← n44]; exact gq50.symm
      refine y_istore_n rfl rfl rfl ?_
      refine y_aload_n rfl rfl ?_
      refine y_gfr rfl rfl rfl rfl rfl (hH.r 891 0 876 rfl) ?_
      refine y_aload_n rfl rfl ?_
      refine y_gfr rfl rfl rfl rfl rfl (hH.r 891 1 890 rfl) ?_
      refine y_gfi rfl rfl rfl rfl rfl ?_
      refine y_callV rfl rfl rfl (t_to_typeAt__p hH (Xi S 890 3) ⟨by omega, by omega⟩ _) ?_
      rintro _ _ ⟨rfl, z221, rfl, w221, w219, w220⟩
      show Pl _ _ _ _ _ _ [iv z221] _ _
      have gq65 := w219
      clear w219
      refine y_iconst rfl ?_
      refine y_icmp_ne rfl rfl (by unfold rg; omega) (by unfold rg; omega) (fun w222 => ?_) (fun w223 => ?_)
      · refine y_iconst rfl ?_
        refine y_istore rfl rfl rfl ?_
        refine y_iload rfl rfl ?_
        refine y_if_eq rfl rfl (by unfold rg; omega) (fun w224 => ?_) (fun w225 => absurd w225 (by omega))
        · refine y_iconst rfl ?_
          refine y_istore rfl rfl rfl ?_
          have P108 : Hid ((((0 : Int) = 1) → ph5 S) ∧ (((0 : Int) = 0) → ¬ ph5 S)) := by first | (have u := K97; first | exact ⟨fun _ => ⟨⟨by omega, by omega⟩, (by have w := O97.o; by_cases c : eh5 S - wh5 S ≤ 6; (have x := (w.1 c).1; exact ⟨c, by omega⟩); (have x := w.2 (by omega); exfalso; omega))⟩, fun q => absurd q (by omega)⟩ | exact ⟨fun q => absurd q (by omega), fun _ q => by have w := (O97.o.1 q.2.1).1; have y := q.2.2; omega⟩) | exact ⟨fun q => absurd q (by omega), fun _ q => by have y := q.1; omega⟩
          have C108 : FR md_me_countReadings__p S S := by first | (have u := K97; exact F97) | exact FR.rf
          exact Pl_weak (C110 S hH hF (0) (((Xi S 890 3) + 1)) (z218) (0) (by omega) (by omega) (by omega) (by omega) (n26) (n44) (n50) (by omega) (by omega) (by omega) (by omega) (P108) (C108) (CEN_FR C108 rfl rfl hCE) (NRB_FR C108 rfl rfl hNB) (TX_FR C108 rfl hX) (by omega) (by omega) (by omega) (by omega) (by omega) (by omega)) (by omega) (And.intro rfl (And.intro rfl (And.intro rfl (And.intro rfl (And.intro rfl (True.intro))))))
      · refine y_iload_n rfl rfl ?_
        refine y_if_ne rfl rfl (by unfold rg; omega) (fun w226 => absurd w226 (by omega)) (fun w227 => ?_)
        · refine y_iconst rfl ?_
          refine y_goto rfl rfl ?_
          refine y_istore rfl rfl rfl ?_
          refine y_iload rfl rfl ?_
          refine y_if_eq rfl rfl (by unfold rg; omega) (fun w228 => absurd w228 (by omega)) (fun w229 => ?_)
          · refine y_aload_n rfl rfl ?_
            refine y_gfr rfl rfl rfl rfl rfl (hH.r 891 4 895 rfl) ?_
            refine y_iload_n rfl rfl ?_
            refine y_iload_n rfl rfl ?_
            refine y_iconst rfl ?_
            refine y_iconst rfl ?_
            refine y_iconst rfl ?_
            refine y_callV rfl rfl rfl (t_me_countReadings__p hH ((Xi S 890 3) + 1) z218 1 0 (-1) ⟨by omega, by omega⟩ ⟨by omega, by omega⟩ ⟨by omega, by omega⟩ ⟨by omega, by omega⟩ ⟨by omega, by omega⟩ (by first | assumption | omega) (by first | assumption | exact (by assumption : CEN S)) _) ?_
            rintro _ T13 ⟨hHT13, w231, z230, rfl, w230, o97⟩
            have hFT13 : FR md_re_tellPlain__p S T13 := FR.tr hF w231 rfl
            show Pl _ _ _ _ _ _ [iv z230] _ _
            have K97 : True := trivial
            have O97 : Hid ((eh5 S - wh5 S ≤ 6 → KCS S T13 (wh5 S) (eh5 S) 1 0 (-1) 4 z230) ∧ (6 < eh5 S - wh5 S → z230 = 0)) := by have u := o97; rw [n44, n50] at u; exact u
            clear o97
            have F97 := (by assumption : FR md_me_countReadings__p S T13)
            refine y_if_le rfl rfl (by unfold rg; omega) (fun w232 => ?_) (fun w233 => ?_)
            · refine y_iconst rfl ?_
              refine y_istore rfl rfl rfl ?_
              have P108 : Hid ((((0 : Int) = 1) → ph5 S) ∧ (((0 : Int) = 0) → ¬ ph5 S)) := by first | (have u := K97; first | exact ⟨fun _ => ⟨⟨by omega, by omega⟩, (by have w := O97.o; by_cases c : eh5 S - wh5 S ≤ 6; (have x := (w.1 c).1; exact ⟨c, by omega⟩); (have x := w.2 (by omega); exfalso; omega))⟩, fun q => absurd q (by omega)⟩ | exact ⟨fun q => absurd q (by omega), fun _ q => by have w := (O97.o.1 q.2.1).1; have y := q.2.2; omega⟩) | exact ⟨fun q => absurd q (by omega), fun _ q => by have y := q.1; omega⟩
              have C108 : FR md_me_countReadings__p S T13 := by first | (have u := K97; exact F97) | exact FR.rf
              have w234 : Xi T13 1 3 = Xi S 1 3 := (show Xi T13 1 3 = Xi S 1 3 from w231.x _ _ rfl)
              have w235 : Xi T13 5 2 = Xi S 5 2 := (show Xi T13 5 2 = Xi S 5 2 from w231.x _ _ rfl)
              have w236 : Xi T13 876 7 = Xi S 876 7 := (show Xi T13 876 7 = Xi S 876 7 from w231.x _ _ rfl)
              have w237 : Xi T13 876 8 = Xi S 876 8 := (show Xi T13 876 8 = Xi S 876 8 from w231.x _ _ rfl)
              have w238 : Xi T13 890 3 = Xi S 890 3 := (show Xi T13 890 3 = Xi S 890 3 from w231.x _ _ rfl)
              have w239 : Xi T13 891 9 = Xi S 891 9 := (show Xi T13 891 9 = Xi S 891 9 from w231.x _ _ rfl)
              exact Pl_weak (C110 T13 hHT13 hFT13 (0) (((Xi S 890 3) + 1)) (z218) (0) (by omega) (by omega) (by omega) (by omega) (n26) (n44) (n50) (by omega) (by omega) (by omega) (by omega) (P108) (C108) (CEN_FR C108 rfl rfl hCE) (NRB_FR C108 rfl rfl hNB) (TX_FR C108 rfl hX) (by omega) (by omega) (by omega) (by omega) (by omega) (by omega)) (by omega) (And.intro rfl (And.intro rfl (And.intro rfl (And.intro rfl (And.intro rfl (True.intro))))))
            · refine y_iconst rfl ?_
              refine y_goto rfl rfl ?_
              refine y_istore rfl rfl rfl ?_
              have P108 : Hid ((((1 : Int) = 1) → ph5 S) ∧ (((1 : Int) = 0) → ¬ ph5 S)) := by first | (have u := K97; first | exact ⟨fun _ => ⟨⟨by omega, by omega⟩, (by have w := O97.o; by_cases c : eh5 S - wh5 S ≤ 6; (have x := (w.1 c).1; exact ⟨c, by omega⟩); (have x := w.2 (by omega); exfalso; omega))⟩, fun q => absurd q (by omega)⟩ | exact ⟨fun q => absurd q (by omega), fun _ q => by have w := (O97.o.1 q.2.1).1; have y := q.2.2; omega⟩) | exact ⟨fun q => absurd q (by omega), fun _ q => by have y := q.1; omega⟩
              have C108 : FR md_me_countReadings__p S T13 := by first | (have u := K97; exact F97) | exact FR.rf
              have w240 : Xi T13 1 3 = Xi S 1 3 := (show Xi T13 1 3 = Xi S 1 3 from w231.x _ _ rfl)
              have w241 : Xi T13 5 2 = Xi S 5 2 := (show Xi T13 5 2 = Xi S 5 2 from w231.x _ _ rfl)
              have w242 : Xi T13 876 7 = Xi S 876 7 := (show Xi T13 876 7 = Xi S 876 7 from w231.x _ _ rfl)
              have w243 : Xi T13 876 8 = Xi S 876 8 := (show Xi T13 876 8 = Xi S 876 8 from w231.x _ _ rfl)
              have w244 : Xi T13 890 3 = Xi S 890 3 := (show Xi T13 890 3 = Xi S 890 3 from w231.x _ _ rfl)
              have w245 : Xi T13 891 9 = Xi S 891 9 := (show Xi T13 891 9 = Xi S 891 9 from w231.x _ _ rfl)
              exact Pl_weak (C110 T13 hHT13 hFT13 (0) (((Xi S 890 3) + 1)) (z218) (1) (by omega) (by omega) (by omega) (by omega) (n26) (n44) (n50) (by omega) (by omega) (by omega) (by omega) (P108) (C108) (CEN_FR C108 rfl rfl hCE) (NRB_FR C108 rfl rfl hNB) (TX_FR C108 rfl hX) (by omega) (by omega) (by omega) (by omega) (by omega) (by omega)) (by omega) (And.intro rfl (And.intro rfl (And.intro rfl (And.intro rfl (And.intro rfl (True.intro))))))
  · refine y_iconst rfl ?_
    refine y_goto rfl rfl ?_
    refine y_istore_n rfl rfl rfl ?_
    have n26 : (1 : Int) = nh5 S := by unfold nh5; rw [gq13]; first | (rw [if_pos (by omega)]) | (rw [if_neg (by omega)])
    refine y_aload_n rfl rfl ?_
    refine y_gfr rfl rfl rfl rfl rfl (hH.r 891 1 890 rfl) ?_
    refine y_gfi rfl rfl rfl rfl rfl ?_
    refine y_iload_n rfl rfl ?_
    refine y_if_eq rfl rfl (by unfold rg; omega) (fun w246 => absurd w246 (by omega)) (fun w247 => ?_)
    · refine y_iconst rfl ?_
      refine y_goto rfl rfl ?_
      refine y_iadd rfl ?_
      refine y_istore_n rfl rfl rfl ?_
      have n44 : ((Xi S 890 3) + 2) = wh5 S := by unfold wh5; rw [gq13]; first | (rw [if_pos (by omega)]) | (rw [if_neg (by omega)])
      refine y_aload_n rfl rfl ?_
      refine y_gfr rfl rfl rfl rfl rfl (hH.r 891 0 876 rfl) ?_
      refine y_iload_n rfl rfl ?_
      refine y_callV rfl rfl rfl (t_to_runEnd__p hH ((Xi S 890 3) + 2) ⟨by omega, by omega⟩ _) ?_
      rintro _ _ ⟨rfl, z250, rfl, w250, w248, w249⟩
      show Pl _ _ _ _ _ _ [iv z250] _ _
      have gq50 := w248
      clear w248
      have n50 : z250 = eh5 S := by unfold eh5; rw [← n44]; exact gq50.symm
      refine y_istore_n rfl rfl rfl ?_
      refine y_aload_n rfl rfl ?_
      refine y_gfr rfl rfl rfl rfl rfl (hH.r 891 0 876 rfl) ?_
      refine y_aload_n rfl rfl ?_
      refine y_gfr rfl rfl rfl rfl rfl (hH.r 891 1 890 rfl) ?_
      refine y_gfi rfl rfl rfl rfl rfl ?_
      refine y_callV rfl rfl rfl (t_to_typeAt__p hH (Xi S 890 3) ⟨by omega, by omega⟩ _) ?_
      rintro _ _ ⟨rfl, z253, rfl, w253, w251, w252⟩
      show Pl _ _ _ _ _ _ [iv z253] _ _
      have gq65 := w251
      clear w251
      refine y_iconst rfl ?_
      refine y_icmp_ne rfl rfl (by unfold rg; omega) (by unfold rg; omega) (fun w254 => ?_) (fun w255 => ?_)
      · refine y_iconst rfl ?_
        refine y_istore rfl rfl rfl ?_
        refine y_iload rfl rfl ?_
        refine y_if_eq rfl rfl (by unfold rg; omega) (fun w256 => ?_) (fun w257 => absurd w257 (by omega))
        · refine y_iconst rfl ?_
          refine y_istore rfl rfl rfl ?_
          have P108 : Hid ((((0 : Int) = 1) → ph5 S) ∧ (((0 : Int) = 0) → ¬ ph5 S)) := by first | (have u := K97; first | exact ⟨fun _ => ⟨⟨by omega, by omega⟩, (by have w := O97.o; by_cases c : eh5 S - wh5 S ≤ 6; (have x := (w.1 c).1; exact ⟨c, by omega⟩); (have x := w.2 (by omega); exfalso; omega))⟩, fun q => absurd q (by omega)⟩ | exact ⟨fun q => absurd q (by omega), fun _ q => by have w := (O97.o.1 q.2.1).1; have y := q.2.2; omega⟩) | exact ⟨fun q => absurd q (by omega), fun _ q => by have y := q.1; omega⟩
          have C108 : FR md_me_countReadings__p S S := by first | (have u := K97; exact F97) | exact FR.rf
          exact Pl_weak (C110 S hH hF (1) (((Xi S 890 3) + 2)) (z250) (0) (by omega) (by omega) (by omega) (by omega) (n26) (n44) (n50) (by omega) (by omega) (by omega) (by omega) (P108) (C108) (CEN_FR C108 rfl rfl hCE) (NRB_FR C108 rfl rfl hNB) (TX_FR C108 rfl hX) (by omega) (by omega) (by omega) (by omega) (by omega) (by omega)) (by omega) (And.intro rfl (And.intro rfl (And.intro rfl (And.intro rfl (And.intro rfl (True.intro))))))
      · refine y_iload_n rfl rfl ?_
        refine y_if_ne rfl rfl (by unfold rg; omega) (fun w258 => ?_) (fun w259 => absurd w259 (by omega))
        · refine y_iconst rfl ?_
          refine y_istore rfl rfl rfl ?_
          refine y_iload rfl rfl ?_
          refine y_if_eq rfl rfl (by unfold rg; omega) (fun w260 => ?_) (fun w261 => absurd w261 (by omega))
          · refine y_iconst rfl ?_
            refine y_istore rfl rfl rfl ?_
            have P108 : Hid ((((0 : Int) = 1) → ph5 S) ∧ (((0 : Int) = 0) → ¬ ph5 S)) := by first | (have u := K97; first | exact ⟨fun _ => ⟨⟨by omega, by omega⟩, (by have w := O97.o; by_cases c : eh5 S - wh5 S ≤ 6; (have x := (w.1 c).1; exact ⟨c, by omega⟩); (have x := w.2 (by omega); exfalso; omega))⟩, fun q => absurd q (by omega)⟩ | exact ⟨fun q => absurd q (by omega), fun _ q => by have w := (O97.o.1 q.2.1).1; have y := q.2.2; omega⟩) | exact ⟨fun q => absurd q (by omega), fun _ q => by have y := q.1; omega⟩
            have C108 : FR md_me_countReadings__p S S := by first | (have u := K97; exact F97) | exact FR.rf
            exact Pl_weak (C110 S hH hF (1) (((Xi S 890 3) + 2)) (z250) (0) (by omega) (by omega) (by omega) (by omega) (n26) (n44) (n50) (by omega) (by omega) (by omega) (by omega) (P108) (C108) (CEN_FR C108 rfl rfl hCE) (NRB_FR C108 rfl rfl hNB) (TX_FR C108 rfl hX) (by omega) (by omega) (by omega) (by omega) (by omega) (by omega)) (by omega) (And.intro rfl (And.intro rfl (And.intro rfl (And.intro rfl (And.intro rfl (True.intro))))))
end
section
/-! 0: a text by itself (reference) -/
def RA0 (S S1 : sS) : Prop := (Xi S 904 60 = -1 → NTB (NT3 S1) 4 (Xi S 908 (Xi S 904 81).toNat)) ∧ (Xi S 904 60 ≠ -1 → (NT3 S1).1 = 0)
def RD0 (S S1 : sS) (first : Int) : Prop := ∃ (A : sS) (y : Int), TPR1 S A y 930 (Xi S 904 60) 0 (Xi S 908 (Xi S 904 81).toNat + 1) (Xi S 909 (Xi S 904 81).toNat) ∧ ((y = 1 ∧ S1 = A) ∨ (y = 0 ∧ NTB (NT3 S1) 5 (Xi S 908 first.toNat)))
theorem ra0_n {S P S1 : sS} (h : Xi S 904 60 = -1) (z : (NT3 P).1 = 0) (n : NT3 S1 = if (0 : Int) = 0 then ntF (NT3 P) 4 (Xi S 908 (Xi S 904 81).toNat) else NT3 P) : RA0 S S1 := ⟨fun _ => by rw [n, if_pos rfl]; exact ntF_0 z, fun q => absurd h q⟩
theorem ra0_y {S P S1 : sS} {p : Int} (h : Xi S 904 60 ≠ -1) (z : (NT3 P).1 = 0) (n : NT3 S1 = if (1 : Int) = 0 then ntF (NT3 P) 4 p else NT3 P) : RA0 S S1 := ⟨fun q => absurd q h, fun _ => by rw [n, if_neg (by decide)]; exact z⟩

def md_mo_asked__0 : List rec := [(904, 905, 64, 65), (904, 905, 104, 105), (904, 905, 105, 106), (904, 905, 106, 107), (904, 905, 108, 109), (904, 905, 109, 110), (904, 905, 110, 111), (904, 905, 112, 113), (904, 905, 113, 114), (904, 905, 115, 116), (904, 905, 116, 117), (904, 905, 117, 118), (904, 905, 125, 126), (904, 905, 128, 129), (904, 905, 129, 130), (904, 905, 130, 131), (904, 905, 142, 143), (904, 905, 144, 145), (904, 905, 146, 147), (904, 905, 147, 148), (904, 905, 150, 151), (904, 905, 151, 152), (904, 905, 153, 154), (904, 905, 154, 155), (904, 905, 156, 157), (904, 905, 157, 158), (904, 905, 158, 159), (904, 905, 160, 161), (966, 967, 0, 100000), (967, 968, 0, 100000), (968, 969, 0, 100000), (969, 970, 0, 100000), (970, 971, 0, 100000), (971, 972, 0, 100000), (972, 973, 0, 100000), (973, 974, 0, 100000), (974, 975, 0, 100000), (975, 976, 0, 100000), (976, 977, 0, 100000), (977, 978, 0, 100000), (978, 979, 0, 100000), (979, 980, 0, 100000), (980, 981, 0, 100000), (981, 982, 0, 100000), (982, 983, 0, 100000), (983, 984, 0, 100000), (984, 985, 0, 100000), (985, 986, 0, 100000), (986, 987, 0, 100000), (987, 988, 0, 100000), (988, 989, 0, 100000), (989, 990, 0, 100000), (990, 991, 0, 100000), (991, 992, 0, 100000), (992, 993, 0, 100000), (993, 994, 0, 100000), (994, 995, 0, 100000)]
abbrev Q_mo_asked__0 (S : sS) (first : Int) : pst := fun r S1 => RI S1 ∧ FR md_mo_asked__0 S S1 ∧ (r = none ∧ (RA0 S S1))
set_option maxRecDepth 100000 in
theorem t_mo_asked__0 {S : sS} (hH : RI S) (first : Int) (hfirst : 0 ≤ first ∧ first ≤ 5001) (hs : Xi S 904 70 = 0) (d : Nat) : Mp lay0 (d + 13) m_mo_asked [.ref 904, iv first] S (Q_mo_asked__0 S first) := by
  refine Mp_R rfl rfl (fun fu => ?_)
  have hF : FR md_mo_asked__0 S S := FR.rf
  have w1 : -2147483648 ≤ Xi S 904 104 ∧ Xi S 904 104 ≤ 2147483647 := Xi_rgI
  have w2 : -2147483648 ≤ Xi S 904 105 ∧ Xi S 904 105 ≤ 2147483647 := Xi_rgI
  have w3 : -2147483648 ≤ Xi S 904 106 ∧ Xi S 904 106 ≤ 2147483647 := Xi_rgI
  have w4 : -2147483648 ≤ Xi S 904 108 ∧ Xi S 904 108 ≤ 2147483647 := Xi_rgI
  have w5 : -2147483648 ≤ Xi S 904 60 ∧ Xi S 904 60 ≤ 2147483647 := Xi_rgI
  have w6 : -2147483648 ≤ Xi S 904 70 ∧ Xi S 904 70 ≤ 2147483647 := Xi_rgI
  refine y_aload_n rfl rfl ?_
  refine y_iconst rfl ?_
  refine y_pfi rfl rfl rfl rfl ?_
  obtain ⟨U1, eU1⟩ : ∃ T : sS, T = uI S 904 106 (Int32.ofInt 0) := ⟨_, rfl⟩
  rw [← eU1]
  have hHU1 : RI U1 := by rw [eU1]; exact RI_w hH
  have hFU1 : FR md_mo_asked__0 S U1 := by rw [eU1]; exact FR.wI hF (mdf_i (r := (904, 905, 106, 107)) (List.mem_of_getElem? (i := 3) rfl) (inR_i (by omega) (by omega) (by omega) (by omega)))
  have w7 : Xi U1 904 106 = 0 := by rw [eU1]; exact Xi_same (by unfold rg; omega)
  refine y_aload_n rfl rfl ?_
  refine y_iconst rfl ?_
  refine y_pfi rfl rfl rfl rfl ?_
  obtain ⟨U2, eU2⟩ : ∃ T : sS, T = uI U1 904 108 (Int32.ofInt 0) := ⟨_, rfl⟩
  rw [← eU2]
  have hHU2 : RI U2 := by rw [eU2]; exact RI_w hHU1
  have hFU2 : FR md_mo_asked__0 S U2 := by rw [eU2]; exact FR.wI hFU1 (mdf_i (r := (904, 905, 108, 109)) (List.mem_of_getElem? (i := 4) rfl) (inR_i (by omega) (by omega) (by omega) (by omega)))
  have w8 : Xi U2 904 108 = 0 := by rw [eU2]; exact Xi_same (by unfold rg; omega)
  refine y_aload_n rfl rfl ?_
  refine y_iconst rfl ?_
  refine y_pfi rfl rfl rfl rfl ?_
  obtain ⟨U3, eU3⟩ : ∃ T : sS, T = uI U2 904 115 (Int32.ofInt (-1)) := ⟨_, rfl⟩
  rw [← eU3]
  have hHU3 : RI U3 := by rw [eU3]; exact RI_w hHU2
  have hFU3 : FR md_mo_asked__0 S U3 := by rw [eU3]; exact FR.wI hFU2 (mdf_i (r := (904, 905, 115, 116)) (List.mem_of_getElem? (i := 9) rfl) (inR_i (by omega) (by omega) (by omega) (by omega)))
  have w9 : Xi U3 904 115 = (-1) := by rw [eU3]; exact Xi_same (by unfold rg; omega)
  refine y_aload_n rfl rfl ?_
  refine y_iconst rfl ?_
  refine y_pfi rfl rfl rfl rfl ?_
  obtain ⟨U4, eU4⟩ : ∃ T : sS, T = uI U3 904 116 (Int32.ofInt (-1)) := ⟨_, rfl⟩
  rw [← eU4]
  have hHU4 : RI U4 := by rw [eU4]; exact RI_w hHU3
  have hFU4 : FR md_mo_asked__0 S U4 := by rw [eU4]; exact FR.wI hFU3 (mdf_i (r := (904, 905, 116, 117)) (List.mem_of_getElem? (i := 10) rfl) (inR_i (by omega) (by omega) (by omega) (by omega)))
  have w10 : Xi U4 904 116 = (-1) := by rw [eU4]; exact Xi_same (by unfold rg; omega)
  refine y_aload_n rfl rfl ?_
  refine y_gfi rfl rfl rfl rfl rfl ?_
  have w11 : (Xi U4 904 70) = (Xi S 904 70) := (show Xi U4 904 70 = Xi U3 904 70 from by rw [eU4]; exact Xi_ne (by omega)).trans ( (show Xi U3 904 70 = Xi U2 904 70 from by rw [eU3]; exact Xi_ne (by omega)).trans ( (show Xi U2 904 70 = Xi U1 904 70 from by rw [eU2]; exact Xi_ne (by omega)).trans ((show Xi U1 904 70 = Xi S 904 70 from by rw [eU1]; exact Xi_ne (by omega)))))
  rw [w11]
  refine y_tsw rfl rfl rfl rfl (by unfold rg; omega) (fun w12 => ?_) (fun ii tt hii w12 => ?_)
  · exfalso; omega
  · match ii, hii with
    | 0, hii =>
      cases hii
      have w13 : (Xi S 904 70) = 0 := by simpa using w12
      refine y_aload_n rfl rfl ?_
      refine y_aload_n rfl rfl ?_
      refine y_gfi rfl rfl rfl rfl rfl ?_
      have w14 : (Xi U4 904 60) = (Xi S 904 60) := (show Xi U4 904 60 = Xi U3 904 60 from by rw [eU4]; exact Xi_ne (by omega)).trans ( (show Xi U3 904 60 = Xi U2 904 60 from by rw [eU3]; exact Xi_ne (by omega)).trans ( (show Xi U2 904 60 = Xi U1 904 60 from by rw [eU2]; exact Xi_ne (by omega)).trans ((show Xi U1 904 60 = Xi S 904 60 from by rw [eU1]; exact Xi_ne (by omega)))))
      rw [w14]
      refine y_iconst rfl ?_
      refine y_icmp_eq rfl rfl (by unfold rg; omega) (by unfold rg; omega) (fun w15 => ?_) (fun w16 => ?_)
      · refine y_iconst rfl ?_
        refine y_iconst rfl ?_
        refine y_aload_n rfl rfl ?_
        refine y_gfi rfl rfl rfl rfl rfl ?_
        have w17 : -2147483648 ≤ (Xi U4 904 81) ∧ (Xi U4 904 81) ≤ 2147483647 := Xi_rgI
        have e140 : (Xi U4 904 81) = Xi S 904 81 := hFU4.x 904 81 rfl
        have w18 : Xi U4 904 104 = Xi S 904 104 := (show Xi U4 904 104 = Xi U3 904 104 from by rw [eU4]; exact Xi_ne (by omega)).trans ( (show Xi U3 904 104 = Xi U2 904 104 from by rw [eU3]; exact Xi_ne (by omega)).trans ( (show Xi U2 904 104 = Xi U1 904 104 from by rw [eU2]; exact Xi_ne (by omega)).trans ((show Xi U1 904 104 = Xi S 904 104 from by rw [eU1]; exact Xi_ne (by omega)))))
        have w19 : Xi U4 904 105 = Xi S 904 105 := (show Xi U4 904 105 = Xi U3 904 105 from by rw [eU4]; exact Xi_ne (by omega)).trans ( (show Xi U3 904 105 = Xi U2 904 105 from by rw [eU3]; exact Xi_ne (by omega)).trans ( (show Xi U2 904 105 = Xi U1 904 105 from by rw [eU2]; exact Xi_ne (by omega)).trans ((show Xi U1 904 105 = Xi S 904 105 from by rw [eU1]; exact Xi_ne (by omega)))))
        have w20 : Xi U4 904 106 = Xi U1 904 106 := (show Xi U4 904 106 = Xi U3 904 106 from by rw [eU4]; exact Xi_ne (by omega)).trans ( (show Xi U3 904 106 = Xi U2 904 106 from by rw [eU3]; exact Xi_ne (by omega)).trans ((show Xi U2 904 106 = Xi U1 904 106 from by rw [eU2]; exact Xi_ne (by omega))))
        have w21 : Xi U4 904 108 = Xi U2 904 108 := (show Xi U4 904 108 = Xi U3 904 108 from by rw [eU4]; exact Xi_ne (by omega)).trans ((show Xi U3 904 108 = Xi U2 904 108 from by rw [eU3]; exact Xi_ne (by omega)))
        have w22 : Xi U4 904 60 = Xi S 904 60 := (show Xi U4 904 60 = Xi U3 904 60 from by rw [eU4]; exact Xi_ne (by omega)).trans ( (show Xi U3 904 60 = Xi U2 904 60 from by rw [eU3]; exact Xi_ne (by omega)).trans ( (show Xi U2 904 60 = Xi U1 904 60 from by rw [eU2]; exact Xi_ne (by omega)).trans ((show Xi U1 904 60 = Xi S 904 60 from by rw [eU1]; exact Xi_ne (by omega)))))
        have w23 : Xi U4 904 70 = Xi S 904 70 := (show Xi U4 904 70 = Xi U3 904 70 from by rw [eU4]; exact Xi_ne (by omega)).trans ( (show Xi U3 904 70 = Xi U2 904 70 from by rw [eU3]; exact Xi_ne (by omega)).trans ( (show Xi U2 904 70 = Xi U1 904 70 from by rw [eU2]; exact Xi_ne (by omega)).trans ((show Xi U1 904 70 = Xi S 904 70 from by rw [eU1]; exact Xi_ne (by omega)))))
        refine y_callV rfl rfl rfl (t_mo_need__p hHU4 0 4 (Xi U4 904 81) ⟨by omega, by omega⟩ ⟨by omega, by omega⟩ ⟨by omega, by omega⟩ _) ?_
        rintro _ T5 ⟨hHT5, w25, rfl, nt143⟩
        have hFT5 : FR md_mo_asked__0 S T5 := FR.tr hFU4 w25 rfl
        show Pl _ _ _ _ _ _ [] _ _
        have K143 : True := trivial
        have z143 : (NT3 U4).1 = 0 := by show Xi U4 904 106 = 0; omega
        have n143 := nt143
        rw [(hFU4.cx 908 rfl _).1, e140] at n143
        have R143 : RA0 S T5 := by first | exact ra0_n (by omega) z143 n143 | exact ra0_y (by omega) z143 n143
        refine y_goto rfl rfl ?_
        refine y_return rfl rfl ?_
        exact ⟨hHT5, hFT5, rfl, (by first | (have t := K143; exact R143) | (exfalso; omega))⟩
      · refine y_iconst rfl ?_
        refine y_goto rfl rfl ?_
        refine y_iconst rfl ?_
        refine y_aload_n rfl rfl ?_
        refine y_gfi rfl rfl rfl rfl rfl ?_
        have w29 : -2147483648 ≤ (Xi U4 904 81) ∧ (Xi U4 904 81) ≤ 2147483647 := Xi_rgI
        have e140 : (Xi U4 904 81) = Xi S 904 81 := hFU4.x 904 81 rfl
        have w30 : Xi U4 904 104 = Xi S 904 104 := (show Xi U4 904 104 = Xi U3 904 104 from by rw [eU4]; exact Xi_ne (by omega)).trans ( (show Xi U3 904 104 = Xi U2 904 104 from by rw [eU3]; exact Xi_ne (by omega)).trans ( (show Xi U2 904 104 = Xi U1 904 104 from by rw [eU2]; exact Xi_ne (by omega)).trans ((show Xi U1 904 104 = Xi S 904 104 from by rw [eU1]; exact Xi_ne (by omega)))))
        have w31 : Xi U4 904 105 = Xi S 904 105 := (show Xi U4 904 105 = Xi U3 904 105 from by rw [eU4]; exact Xi_ne (by omega)).trans ( (show Xi U3 904 105 = Xi U2 904 105 from by rw [eU3]; exact Xi_ne (by omega)).trans ( (show Xi U2 904 105 = Xi U1 904 105 from by rw [eU2]; exact Xi_ne (by omega)).trans ((show Xi U1 904 105 = Xi S 904 105 from by rw [eU1]; exact Xi_ne (by omega)))))
        have w32 : Xi U4 904 106 = Xi U1 904 106 := (show Xi U4 904 106 = Xi U3 904 106 from by rw [eU4]; exact Xi_ne (by omega)).trans ( (show Xi U3 904 106 = Xi U2 904 106 from by rw [eU3]; exact Xi_ne (by omega)).trans ((show Xi U2 904 106 = Xi U1 904 106 from by rw [eU2]; exact Xi_ne (by omega))))
        have w33 : Xi U4 904 108 = Xi U2 904 108 := (show Xi U4 904 108 = Xi U3 904 108 from by rw [eU4]; exact Xi_ne (by omega)).trans ((show Xi U3 904 108 = Xi U2 904 108 from by rw [eU3]; exact Xi_ne (by omega)))
        have w34 : Xi U4 904 60 = Xi S 904 60 := (show Xi U4 904 60 = Xi U3 904 60 from by rw [eU4]; exact Xi_ne (by omega)).trans ( (show Xi U3 904 60 = Xi U2 904 60 from by rw [eU3]; exact Xi_ne (by omega)).trans ( (show Xi U2 904 60 = Xi U1 904 60 from by rw [eU2]; exact Xi_ne (by omega)).trans ((show Xi U1 904 60 = Xi S 904 60 from by rw [eU1]; exact Xi_ne (by omega)))))
        have w35 : Xi U4 904 70 = Xi S 904 70 := (show Xi U4 904 70 = Xi U3 904 70 from by rw [eU4]; exact Xi_ne (by omega)).trans ( (show Xi U3 904 70 = Xi U2 904 70 from by rw [eU3]; exact Xi_ne (by omega)).trans ( (show Xi U2 904 70 = Xi U1 904 70 from by rw [eU2]; exact Xi_ne (by omega)).trans ((show Xi U1 904 70 = Xi S 904 70 from by rw [eU1]; exact Xi_ne (by omega)))))
        refine y_callV rfl rfl rfl (t_mo_need__p hHU4 1 4 (Xi U4 904 81) ⟨by omega, by omega⟩ ⟨by omega, by omega⟩ ⟨by omega, by omega⟩ _) ?_
        rintro _ T6 ⟨hHT6, w37, rfl, nt143⟩
        have hFT6 : FR md_mo_asked__0 S T6 := FR.tr hFU4 w37 rfl
        show Pl _ _ _ _ _ _ [] _ _
        have K143 : True := trivial
        have z143 : (NT3 U4).1 = 0 := by show Xi U4 904 106 = 0; omega
        have n143 := nt143
        rw [(hFU4.cx 908 rfl _).1, e140] at n143
        have R143 : RA0 S T6 := by first | exact ra0_n (by omega) z143 n143 | exact ra0_y (by omega) z143 n143
        refine y_goto rfl rfl ?_
        refine y_return rfl rfl ?_
        exact ⟨hHT6, hFT6, rfl, (by first | (have t := K143; exact R143) | (exfalso; omega))⟩
    | 1, hii =>
      cases hii
      have w41 : (Xi S 904 70) = 1 := by simpa using w12
      exfalso; omega
    | 2, hii =>
      cases hii
      have w42 : (Xi S 904 70) = 2 := by simpa using w12
      exfalso; omega
    | 3, hii =>
      cases hii
      have w43 : (Xi S 904 70) = 3 := by simpa using w12
      exfalso; omega
    | 4, hii =>
      cases hii
      have w44 : (Xi S 904 70) = 4 := by simpa using w12
      exfalso; omega
    | 5, hii =>
      cases hii
      have w45 : (Xi S 904 70) = 5 := by simpa using w12
      exfalso; omega
    | 6, hii =>
      cases hii
      have w46 : (Xi S 904 70) = 6 := by simpa using w12
      exfalso; omega
    | 7, hii =>
      cases hii
      have w47 : (Xi S 904 70) = 7 := by simpa using w12
      exfalso; omega
    | 8, hii =>
      cases hii
      have w48 : (Xi S 904 70) = 8 := by simpa using w12
      exfalso; omega
    | 9, hii =>
      cases hii
      have w49 : (Xi S 904 70) = 9 := by simpa using w12
      exfalso; omega
    | 10, hii =>
      cases hii
      have w50 : (Xi S 904 70) = 10 := by simpa using w12
      exfalso; omega
    | 11, hii =>
      cases hii
      have w51 : (Xi S 904 70) = 11 := by simpa using w12
      exfalso; omega
    | 12, hii =>
      cases hii
      have w52 : (Xi S 904 70) = 12 := by simpa using w12
      exfalso; omega
    | 13, hii =>
      cases hii
      have w53 : (Xi S 904 70) = 13 := by simpa using w12
      exfalso; omega
    | 14, hii =>
      cases hii
      have w54 : (Xi S 904 70) = 14 := by simpa using w12
      exfalso; omega
    | 15, hii =>
      cases hii
      have w55 : (Xi S 904 70) = 15 := by simpa using w12
      exfalso; omega
    | 16, hii =>
      cases hii
      have w56 : (Xi S 904 70) = 16 := by simpa using w12
      exfalso; omega
    | 17, hii =>
      cases hii
      have w57 : (Xi S 904 70) = 17 := by simpa using w12
      exfalso; omega
    | 18, hii =>
      cases hii
      have w58 : (Xi S 904 70) = 18 := by simpa using w12
      exfalso; omega
    | 19, hii =>
      cases hii
      have w59 : (Xi S 904 70) = 19 := by simpa using w12
      exfalso; omega
    | 20, hii =>
      cases hii
      have w60 : (Xi S 904 70) = 20 := by simpa using w12
      exfalso; omega
    | n + 21, hii => exact absurd hii (by simp)
def md_mo_does__0 : List rec := [(904, 905, 15, 16), (904, 905, 16, 17), (904, 905, 18, 19), (904, 905, 19, 20), (904, 905, 23, 24), (904, 905, 30, 31), (904, 905, 32, 33), (904, 905, 41, 42), (904, 905, 47, 48), (904, 905, 49, 50), (904, 905, 51, 52), (904, 905, 55, 56), (904, 905, 60, 61), (904, 905, 64, 65), (904, 905, 73, 74), (904, 905, 105, 106), (904, 905, 106, 107), (904, 905, 113, 114), (904, 905, 117, 118), (912, 913, 0, 100000), (913, 914, 0, 100000), (914, 915, 0, 100000), (915, 916, 0, 100000), (916, 917, 0, 100000), (917, 918, 0, 100000), (918, 919, 0, 100000), (919, 920, 0, 100000), (920, 921, 0, 100000), (921, 922, 0, 100000), (922, 923, 0, 100000), (923, 924, 0, 100000), (924, 925, 0, 100000), (925, 926, 0, 100000), (926, 927, 0, 100000), (927, 928, 0, 100000), (928, 929, 0, 100000), (929, 930, 0, 100000), (930, 931, 0, 100000), (931, 932, 0, 100000), (932, 933, 0, 100000), (933, 934, 0, 100000), (934, 935, 0, 100000), (935, 936, 0, 100000), (936, 937, 0, 100000), (937, 938, 0, 100000), (938, 939, 0, 100000), (939, 940, 0, 100000), (940, 941, 0, 100000), (941, 942, 0, 100000), (942, 943, 0, 100000), (943, 944, 0, 100000), (944, 945, 0, 100000), (945, 946, 0, 100000), (946, 947, 0, 100000), (947, 948, 0, 100000), (948, 949, 0, 100000), (949, 950, 0, 100000)]
abbrev Q_mo_does__0 (S : sS) (first : Int) : pst := fun r S1 => RI S1 ∧ FR md_mo_does__0 S S1 ∧ (r = none ∧ (RD0 S S1 first))
set_option maxRecDepth 100000 in
theorem t_mo_does__0 {S : sS} (hH : RI S) (first : Int) (hfirst : 0 ≤ first ∧ first ≤ 5001) (hs : Xi S 904 70 = 0) (hz0 : Xi S 904 106 = 0) (h60 : 0 ≤ Xi S 904 60 ∧ Xi S 904 60 ≤ 23) (h8 : -1 ≤ Xi S 908 (Xi S 904 81).toNat ∧ Xi S 908 (Xi S 904 81).toNat ≤ 100000) (d : Nat) : Mp lay0 (d + 8) m_mo_does [.ref 904, iv first] S (Q_mo_does__0 S first) := by
  refine Mp_R rfl rfl (fun fu => ?_)
  have hF : FR md_mo_does__0 S S := FR.rf
  have w1 : -2147483648 ≤ Xi S 904 106 ∧ Xi S 904 106 ≤ 2147483647 := Xi_rgI
  have w2 : -2147483648 ≤ Xi S 904 60 ∧ Xi S 904 60 ≤ 2147483647 := Xi_rgI
  have w3 : -2147483648 ≤ Xi S 904 70 ∧ Xi S 904 70 ≤ 2147483647 := Xi_rgI
  have w4 : -2147483648 ≤ Xi S 904 81 ∧ Xi S 904 81 ≤ 2147483647 := Xi_rgI
  have C300 : ∀ (n300 : Nat) (_ : n300 ≤ fu) (T1 : sS) (_ : RI T1) (_ : FR md_mo_does__0 S T1) (v2 : Int), (-2147483648 ≤ v2 ∧ v2 ≤ 2147483647) → ((1 : Int) = 0) → Pl n300 lay0 (d + 7) m_mo_does 300 [(0, .ref 904), (2, iv v2)] [] T1 (Q_mo_does__0 S first) := by
    intro n300
    induction n300 with
    | zero => intros; exact Pl_0
    | succ n300 ih300 =>
      intro hm300 T1 hHT1 hFT1 v2 w5 w6
      have w7 : Xi T1 904 110 = Xi S 904 110 := hFT1.x _ _ rfl
      have w8 : Xi T1 904 112 = Xi S 904 112 := hFT1.x _ _ rfl
      have w9 : Xi T1 904 142 = Xi S 904 142 := hFT1.x _ _ rfl
      have w10 : Xi T1 904 69 = Xi S 904 69 := hFT1.x _ _ rfl
      have w11 : Xi T1 904 70 = Xi S 904 70 := hFT1.x _ _ rfl
      have w12 : Xi T1 904 71 = Xi S 904 71 := hFT1.x _ _ rfl
      have w13 : Xi T1 904 72 = Xi S 904 72 := hFT1.x _ _ rfl
      have w14 : Xi T1 904 74 = Xi S 904 74 := hFT1.x _ _ rfl
      have w15 : Xi T1 904 78 = Xi S 904 78 := hFT1.x _ _ rfl
      have w16 : Xi T1 904 81 = Xi S 904 81 := hFT1.x _ _ rfl
      have w17 : Xi T1 904 94 = Xi S 904 94 := hFT1.x _ _ rfl
      have w18 : Xi T1 951 1 = Xi S 951 1 := hFT1.x _ _ rfl
      have w19 : Xi T1 951 2 = Xi S 951 2 := hFT1.x _ _ rfl
      have w20 : Xi T1 967 0 = Xi S 967 0 := hFT1.x _ _ rfl
      have w21 : -2147483648 ≤ Xi T1 904 106 ∧ Xi T1 904 106 ≤ 2147483647 := Xi_rgI
      have w22 : -2147483648 ≤ Xi T1 904 60 ∧ Xi T1 904 60 ≤ 2147483647 := Xi_rgI
      have w23 : -2147483648 ≤ Xi T1 904 70 ∧ Xi T1 904 70 ≤ 2147483647 := Xi_rgI
      exfalso; omega
  refine y_aload_n rfl rfl ?_
  refine y_gfi rfl rfl rfl rfl rfl ?_
  refine y_tsw rfl rfl rfl rfl (by unfold rg; omega) (fun w24 => ?_) (fun ii tt hii w24 => ?_)
  · refine y_return rfl rfl ?_
    exact ⟨hH, hF, rfl, (by first | (have t := K130; exact ⟨_, _, O130.o, by first | exact Or.inr ⟨by omega, Y139⟩ | exact Or.inl ⟨by omega, rfl⟩⟩) | (exfalso; omega))⟩
  · match ii, hii with
    | 0, hii =>
      cases hii
      have w25 : (Xi S 904 70) = 0 := by simpa using w24
      refine y_aload_n rfl rfl ?_
      refine y_aload_n rfl rfl ?_
      refine y_gfi rfl rfl rfl rfl rfl ?_
      refine y_iconst rfl ?_
      refine y_aload_n rfl rfl ?_
      refine y_gfr rfl rfl rfl rfl rfl (hH.r 904 5 908 rfl) ?_
      refine y_aload_n rfl rfl ?_
      refine y_gfi rfl rfl rfl rfl rfl ?_
      refine y_ialoadP (n := 5002) rfl rfl (by unfold rg; omega) (fun w26 w27 => ?_)
      have w28 : -2147483648 ≤ (Xi S 908 (((Xi S 904 81)).toNat)) ∧ (Xi S 908 (((Xi S 904 81)).toNat)) ≤ 2147483647 := Xi_rgI
      refine y_iconst rfl ?_
      refine y_iadd rfl ?_
      refine y_aload_n rfl rfl ?_
      refine y_gfr rfl rfl rfl rfl rfl (hH.r 904 6 909 rfl) ?_
      refine y_aload_n rfl rfl ?_
      refine y_gfi rfl rfl rfl rfl rfl ?_
      refine y_ialoadP (n := 5002) rfl rfl (by unfold rg; omega) (fun w29 w30 => ?_)
      have w31 : -2147483648 ≤ (Xi S 909 (((Xi S 904 81)).toNat)) ∧ (Xi S 909 (((Xi S 904 81)).toNat)) ≤ 2147483647 := Xi_rgI
      refine y_callV rfl rfl rfl (t_mo_tellObject__p hH (Xi S 904 60) 0 ((Xi S 908 (((Xi S 904 81)).toNat)) + 1) (Xi S 909 (((Xi S 904 81)).toNat)) ⟨by omega, by omega⟩ ⟨by omega, by omega⟩ ⟨by omega, by omega⟩ ⟨by omega, by omega⟩ _) ?_
      rintro _ T2 ⟨hHT2, w33, z32, rfl, w32, o130⟩
      have hFT2 : FR md_mo_does__0 S T2 := FR.tr hF w33 rfl
      show Pl _ _ _ _ _ _ [iv z32] _ _
      have K130 : True := trivial
      have F130 := (by assumption : FR md_mo_tellObject__p S T2)
      have O130 := Hid.i o130
      clear o130
      refine y_if_ne rfl rfl (by unfold rg; omega) (fun w34 => ?_) (fun w35 => ?_)
      · refine y_return rfl rfl ?_
        exact ⟨hHT2, hFT2, rfl, (by first | (have t := K130; exact ⟨_, _, O130.o, by first | exact Or.inr ⟨by omega, Y139⟩ | exact Or.inl ⟨by omega, rfl⟩⟩) | (exfalso; omega))⟩
      · refine y_aload_n rfl rfl ?_
        refine y_iconst rfl ?_
        refine y_iload_n rfl rfl ?_
        have w39 : Xi T2 904 106 = Xi S 904 106 := (show Xi T2 904 106 = Xi S 904 106 from w33.x _ _ rfl)
        refine y_callV rfl rfl rfl (t_mo_wrong__p hHT2 5 first ⟨by omega, by omega⟩ ⟨by omega, by omega⟩ _) ?_
        rintro _ T3 ⟨hHT3, w44, rfl, w139, w42⟩
        have hFT3 : FR md_mo_does__0 S T3 := FR.tr hFT2 w44 rfl
        show Pl _ _ _ _ _ _ [] _ _
        have Y139 : NTB (NT3 T3) 5 (Xi S 908 first.toNat) := by have t := w139 ((F130.x 904 106 rfl).trans hz0); rw [(hFT2.cx 908 rfl _).1] at t; exact t
        refine y_goto rfl rfl ?_
        refine y_return rfl rfl ?_
        exact ⟨hHT3, hFT3, rfl, (by first | (have t := K130; exact ⟨_, _, O130.o, by first | exact Or.inr ⟨by omega, Y139⟩ | exact Or.inl ⟨by omega, rfl⟩⟩) | (exfalso; omega))⟩
    | 1, hii =>
      cases hii
      have w47 : (Xi S 904 70) = 1 := by simpa using w24
      exfalso; omega
    | 2, hii =>
      cases hii
      have w48 : (Xi S 904 70) = 2 := by simpa using w24
      exfalso; omega
    | 3, hii =>
      cases hii
      have w49 : (Xi S 904 70) = 3 := by simpa using w24
      refine y_return rfl rfl ?_
      exact ⟨hH, hF, rfl, (by first | (have t := K130; exact ⟨_, _, O130.o, by first | exact Or.inr ⟨by omega, Y139⟩ | exact Or.inl ⟨by omega, rfl⟩⟩) | (exfalso; omega))⟩
    | 4, hii =>
      cases hii
      have w50 : (Xi S 904 70) = 4 := by simpa using w24
      refine y_return rfl rfl ?_
      exact ⟨hH, hF, rfl, (by first | (have t := K130; exact ⟨_, _, O130.o, by first | exact Or.inr ⟨by omega, Y139⟩ | exact Or.inl ⟨by omega, rfl⟩⟩) | (exfalso; omega))⟩
    | 5, hii =>
      cases hii
      have w51 : (Xi S 904 70) = 5 := by simpa using w24
      refine y_return rfl rfl ?_
      exact ⟨hH, hF, rfl, (by first | (have t := K130; exact ⟨_, _, O130.o, by first | exact Or.inr ⟨by omega, Y139⟩ | exact Or.inl ⟨by omega, rfl⟩⟩) | (exfalso; omega))⟩
    | 6, hii =>
      cases hii
      have w52 : (Xi S 904 70) = 6 := by simpa using w24
      refine y_return rfl rfl ?_
      exact ⟨hH, hF, rfl, (by first | (have t := K130; exact ⟨_, _, O130.o, by first | exact Or.inr ⟨by omega, Y139⟩ | exact Or.inl ⟨by omega, rfl⟩⟩) | (exfalso; omega))⟩
    | 7, hii =>
      cases hii
      have w53 : (Xi S 904 70) = 7 := by simpa using w24
      exfalso; omega
    | 8, hii =>
      cases hii
      have w54 : (Xi S 904 70) = 8 := by simpa using w24
      exfalso; omega
    | 9, hii =>
      cases hii
      have w55 : (Xi S 904 70) = 9 := by simpa using w24
      exfalso; omega
    | 10, hii =>
      cases hii
      have w56 : (Xi S 904 70) = 10 := by simpa using w24
      exfalso; omega
    | 11, hii =>
      cases hii
      have w57 : (Xi S 904 70) = 11 := by simpa using w24
      exfalso; omega
    | 12, hii =>
      cases hii
      have w58 : (Xi S 904 70) = 12 := by simpa using w24
      exfalso; omega
    | 13, hii =>
      cases hii
      have w59 : (Xi S 904 70) = 13 := by simpa using w24
      exfalso; omega
    | 14, hii =>
      cases hii
      have w60 : (Xi S 904 70) = 14 := by simpa using w24
      exfalso; omega
    | 15, hii =>
      cases hii
      have w61 : (Xi S 904 70) = 15 := by simpa using w24
      exfalso; omega
    | 16, hii =>
      cases hii
      have w62 : (Xi S 904 70) = 16 := by simpa using w24
      exfalso; omega
    | 17, hii =>
      cases hii
      have w63 : (Xi S 904 70) = 17 := by simpa using w24
      exfalso; omega
    | 18, hii =>
      cases hii
      have w64 : (Xi S 904 70) = 18 := by simpa using w24
      exfalso; omega
    | 19, hii =>
      cases hii
      have w65 : (Xi S 904 70) = 19 := by simpa using w24
      exfalso; omega
    | 20, hii =>
      cases hii
      have w66 : (Xi S 904 70) = 20 := by simpa using w24
      exfalso; omega
    | n + 21, hii => exact absurd hii (by simp)
end
section
/-! 15: the reference does: usually; a description -/
def RUK (S S1 : sS) (z k a : Int) : Prop := (a < 100 → TISR S S1 z 926 (24 * k) a 1) ∧ (100 ≤ a → TPR1 S S1 z 933 k (a % 100) (a / 100 - 1) 0)
def RUS (S S1 : sS) : Prop := ∃ (A : sS) (z : Int), RUK S A z (rnR S (Xi S 904 71) 0) (Xi S 967 0) ∧ ((z = 1 ∧ S1 = A) ∨ (z = 0 ∧ NTB (NT3 S1) 5 (pR S (Xi S 904 71))))
theorem dd_w {S V : sS} (e : V = uI S 904 73 (Int32.ofInt 0)) : (VB3 S → VB3 V) ∧ (KB3 S → KB3 V) ∧ (OB4 S → OB4 V) ∧ (∀ (f : Int) (n : Nat), LOQ S f n → LOQ V f n) := by
  have m : SMR S V := SMR_w SMR.rf e (by omega) (by omega)
  have c : Xi V 904 19 = Xi S 904 19 := by rw [e, Xi_ne (by omega)]
  refine ⟨fun _ => trivial, fun h j => ?_, fun h k hk => ?_, fun f n h => (LOQ_sm m c).2 h⟩
  · rw [e, Xi_ne (by omega)]; exact h j
  · rw [m.1] at hk; rw [m.2.1 914 k (by omega), m.2.1 915 k (by omega), c]; exact h k hk

def md_mo_doFifteen__1 : List rec := [(904, 905, 15, 16), (904, 905, 19, 20), (904, 905, 30, 31), (904, 905, 60, 61), (904, 905, 64, 65), (904, 905, 73, 74), (904, 905, 105, 106), (904, 905, 106, 107), (904, 905, 113, 114), (912, 913, 0, 100000), (913, 914, 0, 100000), (914, 915, 0, 100000), (915, 916, 0, 100000), (916, 917, 0, 100000), (918, 919, 0, 100000), (919, 920, 0, 100000), (920, 921, 0, 100000), (925, 926, 0, 100000), (926, 927, 0, 100000), (927, 928, 0, 100000), (930, 931, 0, 100000), (931, 932, 0, 100000), (932, 933, 0, 100000), (933, 934, 0, 100000), (934, 935, 0, 100000), (935, 936, 0, 100000)]
abbrev Q_mo_doFifteen__1 (S : sS) : pst := fun r S1 => RI S1 ∧ FR md_mo_doFifteen__1 S S1 ∧ (r = none ∧ (RUS S S1))
set_option maxRecDepth 100000 in
theorem t_mo_doFifteen__1 {S : sS} (hH : RI S) (hLS : LSP S) (h15 : 0 ≤ Xi S 904 15) (hRB : RBD S) (hLX : LXR S) (hct : Hid (∀ j : Nat, -1 ≤ Xi S 922 j ∧ Xi S 922 j ≤ 23)) (hh : Xi S 904 142 = 1) (hz0 : Xi S 904 106 = 0) (hk : rnR S (Xi S 904 71) 0 ≠ -1 ∧ rnR S (Xi S 904 71) 0 ≤ 15) (hra : 0 ≤ Xi S 967 0 ∧ Xi S 967 0 ≤ 7000) (d : Nat) : Mp lay0 (d + 7) m_mo_doFifteen [.ref 904] S (Q_mo_doFifteen__1 S) := by
  refine Mp_R rfl rfl (fun fu => ?_)
  have hF : FR md_mo_doFifteen__1 S S := FR.rf
  have w1 : -2147483648 ≤ Xi S 904 106 ∧ Xi S 904 106 ≤ 2147483647 := Xi_rgI
  have w2 : -2147483648 ≤ Xi S 904 142 ∧ Xi S 904 142 ≤ 2147483647 := Xi_rgI
  have w3 : -2147483648 ≤ Xi S 904 15 ∧ Xi S 904 15 ≤ 2147483647 := Xi_rgI
  have w4 : -2147483648 ≤ Xi S 904 71 ∧ Xi S 904 71 ≤ 2147483647 := Xi_rgI
  have w5 : -2147483648 ≤ Xi S 967 0 ∧ Xi S 967 0 ≤ 2147483647 := Xi_rgI
  have C120 : ∀ (n120 : Nat) (_ : n120 ≤ fu) (T1 : sS) (_ : RI T1) (_ : FR md_mo_doFifteen__1 S T1) (v2 : Int) (v3 : Int), (-2147483648 ≤ v2 ∧ v2 ≤ 2147483647) → (-2147483648 ≤ v3 ∧ v3 ≤ 2147483647) → ((1 : Int) = 0) → Pl n120 lay0 (d + 6) m_mo_doFifteen 120 [(0, .ref 904), (2, iv v2), (3, iv v3)] [] T1 (Q_mo_doFifteen__1 S) := by
    intro n120
    induction n120 with
    | zero => intros; exact Pl_0
    | succ n120 ih120 =>
      intro hm120 T1 hHT1 hFT1 v2 v3 w6 w7 w8
      have w9 : Xi T1 904 110 = Xi S 904 110 := hFT1.x _ _ rfl
      have w10 : Xi T1 904 112 = Xi S 904 112 := hFT1.x _ _ rfl
      have w11 : Xi T1 904 142 = Xi S 904 142 := hFT1.x _ _ rfl
      have w12 : Xi T1 904 16 = Xi S 904 16 := hFT1.x _ _ rfl
      have w13 : Xi T1 904 23 = Xi S 904 23 := hFT1.x _ _ rfl
      have w14 : Xi T1 904 32 = Xi S 904 32 := hFT1.x _ _ rfl
      have w15 : Xi T1 904 69 = Xi S 904 69 := hFT1.x _ _ rfl
      have w16 : Xi T1 904 70 = Xi S 904 70 := hFT1.x _ _ rfl
      have w17 : Xi T1 904 71 = Xi S 904 71 := hFT1.x _ _ rfl
      have w18 : Xi T1 904 72 = Xi S 904 72 := hFT1.x _ _ rfl
      have w19 : Xi T1 904 74 = Xi S 904 74 := hFT1.x _ _ rfl
      have w20 : Xi T1 967 0 = Xi S 967 0 := hFT1.x _ _ rfl
      have w21 : -2147483648 ≤ Xi T1 904 106 ∧ Xi T1 904 106 ≤ 2147483647 := Xi_rgI
      have w22 : -2147483648 ≤ Xi T1 904 142 ∧ Xi T1 904 142 ≤ 2147483647 := Xi_rgI
      have w23 : -2147483648 ≤ Xi T1 904 15 ∧ Xi T1 904 15 ≤ 2147483647 := Xi_rgI
      have w24 : -2147483648 ≤ Xi T1 904 71 ∧ Xi T1 904 71 ≤ 2147483647 := Xi_rgI
      exfalso; omega
  have C190 : ∀ (n190 : Nat) (_ : n190 ≤ fu) (T2 : sS) (_ : RI T2) (_ : FR md_mo_doFifteen__1 S T2) (v1 : Int) (v2 : Int), (-2147483648 ≤ v1 ∧ v1 ≤ 2147483647) → (-2147483648 ≤ v2 ∧ v2 ≤ 2147483647) → ((1 : Int) = 0) → Pl n190 lay0 (d + 6) m_mo_doFifteen 190 [(0, .ref 904), (1, iv v1), (2, iv v2)] [] T2 (Q_mo_doFifteen__1 S) := by
    intro n190
    induction n190 with
    | zero => intros; exact Pl_0
    | succ n190 ih190 =>
      intro hm190 T2 hHT2 hFT2 v1 v2 w25 w26 w27
      have w28 : Xi T2 904 110 = Xi S 904 110 := hFT2.x _ _ rfl
      have w29 : Xi T2 904 112 = Xi S 904 112 := hFT2.x _ _ rfl
      have w30 : Xi T2 904 142 = Xi S 904 142 := hFT2.x _ _ rfl
      have w31 : Xi T2 904 16 = Xi S 904 16 := hFT2.x _ _ rfl
      have w32 : Xi T2 904 23 = Xi S 904 23 := hFT2.x _ _ rfl
      have w33 : Xi T2 904 32 = Xi S 904 32 := hFT2.x _ _ rfl
      have w34 : Xi T2 904 69 = Xi S 904 69 := hFT2.x _ _ rfl
      have w35 : Xi T2 904 70 = Xi S 904 70 := hFT2.x _ _ rfl
      have w36 : Xi T2 904 71 = Xi S 904 71 := hFT2.x _ _ rfl
      have w37 : Xi T2 904 72 = Xi S 904 72 := hFT2.x _ _ rfl
      have w38 : Xi T2 904 74 = Xi S 904 74 := hFT2.x _ _ rfl
      have w39 : Xi T2 967 0 = Xi S 967 0 := hFT2.x _ _ rfl
      have w40 : -2147483648 ≤ Xi T2 904 106 ∧ Xi T2 904 106 ≤ 2147483647 := Xi_rgI
      have w41 : -2147483648 ≤ Xi T2 904 142 ∧ Xi T2 904 142 ≤ 2147483647 := Xi_rgI
      have w42 : -2147483648 ≤ Xi T2 904 15 ∧ Xi T2 904 15 ≤ 2147483647 := Xi_rgI
      have w43 : -2147483648 ≤ Xi T2 904 71 ∧ Xi T2 904 71 ≤ 2147483647 := Xi_rgI
      exfalso; omega
  refine y_aload_n rfl rfl ?_
  refine y_gfr rfl rfl rfl rfl rfl (hH.r 904 67 950 rfl) ?_
  refine y_aload_n rfl rfl ?_
  refine y_gfi rfl rfl rfl rfl rfl ?_
  have w44 : -2147483648 ≤ (Xi S 904 78) ∧ (Xi S 904 78) ≤ 2147483647 := Xi_rgI
  refine y_ialoadP (n := 2600) rfl rfl (by unfold rg; omega) (fun w45 w46 => ?_)
  have w47 : -2147483648 ≤ (Xi S 950 (((Xi S 904 78)).toNat)) ∧ (Xi S 950 (((Xi S 904 78)).toNat)) ≤ 2147483647 := Xi_rgI
  refine y_istore_n rfl rfl rfl ?_
  refine y_aload_n rfl rfl ?_
  refine y_gfi rfl rfl rfl rfl rfl ?_
  refine y_iconst rfl ?_
  refine y_icmp_ne rfl rfl (by unfold rg; omega) (by unfold rg; omega) (fun w48 => ?_) (fun w49 => ?_)
  · exfalso; omega
  · refine y_aload_n rfl rfl ?_
    refine y_aload_n rfl rfl ?_
    refine y_gfi rfl rfl rfl rfl rfl ?_
    refine y_iconst rfl ?_
    refine y_callV rfl rfl rfl (t_mo_meansRun__p hH (Xi S 904 71) 0 ⟨by omega, by omega⟩ ⟨by omega, by omega⟩ (by first | assumption | exact (by assumption : LSP S)) (by first | assumption | omega) (by first | assumption | exact (RBD_FR hF rfl (by assumption : RBD S))) _) ?_
    rintro _ _ ⟨rfl, z50, rfl, w50, f24⟩
    show Pl _ _ _ _ _ _ [iv z50] _ _
    have b24 := rnR_ix (r := Xi S 904 71) (s := 0) hLX h15
    refine y_istore_n rfl rfl rfl ?_
    refine y_aload_n rfl rfl ?_
    refine y_gfr rfl rfl rfl rfl rfl (hH.r 904 111 967 rfl) ?_
    refine y_iconst rfl ?_
    refine y_ialoadP (n := 6) rfl rfl (by unfold rg; omega) (fun w51 w52 => ?_)
    have w53 : -2147483648 ≤ (Xi S 967 ((0 : Int).toNat)) ∧ (Xi S 967 ((0 : Int).toNat)) ≤ 2147483647 := Xi_rgI
    have w54 : (Xi S 967 ((0 : Int).toNat)) = Xi S 967 0 := rfl
    have a33 : (Xi S 967 ((0 : Int).toNat)) = Xi S 967 0 := rfl
    refine y_istore_n rfl rfl rfl ?_
    refine y_iload_n rfl rfl ?_
    refine y_bipush rfl rfl ?_
    refine y_icmp_ge rfl rfl (by unfold rg; omega) (by unfold rg; omega) (fun w55 => ?_) (fun w56 => ?_)
    · refine y_aload_n rfl rfl ?_
      refine y_iload_n rfl rfl ?_
      refine y_iload_n rfl rfl ?_
      refine y_bipush rfl rfl ?_
      refine y_iremP rfl (by omega) (by omega) (by unfold rg; omega) (by unfold rg; omega) ?_
      refine y_iload_n rfl rfl ?_
      refine y_bipush rfl rfl ?_
      refine y_idivP rfl (by omega) (by omega) (by unfold rg; omega) (by unfold rg; omega) ?_
      refine y_iconst rfl ?_
      refine y_isub rfl ?_
      refine y_iconst rfl ?_
      refine y_callV rfl rfl rfl (t_mo_tellKind__p hH z50 ((Xi S 967 ((0 : Int).toNat)) % 100) (((Xi S 967 ((0 : Int).toNat)) / 100) - 1) 0 ⟨by omega, by omega⟩ ⟨by omega, by omega⟩ ⟨by omega, by omega⟩ ⟨by omega, by omega⟩ _) ?_
      rintro _ T3 ⟨hHT3, w60, z59, rfl, w59, o71⟩
      have hFT3 : FR md_mo_doFifteen__1 S T3 := FR.tr hF w60 rfl
      show Pl _ _ _ _ _ _ [iv z59] _ _
      have E71 : RUK S T3 z59 (rnR S (Xi S 904 71) 0) (Xi S 967 0) := ⟨fun q => absurd q (by omega), fun _ => by have t := o71; rw [f24, a33] at t; exact t⟩
      have z71 : Xi T3 904 106 = 0 := ((by assumption : FR md_mo_tellKind__p S T3).x 904 106 rfl).trans hz0
      refine y_istore rfl rfl rfl ?_
      refine y_iload rfl rfl ?_
      refine y_if_ne rfl rfl (by unfold rg; omega) (fun w61 => ?_) (fun w62 => ?_)
      · refine y_goto rfl rfl ?_
        refine y_return rfl rfl ?_
        exact ⟨hHT3, hFT3, rfl, (by first | (have t := K92; exact ⟨_, _, by first | exact E52 | exact E71, Or.inr ⟨by omega, Y92⟩⟩) | exact ⟨_, _, by first | exact E52 | exact E71, Or.inl ⟨by omega, rfl⟩⟩)⟩
      · refine y_aload_n rfl rfl ?_
        refine y_iconst rfl ?_
        refine y_aload_n rfl rfl ?_
        refine y_gfr rfl rfl rfl rfl rfl (hHT3.r 904 67 950 rfl) ?_
        refine y_aload_n rfl rfl ?_
        refine y_gfi rfl rfl rfl rfl rfl ?_
        have w67 : (Xi T3 904 71) = (Xi S 904 71) := (show Xi T3 904 71 = Xi S 904 71 from w60.x _ _ rfl)
        rw [w67]
        refine y_ialoadP (n := 2600) rfl rfl (by unfold rg; omega) (fun w68 w69 => ?_)
        have w70 : -2147483648 ≤ (Xi T3 950 (((Xi S 904 71)).toNat)) ∧ (Xi T3 950 (((Xi S 904 71)).toNat)) ≤ 2147483647 := Xi_rgI
        have w71 : Xi T3 904 106 = Xi S 904 106 := (show Xi T3 904 106 = Xi S 904 106 from w60.x _ _ rfl)
        have w74 : Xi T3 904 71 = Xi S 904 71 := (show Xi T3 904 71 = Xi S 904 71 from w60.x _ _ rfl)
        refine y_callV rfl rfl rfl (t_mo_wrong__p hHT3 5 (Xi T3 950 (((Xi S 904 71)).toNat)) ⟨by omega, by omega⟩ ⟨by omega, by omega⟩ _) ?_
        rintro _ T4 ⟨hHT4, w77, rfl, w92, w75⟩
        have hFT4 : FR md_mo_doFifteen__1 S T4 := FR.tr hFT3 w77 rfl
        show Pl _ _ _ _ _ _ [] _ _
        have K92 : True := trivial
        have Y92 : NTB (NT3 T4) 5 (pR S (Xi S 904 71)) := by have t := w92 (by first | exact z52 | exact z71); rw [(hFT3.cx 908 rfl _).1, (hFT3.cx 950 rfl _).1] at t; exact t
        refine y_goto rfl rfl ?_
        refine y_return rfl rfl ?_
        exact ⟨hHT4, hFT4, rfl, (by first | (have t := K92; exact ⟨_, _, by first | exact E52 | exact E71, Or.inr ⟨by omega, Y92⟩⟩) | exact ⟨_, _, by first | exact E52 | exact E71, Or.inl ⟨by omega, rfl⟩⟩)⟩
    · refine y_aload_n rfl rfl ?_
      refine y_aload_n rfl rfl ?_
      refine y_gfr rfl rfl rfl rfl rfl (hH.r 904 29 926 rfl) ?_
      refine y_bipush rfl rfl ?_
      refine y_iload_n rfl rfl ?_
      refine y_imul rfl ?_
      refine y_iload_n rfl rfl ?_
      refine y_iconst rfl ?_
      refine y_callV rfl rfl rfl (t_mo_tellIs__q hH (24 * z50) (Xi S 967 ((0 : Int).toNat)) 1 ⟨by omega, by omega⟩ ⟨by omega, by omega⟩ ⟨by omega, by omega⟩ (by have t := hct.o (Xi S 967 0).toNat; rw [show ((0 : Int).toNat) = 0 from rfl]; omega) _) ?_
      rintro _ T5 ⟨hHT5, w82, z81, rfl, w81, e52_⟩
      have hFT5 : FR md_mo_doFifteen__1 S T5 := FR.tr hF w82 rfl
      show Pl _ _ _ _ _ _ [iv z81] _ _
      have E52 : RUK S T5 z81 (rnR S (Xi S 904 71) 0) (Xi S 967 0) := ⟨fun _ => by have t := e52_; rw [f24, a33] at t; exact t, fun q => absurd q (by omega)⟩
      have z52 : Xi T5 904 106 = 0 := ((by assumption : FR md_mo_tellIs__q S T5).x 904 106 rfl).trans hz0
      refine y_goto rfl rfl ?_
      refine y_istore rfl rfl rfl ?_
      refine y_iload rfl rfl ?_
      refine y_if_ne rfl rfl (by unfold rg; omega) (fun w83 => ?_) (fun w84 => ?_)
      · refine y_goto rfl rfl ?_
        refine y_return rfl rfl ?_
        exact ⟨hHT5, hFT5, rfl, (by first | (have t := K92; exact ⟨_, _, by first | exact E52 | exact E71, Or.inr ⟨by omega, Y92⟩⟩) | exact ⟨_, _, by first | exact E52 | exact E71, Or.inl ⟨by omega, rfl⟩⟩)⟩
      · refine y_aload_n rfl rfl ?_
        refine y_iconst rfl ?_
        refine y_aload_n rfl rfl ?_
        refine y_gfr rfl rfl rfl rfl rfl (hHT5.r 904 67 950 rfl) ?_
        refine y_aload_n rfl rfl ?_
        refine y_gfi rfl rfl rfl rfl rfl ?_
        have w89 : (Xi T5 904 71) = (Xi S 904 71) := (show Xi T5 904 71 = Xi S 904 71 from w82.x _ _ rfl)
        rw [w89]
        refine y_ialoadP (n := 2600) rfl rfl (by unfold rg; omega) (fun w90 w91 => ?_)
        have w92 : -2147483648 ≤ (Xi T5 950 (((Xi S 904 71)).toNat)) ∧ (Xi T5 950 (((Xi S 904 71)).toNat)) ≤ 2147483647 := Xi_rgI
        have w93 : Xi T5 904 106 = Xi S 904 106 := (show Xi T5 904 106 = Xi S 904 106 from w82.x _ _ rfl)
        have w96 : Xi T5 904 71 = Xi S 904 71 := (show Xi T5 904 71 = Xi S 904 71 from w82.x _ _ rfl)
        refine y_callV rfl rfl rfl (t_mo_wrong__p hHT5 5 (Xi T5 950 (((Xi S 904 71)).toNat)) ⟨by omega, by omega⟩ ⟨by omega, by omega⟩ _) ?_
        rintro _ T6 ⟨hHT6, w99, rfl, w92, w97⟩
        have hFT6 : FR md_mo_doFifteen__1 S T6 := FR.tr hFT5 w99 rfl
        show Pl _ _ _ _ _ _ [] _ _
        have K92 : True := trivial
        have Y92 : NTB (NT3 T6) 5 (pR S (Xi S 904 71)) := by have t := w92 (by first | exact z52 | exact z71); rw [(hFT5.cx 908 rfl _).1, (hFT5.cx 950 rfl _).1] at t; exact t
        refine y_goto rfl rfl ?_
        refine y_return rfl rfl ?_
        exact ⟨hHT6, hFT6, rfl, (by first | (have t := K92; exact ⟨_, _, by first | exact E52 | exact E71, Or.inr ⟨by omega, Y92⟩⟩) | exact ⟨_, _, by first | exact E52 | exact E71, Or.inl ⟨by omega, rfl⟩⟩)⟩
def md_mo_doFifteen__3 : List rec := [(904, 905, 15, 16), (904, 905, 19, 20), (904, 905, 30, 31), (904, 905, 60, 61), (904, 905, 64, 65), (904, 905, 73, 74), (904, 905, 105, 106), (904, 905, 106, 107), (904, 905, 113, 114), (912, 913, 0, 100000), (913, 914, 0, 100000), (914, 915, 0, 100000), (915, 916, 0, 100000), (916, 917, 0, 100000), (918, 919, 0, 100000), (919, 920, 0, 100000), (920, 921, 0, 100000), (925, 926, 0, 100000), (926, 927, 0, 100000), (927, 928, 0, 100000), (930, 931, 0, 100000), (931, 932, 0, 100000), (932, 933, 0, 100000), (933, 934, 0, 100000), (934, 935, 0, 100000), (935, 936, 0, 100000)]
abbrev Q_mo_doFifteen__3 (S : sS) : pst := fun r S1 => RI S1 ∧ FR md_mo_doFifteen__3 S S1 ∧ (r = none ∧ (RDB (uI S 904 73 (Int32.ofInt 0)) S1))
set_option maxRecDepth 100000 in
theorem t_mo_doFifteen__3 {S : sS} (hH : RI S) (hLS : LSP S) (h15 : 0 ≤ Xi S 904 15) (hRB : RBD S) (hLX : LXR S) (hB : ABV S) (hl : 0 ≤ Xi S 904 71 ∧ Xi S 904 71 ≤ 2600 ∧ 0 ≤ Xi S 904 72 ∧ Xi S 904 72 ≤ 2600) (hkb : Hid (KB3 S)) (ho4 : Hid (OB4 S)) (hct : Hid (∀ j : Nat, -1 ≤ Xi S 922 j ∧ Xi S 922 j ≤ 23)) (hz0 : Xi S 904 106 = 0) (ha : 0 ≤ Xi S 904 19 ∧ Xi S 904 19 ≤ 24) (hr74 : -1 ≤ Xi S 904 74 ∧ Xi S 904 74 ≤ 2600) (hlq : Hid (LOQ S (Xi S 904 71) (Xi S 904 72).toNat)) (h110 : -1 ≤ Xi S 904 110 ∧ Xi S 904 110 ≤ 15) (h112 : 0 ≤ Xi S 904 112 ∧ Xi S 904 112 ≤ 6) (hra : Hid (Xi S 904 70 ≠ 13 → ∀ i : Nat, (i : Int) < Xi S 904 112 → 0 ≤ Xi S 967 i ∧ Xi S 967 i ≤ 7000)) (hh : Xi S 904 142 = 3) (d : Nat) : Mp lay0 (d + 7) m_mo_doFifteen [.ref 904] S (Q_mo_doFifteen__3 S) := by
  refine Mp_R rfl rfl (fun fu => ?_)
  have hF : FR md_mo_doFifteen__3 S S := FR.rf
  have w1 : -2147483648 ≤ Xi S 904 106 ∧ Xi S 904 106 ≤ 2147483647 := Xi_rgI
  have w2 : -2147483648 ≤ Xi S 904 110 ∧ Xi S 904 110 ≤ 2147483647 := Xi_rgI
  have w3 : -2147483648 ≤ Xi S 904 112 ∧ Xi S 904 112 ≤ 2147483647 := Xi_rgI
  have w4 : -2147483648 ≤ Xi S 904 142 ∧ Xi S 904 142 ≤ 2147483647 := Xi_rgI
  have w5 : -2147483648 ≤ Xi S 904 15 ∧ Xi S 904 15 ≤ 2147483647 := Xi_rgI
  have w6 : -2147483648 ≤ Xi S 904 19 ∧ Xi S 904 19 ≤ 2147483647 := Xi_rgI
  have w7 : -2147483648 ≤ Xi S 904 70 ∧ Xi S 904 70 ≤ 2147483647 := Xi_rgI
  have w8 : -2147483648 ≤ Xi S 904 71 ∧ Xi S 904 71 ≤ 2147483647 := Xi_rgI
  have w9 : -2147483648 ≤ Xi S 904 72 ∧ Xi S 904 72 ≤ 2147483647 := Xi_rgI
  have w10 : -2147483648 ≤ Xi S 904 73 ∧ Xi S 904 73 ≤ 2147483647 := Xi_rgI
  have w11 : -2147483648 ≤ Xi S 904 74 ∧ Xi S 904 74 ≤ 2147483647 := Xi_rgI
  have C120 : ∀ (n120 : Nat) (_ : n120 ≤ fu) (T1 : sS) (_ : RI T1) (_ : FR md_mo_doFifteen__3 S T1) (v2 : Int) (v3 : Int), (-2147483648 ≤ v2 ∧ v2 ≤ 2147483647) → (-2147483648 ≤ v3 ∧ v3 ≤ 2147483647) → ((1 : Int) = 0) → Pl n120 lay0 (d + 6) m_mo_doFifteen 120 [(0, .ref 904), (2, iv v2), (3, iv v3)] [] T1 (Q_mo_doFifteen__3 S) := by
    intro n120
    induction n120 with
    | zero => intros; exact Pl_0
    | succ n120 ih120 =>
      intro hm120 T1 hHT1 hFT1 v2 v3 w12 w13 w14
      have w15 : Xi T1 904 110 = Xi S 904 110 := hFT1.x _ _ rfl
      have w16 : Xi T1 904 112 = Xi S 904 112 := hFT1.x _ _ rfl
      have w17 : Xi T1 904 142 = Xi S 904 142 := hFT1.x _ _ rfl
      have w18 : Xi T1 904 16 = Xi S 904 16 := hFT1.x _ _ rfl
      have w19 : Xi T1 904 23 = Xi S 904 23 := hFT1.x _ _ rfl
      have w20 : Xi T1 904 32 = Xi S 904 32 := hFT1.x _ _ rfl
      have w21 : Xi T1 904 69 = Xi S 904 69 := hFT1.x _ _ rfl
      have w22 : Xi T1 904 70 = Xi S 904 70 := hFT1.x _ _ rfl
      have w23 : Xi T1 904 71 = Xi S 904 71 := hFT1.x _ _ rfl
      have w24 : Xi T1 904 72 = Xi S 904 72 := hFT1.x _ _ rfl
      have w25 : Xi T1 904 74 = Xi S 904 74 := hFT1.x _ _ rfl
      have w26 : -2147483648 ≤ Xi T1 904 106 ∧ Xi T1 904 106 ≤ 2147483647 := Xi_rgI
      have w27 : -2147483648 ≤ Xi T1 904 110 ∧ Xi T1 904 110 ≤ 2147483647 := Xi_rgI
      have w28 : -2147483648 ≤ Xi T1 904 112 ∧ Xi T1 904 112 ≤ 2147483647 := Xi_rgI
      have w29 : -2147483648 ≤ Xi T1 904 142 ∧ Xi T1 904 142 ≤ 2147483647 := Xi_rgI
      have w30 : -2147483648 ≤ Xi T1 904 15 ∧ Xi T1 904 15 ≤ 2147483647 := Xi_rgI
      have w31 : -2147483648 ≤ Xi T1 904 19 ∧ Xi T1 904 19 ≤ 2147483647 := Xi_rgI
      have w32 : -2147483648 ≤ Xi T1 904 70 ∧ Xi T1 904 70 ≤ 2147483647 := Xi_rgI
      have w33 : -2147483648 ≤ Xi T1 904 71 ∧ Xi T1 904 71 ≤ 2147483647 := Xi_rgI
      have w34 : -2147483648 ≤ Xi T1 904 72 ∧ Xi T1 904 72 ≤ 2147483647 := Xi_rgI
      have w35 : -2147483648 ≤ Xi T1 904 73 ∧ Xi T1 904 73 ≤ 2147483647 := Xi_rgI
      have w36 : -2147483648 ≤ Xi T1 904 74 ∧ Xi T1 904 74 ≤ 2147483647 := Xi_rgI
      exfalso; omega
  have C190 : ∀ (n190 : Nat) (_ : n190 ≤ fu) (T2 : sS) (_ : RI T2) (_ : FR md_mo_doFifteen__3 S T2) (v1 : Int) (v2 : Int), (-2147483648 ≤ v1 ∧ v1 ≤ 2147483647) → (-2147483648 ≤ v2 ∧ v2 ≤ 2147483647) → ((1 : Int) = 0) → Pl n190 lay0 (d + 6) m_mo_doFifteen 190 [(0, .ref 904), (1, iv v1), (2, iv v2)] [] T2 (Q_mo_doFifteen__3 S) := by
    intro n190
    induction n190 with
    | zero => intros; exact Pl_0
    | succ n190 ih190 =>
      intro hm190 T2 hHT2 hFT2 v1 v2 w37 w38 w39
      have w40 : Xi T2 904 110 = Xi S 904 110 := hFT2.x _ _ rfl
      have w41 : Xi T2 904 112 = Xi S 904 112 := hFT2.x _ _ rfl
      have w42 : Xi T2 904 142 = Xi S 904 142 := hFT2.x _ _ rfl
      have w43 : Xi T2 904 16 = Xi S 904 16 := hFT2.x _ _ rfl
      have w44 : Xi T2 904 23 = Xi S 904 23 := hFT2.x _ _ rfl
      have w45 : Xi T2 904 32 = Xi S 904 32 := hFT2.x _ _ rfl
      have w46 : Xi T2 904 69 = Xi S 904 69 := hFT2.x _ _ rfl
      have w47 : Xi T2 904 70 = Xi S 904 70 := hFT2.x _ _ rfl
      have w48 : Xi T2 904 71 = Xi S 904 71 := hFT2.x _ _ rfl
      have w49 : Xi T2 904 72 = Xi S 904 72 := hFT2.x _ _ rfl
      have w50 : Xi T2 904 74 = Xi S 904 74 := hFT2.x _ _ rfl
      have w51 : -2147483648 ≤ Xi T2 904 106 ∧ Xi T2 904 106 ≤ 2147483647 := Xi_rgI
      have w52 : -2147483648 ≤ Xi T2 904 110 ∧ Xi T2 904 110 ≤ 2147483647 := Xi_rgI
      have w53 : -2147483648 ≤ Xi T2 904 112 ∧ Xi T2 904 112 ≤ 2147483647 := Xi_rgI
      have w54 : -2147483648 ≤ Xi T2 904 142 ∧ Xi T2 904 142 ≤ 2147483647 := Xi_rgI
      have w55 : -2147483648 ≤ Xi T2 904 15 ∧ Xi T2 904 15 ≤ 2147483647 := Xi_rgI
      have w56 : -2147483648 ≤ Xi T2 904 19 ∧ Xi T2 904 19 ≤ 2147483647 := Xi_rgI
      have w57 : -2147483648 ≤ Xi T2 904 70 ∧ Xi T2 904 70 ≤ 2147483647 := Xi_rgI
      have w58 : -2147483648 ≤ Xi T2 904 71 ∧ Xi T2 904 71 ≤ 2147483647 := Xi_rgI
      have w59 : -2147483648 ≤ Xi T2 904 72 ∧ Xi T2 904 72 ≤ 2147483647 := Xi_rgI
      have w60 : -2147483648 ≤ Xi T2 904 73 ∧ Xi T2 904 73 ≤ 2147483647 := Xi_rgI
      have w61 : -2147483648 ≤ Xi T2 904 74 ∧ Xi T2 904 74 ≤ 2147483647 := Xi_rgI
      exfalso; omega
  refine y_aload_n rfl rfl ?_
  refine y_gfr rfl rfl rfl rfl rfl (hH.r 904 67 950 rfl) ?_
  refine y_aload_n rfl rfl ?_
  refine y_gfi rfl rfl rfl rfl rfl ?_
  have w62 : -2147483648 ≤ (Xi S 904 78) ∧ (Xi S 904 78) ≤ 2147483647 := Xi_rgI
  refine y_ialoadP (n := 2600) rfl rfl (by unfold rg; omega) (fun w63 w64 => ?_)
  have w65 : -2147483648 ≤ (Xi S 950 (((Xi S 904 78)).toNat)) ∧ (Xi S 950 (((Xi S 904 78)).toNat)) ≤ 2147483647 := Xi_rgI
  refine y_istore_n rfl rfl rfl ?_
  refine y_aload_n rfl rfl ?_
  refine y_gfi rfl rfl rfl rfl rfl ?_
  refine y_iconst rfl ?_
  refine y_icmp_ne rfl rfl (by unfold rg; omega) (by unfold rg; omega) (fun w66 => ?_) (fun w67 => ?_)
  · refine y_aload_n rfl rfl ?_
    refine y_gfi rfl rfl rfl rfl rfl ?_
    refine y_iconst rfl ?_
    refine y_icmp_ne rfl rfl (by unfold rg; omega) (by unfold rg; omega) (fun w68 => ?_) (fun w69 => ?_)
    · refine y_aload_n rfl rfl ?_
      refine y_gfi rfl rfl rfl rfl rfl ?_
      refine y_iconst rfl ?_
      refine y_icmp_ne rfl rfl (by unfold rg; omega) (by unfold rg; omega) (fun w70 => ?_) (fun w71 => ?_)
      · exfalso; omega
      · refine y_aload_n rfl rfl ?_
        refine y_iconst rfl ?_
        refine y_pfi rfl rfl rfl rfl ?_
        obtain ⟨U3, eU3⟩ : ∃ T : sS, T = uI S 904 73 (Int32.ofInt 0) := ⟨_, rfl⟩
        rw [← eU3]
        have hHU3 : RI U3 := by rw [eU3]; exact RI_w hH
        have hFU3 : FR md_mo_doFifteen__3 S U3 := by rw [eU3]; exact FR.wI hF (mdf_i (r := (904, 905, 73, 74)) (List.mem_of_getElem? (i := 5) rfl) (inR_i (by omega) (by omega) (by omega) (by omega)))
        have w72 : Xi U3 904 73 = 0 := by rw [eU3]; exact Xi_same (by unfold rg; omega)
        have ee178 := eU3
        have k178 : Hid (SMR S U3) := SMR_w SMR.rf eU3 (by omega) (by omega)
        refine y_aload_n rfl rfl ?_
        have w73 : Xi U3 904 106 = Xi S 904 106 := (show Xi U3 904 106 = Xi S 904 106 from by rw [eU3]; exact Xi_ne (by omega))
        have w74 : Xi U3 904 110 = Xi S 904 110 := (show Xi U3 904 110 = Xi S 904 110 from by rw [eU3]; exact Xi_ne (by omega))
        have w75 : Xi U3 904 112 = Xi S 904 112 := (show Xi U3 904 112 = Xi S 904 112 from by rw [eU3]; exact Xi_ne (by omega))
        have w76 : Xi U3 904 142 = Xi S 904 142 := (show Xi U3 904 142 = Xi S 904 142 from by rw [eU3]; exact Xi_ne (by omega))
        have w77 : Xi U3 904 15 = Xi S 904 15 := (show Xi U3 904 15 = Xi S 904 15 from by rw [eU3]; exact Xi_ne (by omega))
        have w78 : Xi U3 904 19 = Xi S 904 19 := (show Xi U3 904 19 = Xi S 904 19 from by rw [eU3]; exact Xi_ne (by omega))
        have w79 : Xi U3 904 70 = Xi S 904 70 := (show Xi U3 904 70 = Xi S 904 70 from by rw [eU3]; exact Xi_ne (by omega))
        have w80 : Xi U3 904 71 = Xi S 904 71 := (show Xi U3 904 71 = Xi S 904 71 from by rw [eU3]; exact Xi_ne (by omega))
        have w81 : Xi U3 904 72 = Xi S 904 72 := (show Xi U3 904 72 = Xi S 904 72 from by rw [eU3]; exact Xi_ne (by omega))
        have w82 : Xi U3 904 74 = Xi S 904 74 := (show Xi U3 904 74 = Xi S 904 74 from by rw [eU3]; exact Xi_ne (by omega))
        refine y_callV rfl rfl rfl (t_mo_doDescribed__p hHU3 (by first | assumption | exact (LSP_FR (FR_e eU3) rfl rfl (by assumption : LSP S))) (by first | assumption | omega) (by first | assumption | exact (RBD_FR hFU3 rfl (by assumption : RBD S))) (by first | assumption | exact (LXR_FR (FR_e eU3) rfl rfl (by assumption : LXR S))) (by first | assumption | exact (ABV_FR hFU3 rfl (by assumption : ABV S))) (by first | assumption | omega) ((dd_w ee178).2.1 hkb.o) ((dd_w ee178).2.2.1 ho4.o) (fun j => by rw [ee178, Xi_ne (by omega)]; exact hct.o j) (by first | assumption | omega) (by first | assumption | omega) (by first | assumption | omega) (by rw [show Xi U3 904 71 = Xi S 904 71 by omega, show Xi U3 904 72 = Xi S 904 72 by omega]; exact (dd_w ee178).2.2.2 _ _ hlq.o) (by first | assumption | omega) (by first | assumption | omega) (fun s i hi => by rw [ee178, Xi_ne (by omega)]; exact hra.o (fun w => s (by rw [ee178, Xi_ne (by omega)]; exact w)) i (by omega)) _) ?_
        rintro _ T4 ⟨hHT4, w84, rfl, o182⟩
        have hFT4 : FR md_mo_doFifteen__3 S T4 := FR.tr hFU3 w84 rfl
        show Pl _ _ _ _ _ _ [] _ _
        have R182 : RDB (uI S 904 73 (Int32.ofInt 0)) T4 := by rw [← ee178]; exact o182
        refine y_goto rfl rfl ?_
        refine y_return rfl rfl ?_
        exact ⟨hHT4, hFT4, rfl, (R182)⟩
    · exfalso; omega
  · exfalso; omega
end
