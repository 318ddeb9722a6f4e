section
/-! 15, 16: the class tells values -/
def tv5 (S : sS) (a e : Int) : Int := if 1 < tmC S a e then tmC S a e else -1
def cvC (S : sS) (tp : Int) : Nat → Int
  | 0 => 0
  | n + 1 => cvC S tp n + (if Xi S 8 n = tp then 1 else 0)
theorem cvC_b {S : sS} {tp : Int} : ∀ n : Nat, 0 ≤ cvC S tp n ∧ cvC S tp n ≤ n
  | 0 => ⟨Int.le_refl _, Int.le_refl _⟩
  | n + 1 => by
    have i := cvC_b (S := S) (tp := tp) n
    show 0 ≤ cvC S tp n + (if Xi S 8 n = tp then 1 else 0) ∧ cvC S tp n + (if Xi S 8 n = tp then 1 else 0) ≤ ((n + 1 : Nat) : Int)
    split <;> omega
theorem cvC_k {S U : sS} {tp : Int} (h : ∀ j : Nat, Xi U 8 j = Xi S 8 j) : ∀ n : Nat, cvC U tp n = cvC S tp n
  | 0 => rfl
  | n + 1 => by
    show cvC U tp n + (if Xi U 8 n = tp then 1 else 0) = cvC S tp n + (if Xi S 8 n = tp then 1 else 0)
    rw [cvC_k h n, h]
def tV5 (S : sS) : Int := tv5 S (bA (ty7 S) 0) (re7 (ty7 S) (bA (ty7 S) 0))
def n0V (S : sS) : Nat := cR (ty7 S) (Xi S 890 3 + 1).toNat
def nV5 (S : sS) : Nat := cR (ty7 S) (Xi S 876 7 - 1).toNat - n0V S
def cV5 (S : sS) : Int := cvC S (tV5 S) (Xi S 5 4).toNat
def TVL (S S1 : sS) (z : Int) : Prop :=
  (tV5 S = -1 → z = 0 ∧ FTO S S1 4 (bA (ty7 S) 0)) ∧
  (tV5 S ≠ -1 → sn2 S ≠ -1 → z = 0 ∧ FTO S S1 4 (sn2 S)) ∧
  (tV5 S ≠ -1 → sn2 S = -1 → TLSo (n0V S) S S1 z (cV5 S) 8 (nV5 S)) ∧
  (tV5 S ≠ -1 → sn2 S = -1 → LOKo (n0V S) S (cV5 S) 8 (nV5 S) → z = 1 ∧ Xi S1 876 8 = 0 ∧ TNLo (n0V S) S 4 (Xi S 5 4) (nV5 S) S1 ∧ Xi S1 5 4 = Xi S 5 4 + nV5 S ∧ (∀ j, j ≠ 4 → Xi S1 5 j = Xi S 5 j) ∧ ARN S S1 8 (Xi S 5 4) (tV5 S) (nV5 S))

abbrev Q_to_lastRow__p (S : sS) : pst := fun r S1 => S = S1 ∧ (∃ z : Int, r = some (iv z) ∧ (-2147483648 ≤ z ∧ z ≤ 2147483647) ∧ (z = Xi S 876 7 - 1))
set_option maxRecDepth 100000 in
theorem t_to_lastRow__p {S : sS} (hH : RI S) (h7 : 0 ≤ Xi S 876 7) (d : Nat) : Mp lay0 (d + 1) m_to_lastRow [.ref 876] S (Q_to_lastRow__p S) := by
  refine Mp_R rfl rfl (fun fu => ?_)
  have w1 : -2147483648 ≤ Xi S 876 7 ∧ Xi S 876 7 ≤ 2147483647 := Xi_rgI
  refine y_aload_n rfl rfl ?_
  refine y_gfi rfl rfl rfl rfl rfl ?_
  refine y_iconst rfl ?_
  refine y_isub rfl ?_
  refine y_ireturn rfl rfl ?_
  exact ⟨rfl, _, rfl, ⟨by omega, by omega⟩, (rfl)⟩
abbrev Q_re_typeMeant__p (S : sS) (from_ : Int) : pst := fun r S1 => S = S1 ∧ (∃ z : Int, r = some (iv z) ∧ (-2147483648 ≤ z ∧ z ≤ 2147483647) ∧ (z = tv5 S from_ (re7 (ty7 S) from_)))
set_option maxRecDepth 100000 in
theorem t_re_typeMeant__p {S : sS} (hH : RI S) (from_ : Int) (hfrom_ : 0 ≤ from_ ∧ from_ ≤ 5140) (h13 : 0 ≤ Xi S 1 3 ∧ Xi S 1 3 ≤ 200) (hCE : CEN S) (hr : Xi S 876 7 ≤ 5130) (d : Nat) : Mp lay0 (d + 3) m_re_typeMeant [.ref 891, iv from_] S (Q_re_typeMeant__p S from_) := by
  refine Mp_R rfl rfl (fun fu => ?_)
  have w1 : -2147483648 ≤ Xi S 1 3 ∧ Xi S 1 3 ≤ 2147483647 := Xi_rgI
  have w2 : -2147483648 ≤ Xi S 876 7 ∧ Xi S 876 7 ≤ 2147483647 := Xi_rgI
  refine y_aload_n rfl rfl ?_
  refine y_gfr rfl rfl rfl rfl rfl (hH.r 891 2 1 rfl) ?_
  refine y_aload_n rfl rfl ?_
  refine y_gfr rfl rfl rfl rfl rfl (hH.r 891 0 876 rfl) ?_
  refine y_gfr rfl rfl rfl rfl rfl (hH.r 876 2 879 rfl) ?_
  refine y_iload_n rfl rfl ?_
  refine y_aload_n rfl rfl ?_
  refine y_gfr rfl rfl rfl rfl rfl (hH.r 891 0 876 rfl) ?_
  refine y_iload_n rfl rfl ?_
  refine y_callV rfl rfl rfl (t_to_runEnd__p hH from_ ⟨by omega, by omega⟩ _) ?_
  rintro _ _ ⟨rfl, z5, rfl, w5, w3, w4⟩
  show Pl _ _ _ _ _ _ [iv z5, iv from_, .ref 879, .ref 1] _ _
  have gq17 := w3
  clear w3
  refine y_callV rfl rfl rfl (t_vo_meaning__p hH 879 5130 from_ z5 rfl ⟨by omega, by omega⟩ ⟨by omega, by omega⟩ ⟨by omega, by omega⟩ (by first | assumption | omega) (by first | assumption | exact (by assumption : CEN S)) _) ?_
  rintro _ _ ⟨rfl, z6, rfl, w6, f20, n20⟩
  show Pl _ _ _ _ _ _ [iv z6] _ _
  have hmv : mnV S from_ _ = z6 := mnV_of f20 n20
  clear f20 n20
  refine y_istore_n rfl rfl rfl ?_
  refine y_iload_n rfl rfl ?_
  refine y_bipush rfl rfl ?_
  refine y_ishr8 rfl (by unfold rg; omega) ?_
  refine y_iconst rfl ?_
  refine y_icmp_eq rfl rfl (by unfold rg; omega) (by unfold rg; omega) (fun w8 => ?_) (fun w9 => ?_)
  · refine y_iconst rfl ?_
    refine y_goto rfl rfl ?_
    refine y_istore_n rfl rfl rfl ?_
    refine y_iload_n rfl rfl ?_
    refine y_if_eq rfl rfl (by unfold rg; omega) (fun w10 => absurd w10 (by omega)) (fun w11 => ?_)
    · refine y_iload_n rfl rfl ?_
      refine y_sipush rfl rfl ?_
      refine y_iand255 rfl (by unfold rg; omega) ?_
      refine y_iconst rfl ?_
      refine y_icmp_le rfl rfl (by unfold rg; omega) (by unfold rg; omega) (fun w13 => ?_) (fun w14 => ?_)
      · refine y_iconst rfl ?_
        refine y_ireturn rfl rfl ?_
        exact ⟨rfl, _, rfl, ⟨by omega, by omega⟩, (by rw [gq17]; unfold tv5; first | (rw [← tm_y hmv (by omega)]; first | (rw [if_pos (by omega)]) | (rw [if_neg (by omega)])) | (rw [← tm_n hmv (by omega), if_neg (by omega)]))⟩
      · refine y_iload_n rfl rfl ?_
        refine y_sipush rfl rfl ?_
        refine y_iand255 rfl (by unfold rg; omega) ?_
        refine y_goto rfl rfl ?_
        refine y_ireturn rfl rfl ?_
        exact ⟨rfl, _, rfl, ⟨by omega, by omega⟩, (by rw [gq17]; unfold tv5; first | (rw [← tm_y hmv (by omega)]; first | (rw [if_pos (by omega)]) | (rw [if_neg (by omega)])) | (rw [← tm_n hmv (by omega), if_neg (by omega)]))⟩
  · refine y_iload_n rfl rfl ?_
    refine y_bipush rfl rfl ?_
    refine y_ishr8 rfl (by unfold rg; omega) ?_
    refine y_bipush rfl rfl ?_
    refine y_icmp_ne rfl rfl (by unfold rg; omega) (by unfold rg; omega) (fun w17 => ?_) (fun w18 => ?_)
    · refine y_iconst rfl ?_
      refine y_istore_n rfl rfl rfl ?_
      refine y_iload_n rfl rfl ?_
      refine y_if_eq rfl rfl (by unfold rg; omega) (fun w19 => ?_) (fun w20 => absurd w20 (by omega))
      · refine y_iconst rfl ?_
        refine y_ireturn rfl rfl ?_
        exact ⟨rfl, _, rfl, ⟨by omega, by omega⟩, (by rw [gq17]; unfold tv5; first | (rw [← tm_y hmv (by omega)]; first | (rw [if_pos (by omega)]) | (rw [if_neg (by omega)])) | (rw [← tm_n hmv (by omega), if_neg (by omega)]))⟩
    · refine y_iconst rfl ?_
      refine y_goto rfl rfl ?_
      refine y_istore_n rfl rfl rfl ?_
      refine y_iload_n rfl rfl ?_
      refine y_if_eq rfl rfl (by unfold rg; omega) (fun w21 => absurd w21 (by omega)) (fun w22 => ?_)
      · refine y_iload_n rfl rfl ?_
        refine y_sipush rfl rfl ?_
        refine y_iand255 rfl (by unfold rg; omega) ?_
        refine y_iconst rfl ?_
        refine y_icmp_le rfl rfl (by unfold rg; omega) (by unfold rg; omega) (fun w24 => ?_) (fun w25 => ?_)
        · refine y_iconst rfl ?_
          refine y_ireturn rfl rfl ?_
          exact ⟨rfl, _, rfl, ⟨by omega, by omega⟩, (by rw [gq17]; unfold tv5; first | (rw [← tm_y hmv (by omega)]; first | (rw [if_pos (by omega)]) | (rw [if_neg (by omega)])) | (rw [← tm_n hmv (by omega), if_neg (by omega)]))⟩
        · refine y_iload_n rfl rfl ?_
          refine y_sipush rfl rfl ?_
          refine y_iand255 rfl (by unfold rg; omega) ?_
          refine y_goto rfl rfl ?_
          refine y_ireturn rfl rfl ?_
          exact ⟨rfl, _, rfl, ⟨by omega, by omega⟩, (by rw [gq17]; unfold tv5; first | (rw [← tm_y hmv (by omega)]; first | (rw [if_pos (by omega)]) | (rw [if_neg (by omega)])) | (rw [← tm_n hmv (by omega), if_neg (by omega)]))⟩
abbrev Q_vo_valuesOf__p (S : sS) (type : Int) : pst := fun r S1 => S = S1 ∧ (∃ z : Int, r = some (iv z) ∧ (-2147483648 ≤ z ∧ z ≤ 2147483647) ∧ (z = cvC S type (Xi S 5 4).toNat))
set_option maxRecDepth 100000 in
theorem t_vo_valuesOf__p {S : sS} (hH : RI S) (type : Int) (htype : -2147483648 ≤ type ∧ type ≤ 2147483647) (hc : 0 ≤ Xi S 5 4 ∧ Xi S 5 4 ≤ 64) (d : Nat) : Mp lay0 (d + 1) m_vo_valuesOf [.ref 1, iv type] S (Q_vo_valuesOf__p S type) := by
  refine Mp_R rfl rfl (fun fu => ?_)
  have w1 : -2147483648 ≤ Xi S 5 4 ∧ Xi S 5 4 ≤ 2147483647 := Xi_rgI
  have C4 : ∀ (n4 : Nat) (_ : n4 ≤ fu) (v2 : Int) (v3 : Int), (0 ≤ v2 ∧ v2 ≤ 64) → (0 ≤ v3 ∧ v3 ≤ 64) → (0 ≤ v3 ∧ v3 ≤ Xi S 5 4) → (v2 = cvC S type (v3).toNat) → (0 ≤ v2 ∧ v2 ≤ v3) → Pl n4 lay0 (d + 0) m_vo_valuesOf 4 [(0, .ref 1), (1, iv type), (2, iv v2), (3, iv v3)] [] S (Q_vo_valuesOf__p S type) := by
    intro n4
    induction n4 with
    | zero => intros; exact Pl_0
    | succ n4 ih4 =>
      intro hm4 v2 v3 w2 w3 w4 c4 w5
      refine ys_iload_n rfl rfl ?_
      refine y_aload_n rfl rfl ?_
      refine y_gfr rfl rfl rfl rfl rfl (hH.r 1 4 5 rfl) ?_
      refine y_iconst rfl ?_
      refine y_ialoadP (n := 9) rfl rfl (by unfold rg; omega) (fun w6 w7 => ?_)
      have w8 : -2147483648 ≤ (Xi S 5 ((4 : Int).toNat)) ∧ (Xi S 5 ((4 : Int).toNat)) ≤ 2147483647 := Xi_rgI
      have w9 : (Xi S 5 ((4 : Int).toNat)) = Xi S 5 4 := rfl
      have e10 : (Xi S 5 ((4 : Int).toNat)) = Xi S 5 4 := rfl
      refine y_icmp_ge rfl rfl (by unfold rg; omega) (by unfold rg; omega) (fun w10 => ?_) (fun w11 => ?_)
      · refine y_iload_n rfl rfl ?_
        refine y_ireturn rfl rfl ?_
        exact ⟨rfl, _, rfl, ⟨by omega, by omega⟩, (by rw [c4, show v3 = Xi S 5 4 by omega])⟩
      · refine y_iload_n rfl rfl ?_
        refine y_aload_n rfl rfl ?_
        refine y_gfr rfl rfl rfl rfl rfl (hH.r 1 7 8 rfl) ?_
        refine y_iload_n rfl rfl ?_
        refine y_ialoadP (n := 64) rfl rfl (by unfold rg; omega) (fun w12 w13 => ?_)
        have w14 : -2147483648 ≤ (Xi S 8 ((v3).toNat)) ∧ (Xi S 8 ((v3).toNat)) ≤ 2147483647 := Xi_rgI
        refine y_iload_n rfl rfl ?_
        refine y_icmp_ne rfl rfl (by unfold rg; omega) (by unfold rg; omega) (fun w15 => ?_) (fun w16 => ?_)
        · refine y_iconst rfl ?_
          refine y_iadd rfl ?_
          refine y_istore_n rfl rfl rfl ?_
          have c31 : (v2 + 0) = cvC S type (v3 + 1).toNat := by rw [show (v3 + 1).toNat = v3.toNat + 1 by omega]; show _ = cvC S type v3.toNat + (if Xi S 8 v3.toNat = type then 1 else 0); first | (rw [if_pos (by omega)]; omega) | (rw [if_neg (by omega)]; omega)
          refine y_iinc rfl rfl rfl rfl ?_
          refine y_goto rfl rfl ?_
          exact Pl_weak (ih4 (by omega) ((v2 + 0)) ((v3 + 1)) (by omega) (by omega) (by omega) (by first | exact c31 | rfl) (by omega)) (by omega) (And.intro rfl (And.intro rfl (And.intro rfl (And.intro rfl (True.intro)))))
        · refine y_iconst rfl ?_
          refine y_goto rfl rfl ?_
          refine y_iadd rfl ?_
          refine y_istore_n rfl rfl rfl ?_
          have c31 : (v2 + 1) = cvC S type (v3 + 1).toNat := by rw [show (v3 + 1).toNat = v3.toNat + 1 by omega]; show _ = cvC S type v3.toNat + (if Xi S 8 v3.toNat = type then 1 else 0); first | (rw [if_pos (by omega)]; omega) | (rw [if_neg (by omega)]; omega)
          refine y_iinc rfl rfl rfl rfl ?_
          refine y_goto rfl rfl ?_
          exact Pl_weak (ih4 (by omega) ((v2 + 1)) ((v3 + 1)) (by omega) (by omega) (by omega) (by first | exact c31 | rfl) (by omega)) (by omega) (And.intro rfl (And.intro rfl (And.intro rfl (And.intro rfl (True.intro)))))
  refine y_iconst rfl ?_
  refine y_istore_n rfl rfl rfl ?_
  refine y_iconst rfl ?_
  refine y_istore_n rfl rfl rfl ?_
  exact Pl_weak (C4 fu (by omega) (0) (0) (by omega) (by omega) (by omega) (by first | exact c31 | rfl) (by omega)) (by omega) (And.intro rfl (And.intro rfl (And.intro rfl (And.intro rfl (True.intro)))))
def md_re_tellValues__p : List rec := [(1, 2, 3, 4), (2, 3, 0, 100000), (3, 4, 0, 100000), (4, 5, 0, 100000), (5, 6, 0, 100000), (8, 9, 0, 100000), (876, 877, 8, 9), (876, 877, 9, 10), (891, 892, 9, 10), (892, 893, 0, 100000), (893, 894, 0, 100000)]
abbrev Q_re_tellValues__p (S : sS) : pst := fun r S1 => RI S1 ∧ FR md_re_tellValues__p S S1 ∧ (∃ z : Int, r = some (iv z) ∧ (0 ≤ z ∧ z ≤ 1) ∧ (TVL S S1 z))
set_option maxRecDepth 100000 in
theorem t_re_tellValues__p {S : sS} (hH : RI S) (h13 : 0 ≤ Xi S 1 3 ∧ Xi S 1 3 ≤ 200) (hCE : CEN S) (hNB : NRB S) (hf : Xi S 876 8 = 0) (hr : Xi S 876 7 ≤ 5130) (ht : 0 ≤ Xi S 890 3 ∧ Xi S 890 3 ≤ 5125) (hn0 : Xi S 891 9 = 0) (h2 : Xi S 1 3 < 199) (hfn : FN1 S) (hc : 0 ≤ Xi S 5 4 ∧ Xi S 5 4 ≤ 64) (hc8 : Hid (LOKo (n0V S) S (cV5 S) 8 (nV5 S) → Xi S 5 4 + nV5 S ≤ 62)) (hE : Hid (2 ≤ tV5 S → LOKo (n0V S) S (cV5 S) 8 (nV5 S) → Xi S 1 3 + nV5 S ≤ 199)) (hrw : Xi S 890 3 + 1 < Xi S 876 7) (d : Nat) : Mp lay0 (d + 4) m_re_tellValues [.ref 891] S (Q_re_tellValues__p S) := by
  refine Mp_R rfl rfl (fun fu => ?_)
  have hF : FR md_re_tellValues__p S S := FR.rf
  have w1 : -2147483648 ≤ Xi S 1 3 ∧ Xi S 1 3 ≤ 2147483647 := Xi_rgI
  have w2 : -2147483648 ≤ Xi S 5 4 ∧ Xi S 5 4 ≤ 2147483647 := Xi_rgI
  have w3 : -2147483648 ≤ Xi S 876 7 ∧ Xi S 876 7 ≤ 2147483647 := Xi_rgI
  have w4 : -2147483648 ≤ Xi S 876 8 ∧ Xi S 876 8 ≤ 2147483647 := Xi_rgI
  have w5 : -2147483648 ≤ Xi S 890 3 ∧ Xi S 890 3 ≤ 2147483647 := Xi_rgI
  have w6 : -2147483648 ≤ Xi S 891 9 ∧ Xi S 891 9 ≤ 2147483647 := Xi_rgI
  have C60 : ∀ (n60 : Nat) (_ : n60 ≤ fu) (T1 : sS) (_ : RI T1) (_ : FR md_re_tellValues__p S T1) (v2 : Int) (v3 : Int), (-2147483648 ≤ v2 ∧ v2 ≤ 2147483647) → (0 ≤ v3 ∧ v3 ≤ 5130) → (2 ≤ v2) → (v2 = tV5 S) → (sn2 S = -1) → (Xi S 890 3 + 1 ≤ v3 ∧ v3 < Xi S 876 7) → (n0V S ≤ cR (ty7 S) (v3).toNat) → (Hid (LSUo (n0V S) S T1 (cR (ty7 S) (v3).toNat - n0V S))) → (Hid (LOKo (n0V S) S (cV5 S) 8 (cR (ty7 S) (v3).toNat - n0V S))) → (Xi T1 876 8 = 0) → (Xi T1 5 4 = Xi S 5 4) → (Xi T1 890 3 = Xi S 890 3) → (Xi T1 876 7 = Xi S 876 7) → (Xi T1 1 3 = Xi S 1 3) → (0 ≤ Xi T1 891 9 ∧ Xi T1 891 9 ≤ 8) → Pl n60 lay0 (d + 3) m_re_tellValues 60 [(0, .ref 891), (2, iv v2), (3, iv v3)] [] T1 (Q_re_tellValues__p S) := by
    intro n60
    induction n60 with
    | zero => intros; exact Pl_0
    | succ n60 ih60 =>
      intro hm60 T1 hHT1 hFT1 v2 v3 w7 w8 w9 t60 s60 w10 o60 G60 L60 w11 w12 w13 w14 w15 w16
      have w17 : Xi T1 876 7 = Xi S 876 7 := hFT1.x _ _ rfl
      have w18 : Xi T1 890 3 = Xi S 890 3 := hFT1.x _ _ rfl
      have w19 : -2147483648 ≤ Xi T1 1 3 ∧ Xi T1 1 3 ≤ 2147483647 := Xi_rgI
      have w20 : -2147483648 ≤ Xi T1 5 4 ∧ Xi T1 5 4 ≤ 2147483647 := Xi_rgI
      have w21 : -2147483648 ≤ Xi T1 876 7 ∧ Xi T1 876 7 ≤ 2147483647 := Xi_rgI
      have w22 : -2147483648 ≤ Xi T1 876 8 ∧ Xi T1 876 8 ≤ 2147483647 := Xi_rgI
      have w23 : -2147483648 ≤ Xi T1 890 3 ∧ Xi T1 890 3 ≤ 2147483647 := Xi_rgI
      have w24 : -2147483648 ≤ Xi T1 891 9 ∧ Xi T1 891 9 ≤ 2147483647 := Xi_rgI
      have C119 : ∀ (n119 : Nat) (_ : n119 ≤ n60) (T2 : sS) (_ : RI T2) (_ : FR md_re_tellValues__p S T2) (v2 : Int) (v3 : Int), (-2147483648 ≤ v2 ∧ v2 ≤ 2147483647) → (0 ≤ v3 ∧ v3 ≤ 5130) → (0 ≤ v3) → (Hid (LOKo (n0V S) S (cV5 S) 8 (nV5 S))) → (Hid (LNWo (n0V S) S T2 (nV5 S))) → (NRB T2) → (Hid (∀ j, Xj T2 879 j = Xj S 879 j)) → (Hid (TNLo (n0V S) S 4 (Xi S 5 4) (v3).toNat T2)) → (Hid (∀ j, j ≠ 4 → Xi T2 5 j = Xi S 5 j)) → (Hid (ARN S T2 8 (Xi S 5 4) v2 (v3).toNat)) → (Xi T2 876 8 = 0) → (Xi T2 5 4 = Xi S 5 4 + v3) → (Xi T2 1 3 ≤ Xi S 1 3 + v3) → (0 ≤ Xi T2 1 3) → (v3 ≤ nV5 S) → (Xi T2 891 9 = nV5 S) → ((nV5 S : Int) ≤ 8) → (Xi S 1 3 + nV5 S ≤ 199) → (sn2 S = -1) → (v2 = tV5 S) → (2 ≤ v2) → Pl n119 lay0 (d + 3) m_re_tellValues 119 [(0, .ref 891), (2, iv v2), (3, iv v3)] [] T2 (Q_re_tellValues__p S) := by
        intro n119
        induction n119 with
        | zero => intros; exact Pl_0
        | succ n119 ih119 =>
          intro hm119 T2 hHT2 hFT2 v2 v3 w25 w26 w27 L119 N119 B119 J119 M119 O119 A119 w28 w29 w30 w31 w32 w33 b119 h119 s119 t119 d119
          have w34 : Xi T2 876 7 = Xi S 876 7 := hFT2.x _ _ rfl
          have w35 : Xi T2 890 3 = Xi S 890 3 := hFT2.x _ _ rfl
          have w36 : -2147483648 ≤ Xi T2 1 3 ∧ Xi T2 1 3 ≤ 2147483647 := Xi_rgI
          have w37 : -2147483648 ≤ Xi T2 5 4 ∧ Xi T2 5 4 ≤ 2147483647 := Xi_rgI
          have w38 : -2147483648 ≤ Xi T2 876 7 ∧ Xi T2 876 7 ≤ 2147483647 := Xi_rgI
          have w39 : -2147483648 ≤ Xi T2 876 8 ∧ Xi T2 876 8 ≤ 2147483647 := Xi_rgI
          have w40 : -2147483648 ≤ Xi T2 890 3 ∧ Xi T2 890 3 ≤ 2147483647 := Xi_rgI
          have w41 : -2147483648 ≤ Xi T2 891 9 ∧ Xi T2 891 9 ≤ 2147483647 := Xi_rgI
          refine ys_iload_n rfl rfl ?_
          refine y_aload_n rfl rfl ?_
          refine y_gfi rfl rfl rfl rfl rfl ?_
          refine y_icmp_ge rfl rfl (by unfold rg; omega) (by unfold rg; omega) (fun w42 => ?_) (fun w43 => ?_)
          · refine y_iconst rfl ?_
            have K169 : True := trivial
            have b169 : (v3).toNat = nV5 S := by omega
            refine y_ireturn rfl rfl ?_
            exact ⟨hHT2, hFT2, _, rfl, ⟨by omega, by omega⟩, (by first | (have t := K169; exact ⟨fun q => absurd q (by omega), fun _ q => absurd s119 q, fun _ _ => tls_yo L119.o, fun _ _ _ => ⟨by omega, by omega, by have t := M119.o; rw [b169] at t; exact t, by omega, O119.o, by have t := A119.o; rw [b169, t119] at t; exact t⟩⟩) | (have t := K103; have l := F109.o.2 (by have u := cR_l (T := ty7 S) (v := v3) (b := Xi S 876 7 - 1) (by omega) (by omega) (by have t := B83.o; rw [G60.o.t] at t; exact t); have w := o60; unfold nV5; omega); exact ⟨fun q => absurd q (by omega), fun _ q => absurd s60 q, fun _ _ => F109.o.1, fun _ _ q => absurd q l⟩) | (have t := K43; exact ⟨fun q => absurd q (by omega), fun _ _ => ⟨by omega, by have u := Y46; rw [if_neg (by omega)] at u; exact u⟩, fun _ q => absurd q (by omega), fun _ q => absurd q (by omega)⟩) | exact ⟨fun _ => ⟨by omega, by have u := Y46; rw [if_pos (by omega)] at u; exact u⟩, fun q => absurd (by omega) q, fun q => absurd (by omega) q, fun q => absurd (by omega) q⟩)⟩
          · refine y_aload_n rfl rfl ?_
            have nb127 := B119 v3.toNat (by omega)
            have h127 := hc8.o L119.o
            refine y_gfr rfl rfl rfl rfl rfl (hHT2.r 891 2 1 rfl) ?_
            refine y_gfr rfl rfl rfl rfl rfl (hHT2.r 1 7 8 rfl) ?_
            refine y_aload_n rfl rfl ?_
            refine y_gfr rfl rfl rfl rfl rfl (hHT2.r 891 2 1 rfl) ?_
            refine y_iconst rfl ?_
            refine y_aload_n rfl rfl ?_
            refine y_gfr rfl rfl rfl rfl rfl (hHT2.r 891 0 876 rfl) ?_
            refine y_gfr rfl rfl rfl rfl rfl (hHT2.r 876 2 879 rfl) ?_
            refine y_aload_n rfl rfl ?_
            refine y_gfr rfl rfl rfl rfl rfl (hHT2.r 891 7 892 rfl) ?_
            refine y_iload_n rfl rfl ?_
            refine y_ialoadP (n := 24) rfl rfl (by unfold rg; omega) (fun w44 w45 => ?_)
            have w46 : -2147483648 ≤ (Xi T2 892 ((v3).toNat)) ∧ (Xi T2 892 ((v3).toNat)) ≤ 2147483647 := Xi_rgI
            refine y_aload_n rfl rfl ?_
            refine y_gfr rfl rfl rfl rfl rfl (hHT2.r 891 8 893 rfl) ?_
            refine y_iload_n rfl rfl ?_
            refine y_ialoadP (n := 24) rfl rfl (by unfold rg; omega) (fun w47 w48 => ?_)
            have w49 : -2147483648 ≤ (Xi T2 893 ((v3).toNat)) ∧ (Xi T2 893 ((v3).toNat)) ≤ 2147483647 := Xi_rgI
            refine y_callV rfl rfl rfl (t_vo_tellNew__p hHT2 4 879 5130 (Xi T2 892 ((v3).toNat)) (Xi T2 893 ((v3).toNat)) ⟨by omega, by omega⟩ rfl ⟨by omega, by omega⟩ ⟨by omega, by omega⟩ ⟨by omega, by omega⟩ (by first | assumption | omega) (by first | assumption | omega) (Or.inl rfl) (⟨by show (0 : Int) ≤ Xi T2 5 4; omega, by show Xi T2 5 4 ≤ 62; omega⟩) _) ?_
            rintro _ T3 ⟨hHT3, w51, z50, rfl, w50, z158, c158, o158, e158⟩
            have hFT3 : FR md_re_tellValues__p S T3 := FR.tr hFT2 w51 rfl
            show Pl _ _ _ _ _ _ [iv z50, .ref 8] _ _
            have Z158 : z50 = Xi T2 5 4 := z158
            have C158 : Xi T3 5 4 = Xi T2 5 4 + 1 := c158
            have O158 : Hid (∀ j, j ≠ 4 → Xi T3 5 j = Xi T2 5 j) := o158
            have E158 := Hid.i e158
            have X158 := nmi_c E158.o
            have F158 := (by assumption : FR md_vo_tellNew__p T2 T3)
            clear z158 c158 o158 e158
            refine y_iload_n rfl rfl ?_
            refine y_iastoreP (n := 64) rfl rfl (by unfold rg; omega) (fun w52 w53 => ?_)
            obtain ⟨U4, eU4⟩ : ∃ T : sS, T = uI T3 8 ((z50).toNat) (Int32.ofInt v2) := ⟨_, rfl⟩
            rw [← eU4]
            have hHU4 : RI U4 := by rw [eU4]; exact RI_w hHT3
            have hFU4 : FR md_re_tellValues__p S U4 := by rw [eU4]; exact FR.wI hFT3 (mdf_i (r := (8, 9, 0, 100000)) (List.mem_of_getElem? (i := 5) rfl) (inR_i (by omega) (by omega) (by omega) (by omega)))
            have w54 : Xi U4 8 ((z50).toNat) = v2 := by rw [eU4]; exact Xi_same (by unfold rg; omega)
            have K162 : True := trivial
            have ee162 := eU4
            refine y_iinc rfl rfl rfl rfl ?_
            refine y_goto rfl rfl ?_
            have w55 : Xi U4 1 3 = Xi T3 1 3 := (show Xi U4 1 3 = Xi T3 1 3 from by rw [eU4]; exact Xi_ne (by omega))
            have w56 : Xi U4 5 4 = Xi T3 5 4 := (show Xi U4 5 4 = Xi T3 5 4 from by rw [eU4]; exact Xi_ne (by omega))
            have w57 : Xi U4 876 7 = Xi T2 876 7 := (show Xi U4 876 7 = Xi T3 876 7 from by rw [eU4]; exact Xi_ne (by omega)).trans ((show Xi T3 876 7 = Xi T2 876 7 from w51.x _ _ rfl))
            have w58 : Xi U4 876 8 = Xi T2 876 8 := (show Xi U4 876 8 = Xi T3 876 8 from by rw [eU4]; exact Xi_ne (by omega)).trans ((show Xi T3 876 8 = Xi T2 876 8 from w51.x _ _ rfl))
            have w59 : Xi U4 890 3 = Xi T2 890 3 := (show Xi U4 890 3 = Xi T3 890 3 from by rw [eU4]; exact Xi_ne (by omega)).trans ((show Xi T3 890 3 = Xi T2 890 3 from w51.x _ _ rfl))
            have w60 : Xi U4 891 9 = Xi T2 891 9 := (show Xi U4 891 9 = Xi T3 891 9 from by rw [eU4]; exact Xi_ne (by omega)).trans ((show Xi T3 891 9 = Xi T2 891 9 from w51.x _ _ rfl))
            exact Pl_weak (ih119 (by omega) U4 hHU4 hFU4 (v2) ((v3 + 1)) (by omega) (by omega) (by omega) (by first | exact L119 | exact L60b) (by first | (have t := K162; exact lnw_ko N119.o (by rw [ee162, Xi_ne (by omega), F158.x 891 9 rfl]) (fun j => by rw [ee162, Xi_ne (by omega), (F158.cx 892 rfl j).1]) (fun j => by rw [ee162, Xi_ne (by omega), (F158.cx 893 rfl j).1])) | exact G60b.o.1) (by first | (have t := K162; exact nrb_k B119 (by rw [ee162, Xi_ne (by omega), F158.x 891 9 rfl]) (fun j => by rw [ee162, Xi_ne (by omega), (F158.cx 892 rfl j).1]) (fun j => by rw [ee162, Xi_ne (by omega), (F158.cx 893 rfl j).1])) | exact G60b.o.2.1) (by first | (have t := K162; exact fun j => by rw [ee162, Xj_I, (F158.cx 879 rfl j).2]; exact J119.o j) | exact fun j => G60b.o.2.2.2.2.1 879 j (by omega)) (by first | (have t := K162; have t := tnl_so M119.o E158.o J119.o (N119.o.2 v3.toNat (by omega)).1 (N119.o.2 v3.toNat (by omega)).2 (by omega); rw [show (v3 + 1).toNat = v3.toNat + 1 by omega]; exact tnl_po t (fun j => by rw [ee162, Xi_ne (by omega)]) (fun j => by rw [ee162, Xi_ne (by omega)]) (fun j => by rw [ee162, Xj_I]) (by rw [ee162, Xi_ne (by omega)]) (fun j => by rw [ee162, Xj_I])) | exact G60b.o.v) (by first | (have t := K162; exact fun j hj => by rw [ee162, Xi_ne (by omega), O158.o j hj]; exact O119.o j hj) | exact fun j _ => G60b.o.2.2.2.1 5 j (by omega)) (by first | (have t := K162; rw [show (v3 + 1).toNat = v3.toNat + 1 by omega]; exact arn_s A119.o (fun j => (F158.cx 8 rfl j).1) ee162 (by omega) (by omega) (by unfold rg; omega)) | exact arn_0 (fun j => G60b.o.2.2.2.1 8 j (by omega))) (by omega) (by omega) (by omega) (by omega) (by omega) (by omega) (by first | exact b119 | exact lok_bo L60b.o (by omega) (by omega)) (by first | exact h119 | exact hE.o (by omega) L60b.o) (by first | exact s119 | exact s60) (by first | exact t119 | exact t60) (by omega)) (by omega) (And.intro rfl (And.intro rfl (And.intro rfl (True.intro))))
      refine ys_iload_n rfl rfl ?_
      refine y_aload_n rfl rfl ?_
      refine y_gfr rfl rfl rfl rfl rfl (hHT1.r 891 0 876 rfl) ?_
      refine y_callV rfl rfl rfl (t_to_lastRow__p hHT1 (by first | assumption | omega) _) ?_
      rintro _ _ ⟨rfl, z61, rfl, w61, p65⟩
      show Pl _ _ _ _ _ _ [iv z61, iv v3] _ _
      refine y_icmp_ge rfl rfl (by unfold rg; omega) (by unfold rg; omega) (fun w62 => ?_) (fun w63 => ?_)
      · refine y_iconst rfl ?_
        have b117 : v3 = Xi S 876 7 - 1 := by omega
        have G60b : Hid (LSUo (n0V S) S T1 (nV5 S)) := by have t := G60; rw [b117] at t; exact t
        have L60b : Hid (LOKo (n0V S) S (cV5 S) 8 (nV5 S)) := by have t := L60; rw [b117] at t; exact t
        have n117 : Xi T1 891 9 = nV5 S := G60b.o.1.1
        have c117 := cvC_b (S := S) (tp := tV5 S) (Xi S 5 4).toNat
        have d117 : cV5 S = cvC S (tV5 S) (Xi S 5 4).toNat := rfl
        refine y_istore_n rfl rfl rfl ?_
        exact Pl_weak (C119 n60 (by omega) T1 hHT1 hFT1 (v2) (0) (by omega) (by omega) (by omega) (by first | exact L119 | exact L60b) (by first | (have t := K162; exact lnw_ko N119.o (by rw [ee162, Xi_ne (by omega), F158.x 891 9 rfl]) (fun j => by rw [ee162, Xi_ne (by omega), (F158.cx 892 rfl j).1]) (fun j => by rw [ee162, Xi_ne (by omega), (F158.cx 893 rfl j).1])) | exact G60b.o.1) (by first | (have t := K162; exact nrb_k B119 (by rw [ee162, Xi_ne (by omega), F158.x 891 9 rfl]) (fun j => by rw [ee162, Xi_ne (by omega), (F158.cx 892 rfl j).1]) (fun j => by rw [ee162, Xi_ne (by omega), (F158.cx 893 rfl j).1])) | exact G60b.o.2.1) (by first | (have t := K162; exact fun j => by rw [ee162, Xj_I, (F158.cx 879 rfl j).2]; exact J119.o j) | exact fun j => G60b.o.2.2.2.2.1 879 j (by omega)) (by first | (have t := K162; have t := tnl_so M119.o E158.o J119.o (N119.o.2 v3.toNat (by omega)).1 (N119.o.2 v3.toNat (by omega)).2 (by omega); rw [show (v3 + 1).toNat = v3.toNat + 1 by omega]; exact tnl_po t (fun j => by rw [ee162, Xi_ne (by omega)]) (fun j => by rw [ee162, Xi_ne (by omega)]) (fun j => by rw [ee162, Xj_I]) (by rw [ee162, Xi_ne (by omega)]) (fun j => by rw [ee162, Xj_I])) | exact G60b.o.v) (by first | (have t := K162; exact fun j hj => by rw [ee162, Xi_ne (by omega), O158.o j hj]; exact O119.o j hj) | exact fun j _ => G60b.o.2.2.2.1 5 j (by omega)) (by first | (have t := K162; rw [show (v3 + 1).toNat = v3.toNat + 1 by omega]; exact arn_s A119.o (fun j => (F158.cx 8 rfl j).1) ee162 (by omega) (by omega) (by unfold rg; omega)) | exact arn_0 (fun j => G60b.o.2.2.2.1 8 j (by omega))) (by omega) (by omega) (by omega) (by omega) (by omega) (by omega) (by first | exact b119 | exact lok_bo L60b.o (by omega) (by omega)) (by first | exact h119 | exact hE.o (by omega) L60b.o) (by first | exact s119 | exact s60) (by first | exact t119 | exact t60) (by omega)) (by omega) (And.intro rfl (And.intro rfl (And.intro rfl (True.intro))))
      · refine y_aload_n rfl rfl ?_
        refine y_gfr rfl rfl rfl rfl rfl (hHT1.r 891 0 876 rfl) ?_
        refine y_iload_n rfl rfl ?_
        refine y_iconst rfl ?_
        refine y_callV rfl rfl rfl (t_to_beginsRun__p hHT1 v3 0 ⟨by omega, by omega⟩ ⟨by omega, by omega⟩ _) ?_
        rintro _ _ ⟨rfl, z64, rfl, w64, v77⟩
        show Pl _ _ _ _ _ _ [iv z64] _ _
        have V77 : Hid ((z64 = 1 → bg7 (ty7 T1) v3) ∧ (z64 = 0 → ¬ bg7 (ty7 T1) v3)) := by have t := bgr_7 (S := T1) (r := v3) (by omega); rw [← v77] at t; exact ⟨t.1, fun q w => by have u := t.2 w; omega⟩
        clear v77
        refine y_if_eq rfl rfl (by unfold rg; omega) (fun w65 => ?_) (fun w66 => ?_)
        · refine y_iinc rfl rfl rfl rfl ?_
          have K111 : True := trivial
          have G111 : Hid (LSUo (n0V S) S T1 (cR (ty7 S) (v3 + 1).toNat - n0V S) ∧ LOKo (n0V S) S (cV5 S) 8 (cR (ty7 S) (v3 + 1).toNat - n0V S)) := by first | (have t := K103; exact lsu_to o60 G60.o L60.o B83.o gq90 (by omega) hr F103 m3_103.o m9_103.o mo_103.o mb_103.o (by omega)) | exact lsu_no G60.o L60.o (V77.o.2 (by omega)) (by omega)
          have x111 : Xi T1 876 8 = 0 := G111.o.1.2.2.1
          have c111 := cvC_b (S := S) (tp := tV5 S) (Xi S 5 4).toNat
          have d111 : cV5 S = cvC S (tV5 S) (Xi S 5 4).toNat := rfl
          have y111 : 0 ≤ Xi T1 891 9 ∧ Xi T1 891 9 ≤ 8 := by have a := G111.o.1.1.1; have b := lok_bo G111.o.2 (by omega) (by omega); omega
          have o111 : n0V S ≤ cR (ty7 S) (v3 + 1).toNat := Nat.le_trans o60 (cR_m (by omega))
          refine y_goto rfl rfl ?_
          exact Pl_weak (ih60 (by omega) T1 hHT1 hFT1 (v2) ((v3 + 1)) (by omega) (by omega) (by omega) (by first | exact t60 | exact k11) (by first | exact s60 | omega) (by omega) (by first | exact o111 | exact Nat.le_refl _) (by first | (have t := K111; exact G111.o.1) | (rw [show cR (ty7 S) (Xi S 890 3 + 1).toNat - n0V S = 0 from Nat.sub_self _]; exact lsu_0o hn0 hNB hf)) (by first | (have t := K111; exact G111.o.2) | (rw [show cR (ty7 S) (Xi S 890 3 + 1).toNat - n0V S = 0 from Nat.sub_self _]; exact fun i hi => absurd hi (Nat.not_lt_zero _))) (by omega) (by omega) (by omega) (by omega) (by omega) (by omega)) (by omega) (And.intro rfl (And.intro rfl (And.intro rfl (True.intro))))
        · refine y_aload_n rfl rfl ?_
          have B83 : Hid (bg7 (ty7 T1) v3) := V77.o.1 (by omega)
          refine y_iload_n rfl rfl ?_
          refine y_aload_n rfl rfl ?_
          refine y_gfr rfl rfl rfl rfl rfl (hHT1.r 891 0 876 rfl) ?_
          refine y_iload_n rfl rfl ?_
          refine y_callV rfl rfl rfl (t_to_runEnd__p hHT1 v3 ⟨by omega, by omega⟩ _) ?_
          rintro _ _ ⟨rfl, z69, rfl, w69, w67, w68⟩
          show Pl _ _ _ _ _ _ [iv z69, iv v3, .ref 891] _ _
          have gq90 := w67
          rw [FRT hFT1 rfl rfl] at gq90
          clear w67
          refine y_aload_n rfl rfl ?_
          refine y_gfr rfl rfl rfl rfl rfl (hHT1.r 891 2 1 rfl) ?_
          refine y_iload_n rfl rfl ?_
          refine y_callV rfl rfl rfl (t_vo_valuesOf__p hHT1 v2 ⟨by omega, by omega⟩ (by omega) _) ?_
          rintro _ _ ⟨rfl, z70, rfl, w70, v98⟩
          show Pl _ _ _ _ _ _ [iv z70, iv z69, iv v3, .ref 891] _ _
          have C98 : z70 = cV5 S := by have t := v98; rw [cvC_k (fun j => G60.o.2.2.2.1 8 j (by omega)), t60, show Xi T1 5 4 = Xi S 5 4 by omega] at t; exact t
          clear v98
          have cb98 := cvC_b (S := S) (tp := tV5 S) (Xi S 5 4).toNat
          have cd98 : cV5 S = cvC S (tV5 S) (Xi S 5 4).toNat := rfl
          refine y_bipush rfl rfl ?_
          refine y_callV rfl rfl rfl (t_re_takeNew__p hHT1 v3 z69 z70 8 ⟨by omega, by omega⟩ ⟨by omega, by omega⟩ ⟨by omega, by omega⟩ ⟨by omega, by omega⟩ (by first | assumption | omega) (LSUo.c G60.o hCE) (G60.o.2.1) (by first | assumption | omega) (Or.inl (by omega)) (by first | assumption | omega) (by omega) _) ?_
          rintro _ T5 ⟨hHT5, w72, z71, rfl, w71, n3_103, n9_103, ok_103, nb_103⟩
          have hFT5 : FR md_re_tellValues__p S T5 := FR.tr hFT1 w72 rfl
          show Pl _ _ _ _ _ _ [iv z71] _ _
          have K103 : True := trivial
          have F103 := (by assumption : FR md_re_takeNew__p T1 T5)
          rw [C98] at n9_103 ok_103
          have m3_103 := Hid.i n3_103
          have m9_103 := Hid.i n9_103
          have mo_103 := Hid.i ok_103
          have mb_103 := Hid.i nb_103
          clear n3_103 n9_103 ok_103 nb_103
          refine y_if_ne rfl rfl (by unfold rg; omega) (fun w73 => ?_) (fun w74 => ?_)
          · refine y_iinc rfl rfl rfl rfl ?_
            have K111 : True := trivial
            have G111 : Hid (LSUo (n0V S) S T5 (cR (ty7 S) (v3 + 1).toNat - n0V S) ∧ LOKo (n0V S) S (cV5 S) 8 (cR (ty7 S) (v3 + 1).toNat - n0V S)) := by first | (have t := K103; exact lsu_to o60 G60.o L60.o B83.o gq90 (by omega) hr F103 m3_103.o m9_103.o mo_103.o mb_103.o (by omega)) | exact lsu_no G60.o L60.o (V77.o.2 (by omega)) (by omega)
            have x111 : Xi T5 876 8 = 0 := G111.o.1.2.2.1
            have c111 := cvC_b (S := S) (tp := tV5 S) (Xi S 5 4).toNat
            have d111 : cV5 S = cvC S (tV5 S) (Xi S 5 4).toNat := rfl
            have y111 : 0 ≤ Xi T5 891 9 ∧ Xi T5 891 9 ≤ 8 := by have a := G111.o.1.1.1; have b := lok_bo G111.o.2 (by omega) (by omega); omega
            have o111 : n0V S ≤ cR (ty7 S) (v3 + 1).toNat := Nat.le_trans o60 (cR_m (by omega))
            refine y_goto rfl rfl ?_
            have w75 : Xi T5 1 3 = Xi T1 1 3 := (show Xi T5 1 3 = Xi T1 1 3 from w72.x _ _ rfl)
            have w76 : Xi T5 5 4 = Xi T1 5 4 := (show Xi T5 5 4 = Xi T1 5 4 from w72.x _ _ rfl)
            have w77 : Xi T5 876 7 = Xi T1 876 7 := (show Xi T5 876 7 = Xi T1 876 7 from w72.x _ _ rfl)
            have w78 : Xi T5 890 3 = Xi T1 890 3 := (show Xi T5 890 3 = Xi T1 890 3 from w72.x _ _ rfl)
            exact Pl_weak (ih60 (by omega) T5 hHT5 hFT5 (v2) ((v3 + 1)) (by omega) (by omega) (by omega) (by first | exact t60 | exact k11) (by first | exact s60 | omega) (by omega) (by first | exact o111 | exact Nat.le_refl _) (by first | (have t := K111; exact G111.o.1) | (rw [show cR (ty7 S) (Xi S 890 3 + 1).toNat - n0V S = 0 from Nat.sub_self _]; exact lsu_0o hn0 hNB hf)) (by first | (have t := K111; exact G111.o.2) | (rw [show cR (ty7 S) (Xi S 890 3 + 1).toNat - n0V S = 0 from Nat.sub_self _]; exact fun i hi => absurd hi (Nat.not_lt_zero _))) (by omega) (by omega) (by omega) (by omega) (by omega) (by omega)) (by omega) (And.intro rfl (And.intro rfl (And.intro rfl (True.intro))))
          · refine y_iconst rfl ?_
            have F109 := Hid.i (lsu_fo (N := nV5 S) o60 G60.o L60.o B83.o gq90 (by omega) hr m3_103.o m9_103.o mo_103.o (by omega))
            refine y_ireturn rfl rfl ?_
            have w79 : Xi T5 1 3 = Xi T1 1 3 := (show Xi T5 1 3 = Xi T1 1 3 from w72.x _ _ rfl)
            have w80 : Xi T5 5 4 = Xi T1 5 4 := (show Xi T5 5 4 = Xi T1 5 4 from w72.x _ _ rfl)
            have w81 : Xi T5 876 7 = Xi T1 876 7 := (show Xi T5 876 7 = Xi T1 876 7 from w72.x _ _ rfl)
            have w82 : Xi T5 890 3 = Xi T1 890 3 := (show Xi T5 890 3 = Xi T1 890 3 from w72.x _ _ rfl)
            exact ⟨hHT5, hFT5, _, rfl, ⟨by omega, by omega⟩, (by first | (have t := K169; exact ⟨fun q => absurd q (by omega), fun _ q => absurd s119 q, fun _ _ => tls_yo L119.o, fun _ _ _ => ⟨by omega, by omega, by have t := M119.o; rw [b169] at t; exact t, by omega, O119.o, by have t := A119.o; rw [b169, t119] at t; exact t⟩⟩) | (have t := K103; have l := F109.o.2 (by have u := cR_l (T := ty7 S) (v := v3) (b := Xi S 876 7 - 1) (by omega) (by omega) (by have t := B83.o; rw [G60.o.t] at t; exact t); have w := o60; unfold nV5; omega); exact ⟨fun q => absurd q (by omega), fun _ q => absurd s60 q, fun _ _ => F109.o.1, fun _ _ q => absurd q l⟩) | (have t := K43; exact ⟨fun q => absurd q (by omega), fun _ _ => ⟨by omega, by have u := Y46; rw [if_neg (by omega)] at u; exact u⟩, fun _ q => absurd q (by omega), fun _ q => absurd q (by omega)⟩) | exact ⟨fun _ => ⟨by omega, by have u := Y46; rw [if_pos (by omega)] at u; exact u⟩, fun q => absurd (by omega) q, fun q => absurd (by omega) q, fun q => absurd (by omega) q⟩)⟩
  refine y_aload_n rfl rfl ?_
  refine y_gfr rfl rfl rfl rfl rfl (hH.r 891 0 876 rfl) ?_
  refine y_iconst rfl ?_
  refine y_callV rfl rfl rfl (t_to_behindArt__p hH 0 ⟨by omega, by omega⟩ _) ?_
  rintro _ _ ⟨rfl, z85, rfl, w85, w83, w84⟩
  show Pl _ _ _ _ _ _ [iv z85] _ _
  have gq5 := w83
  clear w83
  refine y_istore_n rfl rfl rfl ?_
  refine y_aload_n rfl rfl ?_
  refine y_iload_n rfl rfl ?_
  refine y_callV rfl rfl rfl (t_re_typeMeant__p hH z85 ⟨by omega, by omega⟩ (by first | assumption | omega) (by first | assumption | exact (by assumption : CEN S)) (by first | assumption | omega) _) ?_
  rintro _ _ ⟨rfl, z86, rfl, w86, v11⟩
  show Pl _ _ _ _ _ _ [iv z86] _ _
  have k11 : z86 = tV5 S := by have t := v11; rw [← gq5] at t; exact t
  clear v11
  have u11 : z86 = -1 ∨ 2 ≤ z86 := by rw [k11]; unfold tV5 tv5; split <;> omega
  refine y_istore_n rfl rfl rfl ?_
  refine y_iload_n rfl rfl ?_
  refine y_iconst rfl ?_
  refine y_icmp_eq rfl rfl (by unfold rg; omega) (by unfold rg; omega) (fun w87 => ?_) (fun w88 => ?_)
  · refine y_aload_n rfl rfl ?_
    refine y_gfr rfl rfl rfl rfl rfl (hH.r 891 0 876 rfl) ?_
    refine y_iconst rfl ?_
    refine y_iload_n rfl rfl ?_
    refine y_iconst rfl ?_
    refine y_icmp_ne rfl rfl (by unfold rg; omega) (by unfold rg; omega) (fun w89 => ?_) (fun w90 => ?_)
    · exfalso; omega
    · refine y_iload_n rfl rfl ?_
      refine y_goto rfl rfl ?_
      refine y_callV rfl rfl rfl (t_to_wrong__p hH 4 z85 ⟨by omega, by omega⟩ ⟨by omega, by omega⟩ _) ?_
      rintro _ T6 ⟨hHT6, w94, z93, rfl, w93, w91, f46, w92⟩
      have hFT6 : FR md_re_tellValues__p S T6 := FR.tr hF w94 rfl
      show Pl _ _ _ _ _ _ [iv z93] _ _
      have Y46 : FTO S T6 4 (if tV5 S = -1 then (bA (ty7 S) 0) else sn2 S) := by have t := f46 hf; first | (have u := K43; rw [if_neg (by omega), ← v43]; exact t) | (rw [if_pos (by omega), gq5]; exact t)
      refine y_ireturn rfl (retI_z (by omega)) ?_
      have w95 : Xi T6 1 3 = Xi S 1 3 := (show Xi T6 1 3 = Xi S 1 3 from w94.x _ _ rfl)
      have w96 : Xi T6 5 4 = Xi S 5 4 := (show Xi T6 5 4 = Xi S 5 4 from w94.x _ _ rfl)
      have w97 : Xi T6 876 7 = Xi S 876 7 := (show Xi T6 876 7 = Xi S 876 7 from w94.x _ _ rfl)
      have w98 : Xi T6 890 3 = Xi S 890 3 := (show Xi T6 890 3 = Xi S 890 3 from w94.x _ _ rfl)
      have w99 : Xi T6 891 9 = Xi S 891 9 := (show Xi T6 891 9 = Xi S 891 9 from w94.x _ _ rfl)
      exact ⟨hHT6, hFT6, _, rfl, ⟨by omega, by omega⟩, (by first | (have t := K169; exact ⟨fun q => absurd q (by omega), fun _ q => absurd s119 q, fun _ _ => tls_yo L119.o, fun _ _ _ => ⟨by omega, by omega, by have t := M119.o; rw [b169] at t; exact t, by omega, O119.o, by have t := A119.o; rw [b169, t119] at t; exact t⟩⟩) | (have t := K103; have l := F109.o.2 (by have u := cR_l (T := ty7 S) (v := v3) (b := Xi S 876 7 - 1) (by omega) (by omega) (by have t := B83.o; rw [G60.o.t] at t; exact t); have w := o60; unfold nV5; omega); exact ⟨fun q => absurd q (by omega), fun _ q => absurd s60 q, fun _ _ => F109.o.1, fun _ _ q => absurd q l⟩) | (have t := K43; exact ⟨fun q => absurd q (by omega), fun _ _ => ⟨by omega, by have u := Y46; rw [if_neg (by omega)] at u; exact u⟩, fun _ q => absurd q (by omega), fun _ q => absurd q (by omega)⟩) | exact ⟨fun _ => ⟨by omega, by have u := Y46; rw [if_pos (by omega)] at u; exact u⟩, fun q => absurd (by omega) q, fun q => absurd (by omega) q, fun q => absurd (by omega) q⟩)⟩
  · refine y_aload_n rfl rfl ?_
    refine y_callV rfl rfl rfl (t_re_secondName__p hH (by first | assumption | omega) (by first | assumption | omega) (by first | assumption | omega) _) ?_
    rintro _ _ ⟨rfl, z100, rfl, w100, v21⟩
    show Pl _ _ _ _ _ _ [iv z100] _ _
    refine y_iconst rfl ?_
    refine y_icmp_eq rfl rfl (by unfold rg; omega) (by unfold rg; omega) (fun w101 => ?_) (fun w102 => ?_)
    · refine y_aload_n rfl rfl ?_
      refine y_gfr rfl rfl rfl rfl rfl (hH.r 891 1 890 rfl) ?_
      refine y_gfi rfl rfl rfl rfl rfl ?_
      refine y_iconst rfl ?_
      refine y_iadd rfl ?_
      refine y_istore_n rfl rfl rfl ?_
      exact Pl_weak (C60 fu (by omega) S hH hF (z86) (((Xi S 890 3) + 1)) (by omega) (by omega) (by omega) (by first | exact t60 | exact k11) (by first | exact s60 | omega) (by omega) (by first | exact o111 | exact Nat.le_refl _) (by first | (have t := K111; exact G111.o.1) | (rw [show cR (ty7 S) (Xi S 890 3 + 1).toNat - n0V S = 0 from Nat.sub_self _]; exact lsu_0o hn0 hNB hf)) (by first | (have t := K111; exact G111.o.2) | (rw [show cR (ty7 S) (Xi S 890 3 + 1).toNat - n0V S = 0 from Nat.sub_self _]; exact fun i hi => absurd hi (Nat.not_lt_zero _))) (by omega) (by omega) (by omega) (by omega) (by omega) (by omega)) (by omega) (And.intro rfl (And.intro rfl (And.intro rfl (True.intro))))
    · refine y_aload_n rfl rfl ?_
      refine y_gfr rfl rfl rfl rfl rfl (hH.r 891 0 876 rfl) ?_
      refine y_iconst rfl ?_
      refine y_iload_n rfl rfl ?_
      refine y_iconst rfl ?_
      refine y_icmp_ne rfl rfl (by unfold rg; omega) (by unfold rg; omega) (fun w103 => ?_) (fun w104 => ?_)
      · refine y_aload_n rfl rfl ?_
        refine y_callV rfl rfl rfl (t_re_secondName__p hH (by first | assumption | omega) (by first | assumption | omega) (by first | assumption | omega) _) ?_
        rintro _ _ ⟨rfl, z105, rfl, w105, v43⟩
        show Pl _ _ _ _ _ _ [iv z105, iv 4, .ref 876] _ _
        have K43 : True := trivial
        refine y_callV rfl rfl rfl (t_to_wrong__p hH 4 z105 ⟨by omega, by omega⟩ ⟨by omega, by omega⟩ _) ?_
        rintro _ T7 ⟨hHT7, w109, z108, rfl, w108, w106, f46, w107⟩
        have hFT7 : FR md_re_tellValues__p S T7 := FR.tr hF w109 rfl
        show Pl _ _ _ _ _ _ [iv z108] _ _
        have Y46 : FTO S T7 4 (if tV5 S = -1 then (bA (ty7 S) 0) else sn2 S) := by have t := f46 hf; first | (have u := K43; rw [if_neg (by omega), ← v43]; exact t) | (rw [if_pos (by omega), gq5]; exact t)
        refine y_ireturn rfl (retI_z (by omega)) ?_
        have w110 : Xi T7 1 3 = Xi S 1 3 := (show Xi T7 1 3 = Xi S 1 3 from w109.x _ _ rfl)
        have w111 : Xi T7 5 4 = Xi S 5 4 := (show Xi T7 5 4 = Xi S 5 4 from w109.x _ _ rfl)
        have w112 : Xi T7 876 7 = Xi S 876 7 := (show Xi T7 876 7 = Xi S 876 7 from w109.x _ _ rfl)
        have w113 : Xi T7 890 3 = Xi S 890 3 := (show Xi T7 890 3 = Xi S 890 3 from w109.x _ _ rfl)
        have w114 : Xi T7 891 9 = Xi S 891 9 := (show Xi T7 891 9 = Xi S 891 9 from w109.x _ _ rfl)
        exact ⟨hHT7, hFT7, _, rfl, ⟨by omega, by omega⟩, (by first | (have t := K169; exact ⟨fun q => absurd q (by omega), fun _ q => absurd s119 q, fun _ _ => tls_yo L119.o, fun _ _ _ => ⟨by omega, by omega, by have t := M119.o; rw [b169] at t; exact t, by omega, O119.o, by have t := A119.o; rw [b169, t119] at t; exact t⟩⟩) | (have t := K103; have l := F109.o.2 (by have u := cR_l (T := ty7 S) (v := v3) (b := Xi S 876 7 - 1) (by omega) (by omega) (by have t := B83.o; rw [G60.o.t] at t; exact t); have w := o60; unfold nV5; omega); exact ⟨fun q => absurd q (by omega), fun _ q => absurd s60 q, fun _ _ => F109.o.1, fun _ _ q => absurd q l⟩) | (have t := K43; exact ⟨fun q => absurd q (by omega), fun _ _ => ⟨by omega, by have u := Y46; rw [if_neg (by omega)] at u; exact u⟩, fun _ q => absurd q (by omega), fun _ q => absurd q (by omega)⟩) | exact ⟨fun _ => ⟨by omega, by have u := Y46; rw [if_pos (by omega)] at u; exact u⟩, fun q => absurd (by omega) q, fun q => absurd (by omega) q, fun q => absurd (by omega) q⟩)⟩
      · exfalso; omega
end
