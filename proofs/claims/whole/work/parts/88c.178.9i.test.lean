section
/-! tests of the class: one test -/
def bpP (S : sS) (a : Int) : Prop := ty7 S a = 2 ∧ ty7 S (a + 1) = 100 ∧ ty7 S (re7 (ty7 S) (a + 1)) = 7
def isP (S : sS) (a b : Int) : Int := fo7 (ty7 S) 4 a b
def wJ (S : sS) (a b : Int) : Int := isP S a b + 1 + ntT S (isP S a b)
def plS (S : sS) (a b : Int) (t m : Int) : Prop := ty7 S (wJ S a b) ≠ 100 ∧ t = wyC (ty7 S (wJ S a b)) ∧ m = whoC S (plR S (wJ S a b)) b
def TSY (S : sS) (a b now : Int) (f n w h t g m : Int) : Prop :=
  (isP S a b = -1 ∧ cnS S a b (b - a).toNat = 1 ∧ f = 6 ∧ n = 0 ∧ w = whoC S a (psS S a b (b - a).toNat) ∧ h = rs7 S (psS S a b (b - a).toNat) ∧ t = 0 ∧ g = 0 ∧ m = whoC S (psS S a b (b - a).toNat + 1) b) ∨
  (isP S a b ≠ -1 ∧ bpP S a ∧ PTY S a (isP S a b) (Xi S 876 7 - 1) f n w h t g ∧ m = -1) ∨
  (isP S a b ≠ -1 ∧ ¬ bpP S a ∧ w = whoC S a b ∧ w ≠ -1 ∧ n = ntT S (isP S a b) ∧ g = 0 ∧
    ((plS S a b t m ∧ f = 5 ∧ h = -1 ∧ m ≠ -1) ∨
     (ty7 S (wJ S a b) = 100 ∧ raF S (whkC S a b) (wJ S a b) b (1 - n) (1 - now) = 1 ∧ f = (if rlF S (whkC S a b) (wJ S a b) b (1 - n) = -1 then 0 else 1) ∧ h = (if rlF S (whkC S a b) (wJ S a b) b (1 - n) = -1 then mnV S (wJ S a b) b % 256 else rlF S (whkC S a b) (wJ S a b) b (1 - n)) ∧ t = mnV S (wJ S a b) b % 256 ∧ m = -1)))
def TSN (S : sS) (a b now : Int) (c r : Int) : Prop :=
  (isP S a b = -1 ∧ cnS S a b (b - a).toNat ≠ 1 ∧ c = (if cnS S a b (b - a).toNat = 0 then 4 else 7) ∧ r = a) ∨
  (isP S a b ≠ -1 ∧ bpP S a ∧ PTN S a (isP S a b) (Xi S 876 7 - 1) c r) ∨
  (isP S a b ≠ -1 ∧ ¬ bpP S a ∧ whoC S a b = -1 ∧ c = 4 ∧ r = whrC S a) ∨
  (isP S a b ≠ -1 ∧ ¬ bpP S a ∧ whoC S a b ≠ -1 ∧ ty7 S (wJ S a b) ≠ 100 ∧ whoC S (plR S (wJ S a b)) b = -1 ∧ c = 4 ∧ r = whrC S (plR S (wJ S a b))) ∨
  (isP S a b ≠ -1 ∧ ¬ bpP S a ∧ whoC S a b ≠ -1 ∧ ty7 S (wJ S a b) = 100 ∧ raF S (whkC S a b) (wJ S a b) b (1 - ntT S (isP S a b)) (1 - now) ≠ 1 ∧ c = (if raF S (whkC S a b) (wJ S a b) b (1 - ntT S (isP S a b)) (1 - now) = 0 then 4 else 7) ∧ r = wJ S a b)
def TSO (S S1 : sS) (cl : Nat) (a b now z : Int) : Prop := KCL S S1 cl ∧ (z = 1 → Xi S1 876 8 = 0 ∧ ∃ f n w h t g m : Int, TSY S a b now f n w h t g m ∧ CLM S1 cl f n w h t g m) ∧ (z = 0 → ∃ c r : Int, TSN S a b now c r ∧ FTO S S1 c r)
theorem tso_s {S S1 : sS} {cl : Nat} {a b now z f0 : Int} (hf : Xi S 876 8 = 0) (hi : isP S a b = -1) (c : CLM S cl f0 0 (-1) (-1) 0 0 (-1)) (k1 : Xi S1 (276 + cl) 1 = Xi S (276 + cl) 1) (k4 : Xi S1 (276 + cl) 4 = Xi S (276 + cl) 4) (k5 : Xi S1 (276 + cl) 5 = Xi S (276 + cl) 5) (o : SYO S S1 cl a b z) : TSO S S1 cl a b now z := by
  refine ⟨o.2.1, fun hz => ?_, fun hz => ?_⟩
  · by_cases q : cnS S a b (b - a).toNat = 1
    · have u := (o.2.2.2 q).2
      have s := (u.2.2.2.2.2.2 (by omega)).2.2.2
      exact ⟨u.1.trans hf, _, _, _, _, _, _, _, Or.inl ⟨hi, q, o.1, k1.trans c.2.1, s.2.1, s.1, k4.trans c.2.2.2.2.1, k5.trans c.2.2.2.2.2.1, s.2.2⟩, rfl, rfl, rfl, rfl, rfl, rfl, rfl⟩
    · have u := (o.2.2.1 q).1
      omega
  · by_cases q : cnS S a b (b - a).toNat = 1
    · have u := (o.2.2.2 q).1
      omega
    · exact ⟨_, _, Or.inl ⟨hi, q, rfl, rfl⟩, (o.2.2.1 q).2⟩
theorem tso_p {S S1 : sS} {cl : Nat} {a b now z i l f0 : Int} (hf : Xi S 876 8 = 0) (hi : i = isP S a b) (h1 : i ≠ -1) (hl : l = Xi S 876 7 - 1) (hb : bpP S a) (c : CLM S cl f0 0 (-1) (-1) 0 0 (-1)) (o : PTO S S1 cl a i l z) : TSO S S1 cl a b now z := by
  subst hi
  subst hl
  refine ⟨o.1, fun hz => ?_, fun hz => ?_⟩
  · obtain ⟨e, f, n, w, h, t, g, p, m⟩ := o.2.1 hz
    rw [c.2.2.2.2.2.2] at m
    exact ⟨e.trans hf, f, n, w, h, t, g, -1, Or.inr (Or.inl ⟨h1, hb, p, rfl⟩), m⟩
  · obtain ⟨x, r, p, q⟩ := o.2.2 hz
    exact ⟨x, r, Or.inr (Or.inl ⟨h1, hb, p⟩), q hf⟩
theorem whoC_F {l : List rec} {S P : sS} (h : FR l S P) (e1 : (kdis l [(877, 878)] && !(mdf l 876 7)) = true) (e2 : (kdis l kA && !(mdf l 1 3)) = true) (e3 : mdf l 895 3 = false) (e4 : mdf l 895 4 = false) (a b : Int) : whoC P a b = whoC S a b := by
  have t := ty7_F h e1
  have r : ∀ x y, ruF P x y = ruF S x y := fun _ _ => ruF_FR h e1
  have f : ∀ s x y, fnd P s x y = fnd S s x y := fun _ _ _ => fnd_FR h e2
  unfold whoC
  rw [t, r, f, h.x 895 3 e3, h.x 895 4 e4]
theorem whrC_F {l : List rec} {S P : sS} (h : FR l S P) (e1 : (kdis l [(877, 878)] && !(mdf l 876 7)) = true) (a : Int) : whrC P a = whrC S a := by
  unfold whrC
  rw [ty7_F h e1]
theorem plR_F {l : List rec} {S P : sS} (h : FR l S P) (e1 : (kdis l [(877, 878)] && !(mdf l 876 7)) = true) (a : Int) : plR P a = plR S a := by
  unfold plR
  rw [ty7_F h e1]
/-- what stands before the last part of a test -/
def TMD (S T : sS) (cl : Nat) (a b : Int) : Prop := KCL S T cl ∧ isP S a b ≠ -1 ∧ ¬ bpP S a ∧ whoC S a b ≠ -1 ∧ Xi T (276 + cl) 1 = ntT S (isP S a b) ∧ Xi T (276 + cl) 2 = whoC S a b ∧ Xi T (276 + cl) 3 = -1 ∧ Xi T (276 + cl) 4 = 0 ∧ Xi T (276 + cl) 5 = 0 ∧ Xi T (276 + cl) 6 = -1 ∧ Xi T 895 6 = whkC S a b ∧ Xi T 876 8 = 0
theorem tso_l {l : List rec} {S P U : sS} {cl : Nat} {a b w now z : Int} (t : TMD S P cl a b) (h : FR l S P) (e1 : (kdis l [(877, 878)] && !(mdf l 876 7)) = true) (e2 : (kdis l kA && !(mdf l 1 3)) = true) (e3 : mdf l 895 3 = false) (e4 : mdf l 895 4 = false) (e5 : kdis l [(878, 879)] = true) (e6 : mdf l 876 7 = false) (e7 : mdf l 876 5 = false) (hw : w = wJ S a b) (hy : ty7 S w ≠ 100) (k1 : Xi U (276 + cl) 1 = Xi P (276 + cl) 1) (k2 : Xi U (276 + cl) 2 = Xi P (276 + cl) 2) (k3 : Xi U (276 + cl) 3 = Xi P (276 + cl) 3) (k5 : Xi U (276 + cl) 5 = Xi P (276 + cl) 5) (o : PLT P U cl w b z) : TSO S U cl a b now z := by
  subst hw
  obtain ⟨t0, t1, t2, t3, t4, t5, t6, t7, t8, t9, ta, tb⟩ := t
  unfold PLT at o
  rw [ty7_F h e1, plR_F h e1, whoC_F h e1 e2 e3 e4, whrC_F h e1] at o
  obtain ⟨o0, o1, o2, o3, o4, o5⟩ := o
  refine ⟨kcl_tr t0 o0, fun hz => ?_, fun hz => ?_⟩
  · by_cases q : whoC S (plR S (wJ S a b)) b = -1
    · have := (o4 q).1
      omega
    · exact ⟨(o5 q).2.trans tb, _, _, _, _, _, _, _, Or.inr (Or.inr ⟨t1, t2, k2.trans t5, by rw [k2, t5]; exact t3, k1.trans t4, k5.trans t8, Or.inl ⟨⟨hy, o2, o3⟩, o1, k3.trans t6, by rw [o3]; exact q⟩⟩), rfl, rfl, rfl, rfl, rfl, rfl, rfl⟩
  · by_cases q : whoC S (plR S (wJ S a b)) b = -1
    · have f := (o4 q).2 tb
      exact ⟨_, _, Or.inr (Or.inr (Or.inr (Or.inl ⟨t1, t2, t3, hy, q, rfl, rfl⟩))), f.1, f.2.trans (pc7_FR h e5 e6 e7 _)⟩
    · have := (o5 q).1
      omega
theorem tso_n {S P U : sS} {cl : Nat} {a b w now z r c v d : Int} (t : TMD S P cl a b) (kk : KCL P U cl) (hw : w = wJ S a b) (hy : ty7 S w = 100) (hr : r = raF S (whkC S a b) w b v d) (hv : v = 1 - ntT S (isP S a b)) (hd : d = 1 - now) (h1 : r ≠ 1) (hc : (r = 0 ∧ c = 4) ∨ (r ≠ 0 ∧ c = 7)) (hz : z = 0) (f : FTO S U c w) : TSO S U cl a b now z := by
  subst hw hv hd
  obtain ⟨t0, t1, t2, t3, _⟩ := t
  refine ⟨kcl_tr t0 kk, fun q => absurd q (by omega), fun _ => ⟨_, _, Or.inr (Or.inr (Or.inr (Or.inr ⟨t1, t2, t3, hy, by rw [← hr]; exact h1, ?_, rfl⟩))), f⟩⟩
  rw [← hr]
  rcases hc with q | q
  · rw [if_pos q.1]; exact q.2
  · rw [if_neg q.1]; exact q.2
theorem tso_a {S P Q U : sS} {cl : Nat} {a b w now z r v d m p : Int} (t : TMD S P cl a b) (kk : KCL P Q cl) (kj : ∀ j, Xi Q (276 + cl) j = Xi P (276 + cl) j) (hw : w = wJ S a b) (hy : ty7 S w = 100) (hr : r = raF S (whkC S a b) w b v d) (hv : v = 1 - ntT S (isP S a b)) (hd : d = 1 - now) (h1 : r = 1) (hm : m = mnV S w b % 256) (hp : p = rlF S (whkC S a b) w b v) (n : NAD Q U cl m p) (k1 : Xi U (276 + cl) 1 = Xi Q (276 + cl) 1) (k2 : Xi U (276 + cl) 2 = Xi Q (276 + cl) 2) (k5 : Xi U (276 + cl) 5 = Xi Q (276 + cl) 5) (k6 : Xi U (276 + cl) 6 = Xi Q (276 + cl) 6) (h8 : Xi U 876 8 = Xi P 876 8) (hz : z = 1) : TSO S U cl a b now z := by
  subst hw hv hd
  obtain ⟨t0, t1, t2, t3, t4, t5, t6, t7, t8, t9, ta, tb⟩ := t
  have f1 : Xi U (276 + cl) 1 = ntT S (isP S a b) := (k1.trans (kj 1)).trans t4
  refine ⟨kcl_tr (kcl_tr t0 kk) n.1, fun _ => ⟨h8.trans tb, _, _, _, _, _, _, _, Or.inr (Or.inr ⟨t1, t2, (k2.trans (kj 2)).trans t5, by rw [k2, kj, t5]; exact t3, f1, (k5.trans (kj 5)).trans t8, Or.inr ⟨hy, ?_, ?_, ?_, n.2.2.2.trans hm, (k6.trans (kj 6)).trans t9⟩⟩), rfl, rfl, rfl, rfl, rfl, rfl, rfl⟩, fun q => absurd q (by omega)⟩
  · rw [f1, ← hr]; exact h1
  · rw [f1, ← hp]; exact n.2.1
  · rw [f1, ← hp, ← hm]; exact n.2.2.1
theorem tso_w {S U : sS} {cl : Nat} {a b now z : Int} (kk : KCL S U cl) (h1 : isP S a b ≠ -1) (hb : ¬ bpP S a) (hw : whoC S a b = -1) (hz : z = 0) (f : FTO S U 4 (whrC S a)) : TSO S U cl a b now z :=
  ⟨kk, fun q => absurd q (by omega), fun _ => ⟨_, _, Or.inr (Or.inr (Or.inl ⟨h1, hb, hw, rfl, rfl⟩)), f⟩⟩
theorem ntT_b {S : sS} {i : Int} : ntT S i = 0 ∨ ntT S i = 1 := by unfold ntT; split <;> omega

def md_rr_test__p : List rec := [(276, 876, 0, 1), (276, 876, 1, 2), (276, 876, 2, 3), (276, 876, 3, 4), (276, 876, 4, 5), (276, 876, 5, 6), (276, 876, 6, 7), (876, 877, 8, 9), (876, 877, 9, 10), (895, 896, 5, 6), (895, 896, 6, 7), (895, 896, 7, 8), (895, 896, 8, 9), (895, 896, 9, 10), (895, 896, 10, 11), (895, 896, 11, 12)]
abbrev Q_rr_test__p (S : sS) (from_ : Int) (to : Int) (cl : Nat) (now : Int) : pst := fun r S1 => RI S1 ∧ FR md_rr_test__p S S1 ∧ (∃ z : Int, r = some (iv z) ∧ (0 ≤ z ∧ z ≤ 1) ∧ (TSO S S1 cl from_ to now z))
set_option maxRecDepth 100000 in
theorem t_rr_test__p {S : sS} (hH : RI S) (from_ : Int) (to : Int) (cl : Nat) (now : Int) (hfrom_ : 0 ≤ from_ ∧ from_ ≤ 5120) (hto : 0 ≤ to ∧ to ≤ 5120) (hcl : cl < 600) (hnow : 0 ≤ now ∧ now ≤ 1) (h13 : 0 ≤ Xi S 1 3 ∧ Xi S 1 3 ≤ 200) (hCE : CEN S) (hf : Xi S 876 8 = 0) (hr : Xi S 876 7 ≤ 5130) (h7 : 0 ≤ Xi S 876 7) (hT : TOK S) (hS : SRX S) (hnv : Hid (NVL S)) (hpl : Hid (∀ j : Nat, 0 ≤ Xi S 878 j)) (h5 : Xi S 876 5 ≤ 5000) (hft : from_ ≤ to) (hib : (isP S from_ to) = -1 ∨ (0 ≤ (isP S from_ to) ∧ (isP S from_ to) ≤ 5110)) (hnm : Hid (numT S (isP S from_ to) = 1 → (isP S from_ to) + 3 < Xi S 876 7 ∧ 0 ≤ Xj S 879 ((isP S from_ to) + 3).toNat ∧ Xj S 879 ((isP S from_ to) + 3).toNat ≤ 2147483647)) (hclm : Hid (∃ f0 : Int, CLM S cl f0 0 (-1) (-1) 0 0 (-1))) (d : Nat) : Mp lay0 (d + 5) m_rr_test [.ref 899, iv from_, iv to, .ref (276 + cl), iv now] S (Q_rr_test__p S from_ to cl now) := by
  refine Mp_R rfl rfl (fun fu => ?_)
  have hF : FR md_rr_test__p S S := FR.rf
  have w1 : -2147483648 ≤ Xi S 1 3 ∧ Xi S 1 3 ≤ 2147483647 := Xi_rgI
  have w2 : -2147483648 ≤ Xi S 876 5 ∧ Xi S 876 5 ≤ 2147483647 := Xi_rgI
  have w3 : -2147483648 ≤ Xi S 876 7 ∧ Xi S 876 7 ≤ 2147483647 := Xi_rgI
  have w4 : -2147483648 ≤ Xi S 876 8 ∧ Xi S 876 8 ≤ 2147483647 := Xi_rgI
  have C139 : ∀  (T1 : sS) (_ : RI T1) (_ : FR md_rr_test__p S T1) (v6 : Int), (0 ≤ v6 ∧ v6 ≤ 5120) → (v6 = (wJ S from_ to)) → (0 ≤ v6 ∧ v6 ≤ 5120) → (Hid (TMD S T1 cl from_ to)) → Pl fu lay0 (d + 4) m_rr_test 139 [(0, .ref 899), (2, iv to), (3, .ref (276 + cl)), (4, iv now), (6, iv v6)] [] T1 (Q_rr_test__p S from_ to cl now) := by
    intro T1 hHT1 hFT1 v6 w5 Wj139 w6 A139
    have w7 : Xi T1 1 3 = Xi S 1 3 := hFT1.x _ _ rfl
    have w8 : Xi T1 5 3 = Xi S 5 3 := hFT1.x _ _ rfl
    have w9 : Xi T1 876 5 = Xi S 876 5 := hFT1.x _ _ rfl
    have w10 : Xi T1 876 7 = Xi S 876 7 := hFT1.x _ _ rfl
    have w11 : Xi T1 895 4 = Xi S 895 4 := hFT1.x _ _ rfl
    have w12 : -2147483648 ≤ Xi T1 876 8 ∧ Xi T1 876 8 ≤ 2147483647 := Xi_rgI
    refine y_aload_n rfl rfl ?_
    refine y_gfr rfl rfl rfl rfl rfl (hHT1.r 899 0 876 rfl) ?_
    refine y_iload rfl rfl ?_
    refine y_callV rfl rfl rfl (t_to_typeAt__p hHT1 v6 ⟨by omega, by omega⟩ _) ?_
    rintro _ _ ⟨rfl, z15, rfl, w15, w13, w14⟩
    show Pl _ _ _ _ _ _ [iv z15] _ _
    have gq145 := w13
    rw [FRT hFT1 rfl rfl] at gq145
    clear w13
    refine y_bipush rfl rfl ?_
    refine y_icmp_eq rfl rfl (by unfold rg; omega) (by unfold rg; omega) (fun w16 => ?_) (fun w17 => ?_)
    · refine y_aload_n rfl rfl ?_
      refine y_gfr rfl rfl rfl rfl rfl (hHT1.r 899 2 895 rfl) ?_
      refine y_aload_n rfl rfl ?_
      refine y_gfr rfl rfl rfl rfl rfl (hHT1.r 899 2 895 rfl) ?_
      refine y_gfi rfl rfl rfl rfl rfl ?_
      have w18 : -2147483648 ≤ (Xi T1 895 6) ∧ (Xi T1 895 6) ≤ 2147483647 := Xi_rgI
      refine y_iload rfl rfl ?_
      refine y_iload_n rfl rfl ?_
      refine y_aload_n rfl rfl ?_
      refine y_gfi rfl rfl rfl (layCl (by omega)) rfl ?_
      have w19 : -2147483648 ≤ (Xi T1 (276 + cl) 1) ∧ (Xi T1 (276 + cl) 1) ≤ 2147483647 := Xi_rgI
      refine y_if_ne rfl rfl (by unfold rg; omega) (fun w20 => ?_) (fun w21 => ?_)
      · refine y_iconst rfl ?_
        refine y_iload rfl rfl ?_
        refine y_if_ne rfl rfl (by unfold rg; omega) (fun w22 => ?_) (fun w23 => ?_)
        · refine y_iconst rfl ?_
          refine y_callV rfl rfl rfl (t_me_readAdjective__p hHT1 (Xi T1 895 6) v6 to 0 0 ⟨by omega, by omega⟩ ⟨by omega, by omega⟩ ⟨by omega, by omega⟩ ⟨by omega, by omega⟩ ⟨by omega, by omega⟩ (by first | assumption | omega) (by first | assumption | exact (CEN_FR hFT1 rfl rfl (by assumption : CEN S))) _) ?_
          rintro _ T2 ⟨hHT2, w25, z24, rfl, w24, v198, m198_, p198_⟩
          have hFT2 : FR md_rr_test__p S T2 := FR.tr hFT1 w25 rfl
          show Pl _ _ _ _ _ _ [iv z24] _ _
          have F198 := (by assumption : FR md_me_readAdjective__p T1 T2)
          have a6 : Xi T1 895 6 = whkC S from_ to := A139.o.2.2.2.2.2.2.2.2.2.2.1
          have n6 : Xi T1 (276 + cl) 1 = (ntT S (isP S from_ to)) := A139.o.2.2.2.2.1
          have b6 := ntT_b (S := S) (i := (isP S from_ to))
          have r198 := v198
          rw [raF_FR hFT1 rfl, a6] at r198
          have m198 := m198_
          rw [mnV_FR hFT1 rfl] at m198
          have p198 := p198_
          rw [rlF_FR hFT1 rfl rfl rfl rfl, a6] at p198
          have c198 : KCL T1 T2 cl := kcl_f F198 rfl KCL.rf
          have j198 : ∀ j, Xi T2 (276 + cl) j = Xi T1 (276 + cl) j := cl_keep F198 rfl hcl
          have z198 : Xi T2 876 8 = 0 := (F198.x 876 8 rfl).trans A139.o.2.2.2.2.2.2.2.2.2.2.2
          clear v198 m198_ p198_
          refine y_istore rfl rfl rfl ?_
          refine y_iload rfl rfl ?_
          refine y_iconst rfl ?_
          refine y_icmp_eq rfl rfl (by unfold rg; omega) (by unfold rg; omega) (fun w26 => ?_) (fun w27 => ?_)
          · refine y_aload_n rfl rfl ?_
            refine y_aload_n rfl rfl ?_
            refine y_gfr rfl rfl rfl rfl rfl (hHT2.r 899 2 895 rfl) ?_
            refine y_gfi rfl rfl rfl rfl rfl ?_
            have w28 : -2147483648 ≤ (Xi T2 895 8) ∧ (Xi T2 895 8) ≤ 2147483647 := Xi_rgI
            refine y_aload_n rfl rfl ?_
            refine y_gfr rfl rfl rfl rfl rfl (hHT2.r 899 2 895 rfl) ?_
            refine y_gfi rfl rfl rfl rfl rfl ?_
            have w29 : -2147483648 ≤ (Xi T2 895 9) ∧ (Xi T2 895 9) ≤ 2147483647 := Xi_rgI
            have w30 : Xi T2 876 8 = Xi T1 876 8 := (show Xi T2 876 8 = Xi T1 876 8 from w25.x _ _ rfl)
            refine y_callS rfl rfl (by decide) rfl (t_rr_nameAdjective__p hHT2 cl (Xi T2 895 8) (Xi T2 895 9) (by omega) ⟨by omega, by omega⟩ ⟨by omega, by omega⟩ _) ?_
            rintro _ T3 ⟨hHT3, w32, rfl, e245⟩
            have hFT3 : FR md_rr_test__p S T3 := FR.tr hFT2 w32 rfl
            show Pl _ _ _ _ _ _ [] _ _
            have K245 : True := trivial
            have F245 := (by assumption : FR md_rr_nameAdjective__p T2 T3)
            have h245 : Xi T3 876 8 = Xi T1 876 8 := (F245.x 876 8 rfl).trans (F198.x 876 8 rfl)
            refine y_iconst rfl ?_
            refine y_ireturn rfl rfl ?_
            have w33 : Xi T3 876 8 = Xi T1 876 8 := (show Xi T3 876 8 = Xi T2 876 8 from w32.x _ _ rfl).trans ((show Xi T2 876 8 = Xi T1 876 8 from w25.x _ _ rfl))
            exact ⟨hHT3, hFT3, _, rfl, ⟨by omega, by omega⟩, (by first | (have u := K245; exact tso_a A139.o c198 j198 Wj139 (by rw [gq145]; omega) r198 (by omega) (by omega) (by omega) m198 p198 e245 (FR_clj F245 rfl hcl) (FR_clj F245 rfl hcl) (FR_clj F245 rfl hcl) (FR_clj F245 rfl hcl) h245 rfl) | (have u := Y226; first | exact tso_n A139.o k226 Wj139 (by rw [gq145]; omega) r198 (by omega) (by omega) (by omega) (Or.inl ⟨by omega, rfl⟩) (by omega) Y226 | exact tso_n A139.o k226 Wj139 (by rw [gq145]; omega) r198 (by omega) (by omega) (by omega) (Or.inr ⟨by omega, rfl⟩) (by omega) Y226) | (have u := K158; exact tso_l A139.o hFT1 rfl rfl rfl rfl rfl rfl rfl Wj139 (by rw [gq145]; omega) (FR_clj F158 rfl hcl) (FR_clj F158 rfl hcl) (FR_clj F158 rfl hcl) (FR_clj F158 rfl hcl) o158) | (have u := Y79; exact tso_w k79 (by omega) b46 (by omega) (by omega) Y79) | (have u := K42; exact tso_p hf i7 (by omega) rfl b37 hclm.o.choose_spec o42) | exact tso_s hf (by omega) hclm.o.choose_spec (FR_clj F22 rfl hcl) (FR_clj F22 rfl hcl) (FR_clj F22 rfl hcl) o22)⟩
          · refine y_aload_n rfl rfl ?_
            refine y_gfr rfl rfl rfl rfl rfl (hHT2.r 899 0 876 rfl) ?_
            refine y_iload rfl rfl ?_
            refine y_if_ne rfl rfl (by unfold rg; omega) (fun w34 => ?_) (fun w35 => ?_)
            · refine y_bipush rfl rfl ?_
              refine y_iload rfl rfl ?_
              have w36 : Xi T2 876 8 = Xi T1 876 8 := (show Xi T2 876 8 = Xi T1 876 8 from w25.x _ _ rfl)
              have w37 : Xi T2 876 9 = Xi T1 876 9 := (show Xi T2 876 9 = Xi T1 876 9 from w25.x _ _ rfl)
              refine y_callV rfl rfl rfl (t_to_wrong__p hHT2 7 v6 ⟨by omega, by omega⟩ ⟨by omega, by omega⟩ _) ?_
              rintro _ T4 ⟨hHT4, w41, z40, rfl, w40, w38, f226, w39⟩
              have hFT4 : FR md_rr_test__p S T4 := FR.tr hFT2 w41 rfl
              show Pl _ _ _ _ _ _ [iv z40] _ _
              have F226 := (by assumption : FR md_to_wrong__p T2 T4)
              have k226 : KCL T1 T4 cl := kcl_f F226 rfl c198
              have Y226 : FTO S T4 _ v6 := (by have u := f226 z198; exact ⟨u.1, u.2.trans (pc7_FR hFT2 rfl rfl rfl _)⟩)
              refine y_ireturn rfl (retI_z (by omega)) ?_
              exact ⟨hHT4, hFT4, _, rfl, ⟨by omega, by omega⟩, (by first | (have u := K245; exact tso_a A139.o c198 j198 Wj139 (by rw [gq145]; omega) r198 (by omega) (by omega) (by omega) m198 p198 e245 (FR_clj F245 rfl hcl) (FR_clj F245 rfl hcl) (FR_clj F245 rfl hcl) (FR_clj F245 rfl hcl) h245 rfl) | (have u := Y226; first | exact tso_n A139.o k226 Wj139 (by rw [gq145]; omega) r198 (by omega) (by omega) (by omega) (Or.inl ⟨by omega, rfl⟩) (by omega) Y226 | exact tso_n A139.o k226 Wj139 (by rw [gq145]; omega) r198 (by omega) (by omega) (by omega) (Or.inr ⟨by omega, rfl⟩) (by omega) Y226) | (have u := K158; exact tso_l A139.o hFT1 rfl rfl rfl rfl rfl rfl rfl Wj139 (by rw [gq145]; omega) (FR_clj F158 rfl hcl) (FR_clj F158 rfl hcl) (FR_clj F158 rfl hcl) (FR_clj F158 rfl hcl) o158) | (have u := Y79; exact tso_w k79 (by omega) b46 (by omega) (by omega) Y79) | (have u := K42; exact tso_p hf i7 (by omega) rfl b37 hclm.o.choose_spec o42) | exact tso_s hf (by omega) hclm.o.choose_spec (FR_clj F22 rfl hcl) (FR_clj F22 rfl hcl) (FR_clj F22 rfl hcl) o22)⟩
            · refine y_iconst rfl ?_
              refine y_goto rfl rfl ?_
              refine y_iload rfl rfl ?_
              have w42 : Xi T2 876 8 = Xi T1 876 8 := (show Xi T2 876 8 = Xi T1 876 8 from w25.x _ _ rfl)
              have w43 : Xi T2 876 9 = Xi T1 876 9 := (show Xi T2 876 9 = Xi T1 876 9 from w25.x _ _ rfl)
              refine y_callV rfl rfl rfl (t_to_wrong__p hHT2 4 v6 ⟨by omega, by omega⟩ ⟨by omega, by omega⟩ _) ?_
              rintro _ T5 ⟨hHT5, w47, z46, rfl, w46, w44, f226, w45⟩
              have hFT5 : FR md_rr_test__p S T5 := FR.tr hFT2 w47 rfl
              show Pl _ _ _ _ _ _ [iv z46] _ _
              have F226 := (by assumption : FR md_to_wrong__p T2 T5)
              have k226 : KCL T1 T5 cl := kcl_f F226 rfl c198
              have Y226 : FTO S T5 _ v6 := (by have u := f226 z198; exact ⟨u.1, u.2.trans (pc7_FR hFT2 rfl rfl rfl _)⟩)
              refine y_ireturn rfl (retI_z (by omega)) ?_
              exact ⟨hHT5, hFT5, _, rfl, ⟨by omega, by omega⟩, (by first | (have u := K245; exact tso_a A139.o c198 j198 Wj139 (by rw [gq145]; omega) r198 (by omega) (by omega) (by omega) m198 p198 e245 (FR_clj F245 rfl hcl) (FR_clj F245 rfl hcl) (FR_clj F245 rfl hcl) (FR_clj F245 rfl hcl) h245 rfl) | (have u := Y226; first | exact tso_n A139.o k226 Wj139 (by rw [gq145]; omega) r198 (by omega) (by omega) (by omega) (Or.inl ⟨by omega, rfl⟩) (by omega) Y226 | exact tso_n A139.o k226 Wj139 (by rw [gq145]; omega) r198 (by omega) (by omega) (by omega) (Or.inr ⟨by omega, rfl⟩) (by omega) Y226) | (have u := K158; exact tso_l A139.o hFT1 rfl rfl rfl rfl rfl rfl rfl Wj139 (by rw [gq145]; omega) (FR_clj F158 rfl hcl) (FR_clj F158 rfl hcl) (FR_clj F158 rfl hcl) (FR_clj F158 rfl hcl) o158) | (have u := Y79; exact tso_w k79 (by omega) b46 (by omega) (by omega) Y79) | (have u := K42; exact tso_p hf i7 (by omega) rfl b37 hclm.o.choose_spec o42) | exact tso_s hf (by omega) hclm.o.choose_spec (FR_clj F22 rfl hcl) (FR_clj F22 rfl hcl) (FR_clj F22 rfl hcl) o22)⟩
        · refine y_iconst rfl ?_
          refine y_goto rfl rfl ?_
          refine y_callV rfl rfl rfl (t_me_readAdjective__p hHT1 (Xi T1 895 6) v6 to 0 1 ⟨by omega, by omega⟩ ⟨by omega, by omega⟩ ⟨by omega, by omega⟩ ⟨by omega, by omega⟩ ⟨by omega, by omega⟩ (by first | assumption | omega) (by first | assumption | exact (CEN_FR hFT1 rfl rfl (by assumption : CEN S))) _) ?_
          rintro _ T6 ⟨hHT6, w49, z48, rfl, w48, v198, m198_, p198_⟩
          have hFT6 : FR md_rr_test__p S T6 := FR.tr hFT1 w49 rfl
          show Pl _ _ _ _ _ _ [iv z48] _ _
          have F198 := (by assumption : FR md_me_readAdjective__p T1 T6)
          have a6 : Xi T1 895 6 = whkC S from_ to := A139.o.2.2.2.2.2.2.2.2.2.2.1
          have n6 : Xi T1 (276 + cl) 1 = (ntT S (isP S from_ to)) := A139.o.2.2.2.2.1
          have b6 := ntT_b (S := S) (i := (isP S from_ to))
          have r198 := v198
          rw [raF_FR hFT1 rfl, a6] at r198
          have m198 := m198_
          rw [mnV_FR hFT1 rfl] at m198
          have p198 := p198_
          rw [rlF_FR hFT1 rfl rfl rfl rfl, a6] at p198
          have c198 : KCL T1 T6 cl := kcl_f F198 rfl KCL.rf
          have j198 : ∀ j, Xi T6 (276 + cl) j = Xi T1 (276 + cl) j := cl_keep F198 rfl hcl
          have z198 : Xi T6 876 8 = 0 := (F198.x 876 8 rfl).trans A139.o.2.2.2.2.2.2.2.2.2.2.2
          clear v198 m198_ p198_
          refine y_istore rfl rfl rfl ?_
          refine y_iload rfl rfl ?_
          refine y_iconst rfl ?_
          refine y_icmp_eq rfl rfl (by unfold rg; omega) (by unfold rg; omega) (fun w50 => ?_) (fun w51 => ?_)
          · refine y_aload_n rfl rfl ?_
            refine y_aload_n rfl rfl ?_
            refine y_gfr rfl rfl rfl rfl rfl (hHT6.r 899 2 895 rfl) ?_
            refine y_gfi rfl rfl rfl rfl rfl ?_
            have w52 : -2147483648 ≤ (Xi T6 895 8) ∧ (Xi T6 895 8) ≤ 2147483647 := Xi_rgI
            refine y_aload_n rfl rfl ?_
            refine y_gfr rfl rfl rfl rfl rfl (hHT6.r 899 2 895 rfl) ?_
            refine y_gfi rfl rfl rfl rfl rfl ?_
            have w53 : -2147483648 ≤ (Xi T6 895 9) ∧ (Xi T6 895 9) ≤ 2147483647 := Xi_rgI
            have w54 : Xi T6 876 8 = Xi T1 876 8 := (show Xi T6 876 8 = Xi T1 876 8 from w49.x _ _ rfl)
            refine y_callS rfl rfl (by decide) rfl (t_rr_nameAdjective__p hHT6 cl (Xi T6 895 8) (Xi T6 895 9) (by omega) ⟨by omega, by omega⟩ ⟨by omega, by omega⟩ _) ?_
            rintro _ T7 ⟨hHT7, w56, rfl, e245⟩
            have hFT7 : FR md_rr_test__p S T7 := FR.tr hFT6 w56 rfl
            show Pl _ _ _ _ _ _ [] _ _
            have K245 : True := trivial
            have F245 := (by assumption : FR md_rr_nameAdjective__p T6 T7)
            have h245 : Xi T7 876 8 = Xi T1 876 8 := (F245.x 876 8 rfl).trans (F198.x 876 8 rfl)
            refine y_iconst rfl ?_
            refine y_ireturn rfl rfl ?_
            have w57 : Xi T7 876 8 = Xi T1 876 8 := (show Xi T7 876 8 = Xi T6 876 8 from w56.x _ _ rfl).trans ((show Xi T6 876 8 = Xi T1 876 8 from w49.x _ _ rfl))
            exact ⟨hHT7, hFT7, _, rfl, ⟨by omega, by omega⟩, (by first | (have u := K245; exact tso_a A139.o c198 j198 Wj139 (by rw [gq145]; omega) r198 (by omega) (by omega) (by omega) m198 p198 e245 (FR_clj F245 rfl hcl) (FR_clj F245 rfl hcl) (FR_clj F245 rfl hcl) (FR_clj F245 rfl hcl) h245 rfl) | (have u := Y226; first | exact tso_n A139.o k226 Wj139 (by rw [gq145]; omega) r198 (by omega) (by omega) (by omega) (Or.inl ⟨by omega, rfl⟩) (by omega) Y226 | exact tso_n A139.o k226 Wj139 (by rw [gq145]; omega) r198 (by omega) (by omega) (by omega) (Or.inr ⟨by omega, rfl⟩) (by omega) Y226) | (have u := K158; exact tso_l A139.o hFT1 rfl rfl rfl rfl rfl rfl rfl Wj139 (by rw [gq145]; omega) (FR_clj F158 rfl hcl) (FR_clj F158 rfl hcl) (FR_clj F158 rfl hcl) (FR_clj F158 rfl hcl) o158) | (have u := Y79; exact tso_w k79 (by omega) b46 (by omega) (by omega) Y79) | (have u := K42; exact tso_p hf i7 (by omega) rfl b37 hclm.o.choose_spec o42) | exact tso_s hf (by omega) hclm.o.choose_spec (FR_clj F22 rfl hcl) (FR_clj F22 rfl hcl) (FR_clj F22 rfl hcl) o22)⟩
          · refine y_aload_n rfl rfl ?_
            refine y_gfr rfl rfl rfl rfl rfl (hHT6.r 899 0 876 rfl) ?_
            refine y_iload rfl rfl ?_
            refine y_if_ne rfl rfl (by unfold rg; omega) (fun w58 => ?_) (fun w59 => ?_)
            · refine y_bipush rfl rfl ?_
              refine y_iload rfl rfl ?_
              have w60 : Xi T6 876 8 = Xi T1 876 8 := (show Xi T6 876 8 = Xi T1 876 8 from w49.x _ _ rfl)
              have w61 : Xi T6 876 9 = Xi T1 876 9 := (show Xi T6 876 9 = Xi T1 876 9 from w49.x _ _ rfl)
              refine y_callV rfl rfl rfl (t_to_wrong__p hHT6 7 v6 ⟨by omega, by omega⟩ ⟨by omega, by omega⟩ _) ?_
              rintro _ T8 ⟨hHT8, w65, z64, rfl, w64, w62, f226, w63⟩
              have hFT8 : FR md_rr_test__p S T8 := FR.tr hFT6 w65 rfl
              show Pl _ _ _ _ _ _ [iv z64] _ _
              have F226 := (by assumption : FR md_to_wrong__p T6 T8)
              have k226 : KCL T1 T8 cl := kcl_f F226 rfl c198
              have Y226 : FTO S T8 _ v6 := (by have u := f226 z198; exact ⟨u.1, u.2.trans (pc7_FR hFT6 rfl rfl rfl _)⟩)
              refine y_ireturn rfl (retI_z (by omega)) ?_
              exact ⟨hHT8, hFT8, _, rfl, ⟨by omega, by omega⟩, (by first | (have u := K245; exact tso_a A139.o c198 j198 Wj139 (by rw [gq145]; omega) r198 (by omega) (by omega) (by omega) m198 p198 e245 (FR_clj F245 rfl hcl) (FR_clj F245 rfl hcl) (FR_clj F245 rfl hcl) (FR_clj F245 rfl hcl) h245 rfl) | (have u := Y226; first | exact tso_n A139.o k226 Wj139 (by rw [gq145]; omega) r198 (by omega) (by omega) (by omega) (Or.inl ⟨by omega, rfl⟩) (by omega) Y226 | exact tso_n A139.o k226 Wj139 (by rw [gq145]; omega) r198 (by omega) (by omega) (by omega) (Or.inr ⟨by omega, rfl⟩) (by omega) Y226) | (have u := K158; exact tso_l A139.o hFT1 rfl rfl rfl rfl rfl rfl rfl Wj139 (by rw [gq145]; omega) (FR_clj F158 rfl hcl) (FR_clj F158 rfl hcl) (FR_clj F158 rfl hcl) (FR_clj F158 rfl hcl) o158) | (have u := Y79; exact tso_w k79 (by omega) b46 (by omega) (by omega) Y79) | (have u := K42; exact tso_p hf i7 (by omega) rfl b37 hclm.o.choose_spec o42) | exact tso_s hf (by omega) hclm.o.choose_spec (FR_clj F22 rfl hcl) (FR_clj F22 rfl hcl) (FR_clj F22 rfl hcl) o22)⟩
            · refine y_iconst rfl ?_
              refine y_goto rfl rfl ?_
              refine y_iload rfl rfl ?_
              have w66 : Xi T6 876 8 = Xi T1 876 8 := (show Xi T6 876 8 = Xi T1 876 8 from w49.x _ _ rfl)
              have w67 : Xi T6 876 9 = Xi T1 876 9 := (show Xi T6 876 9 = Xi T1 876 9 from w49.x _ _ rfl)
              refine y_callV rfl rfl rfl (t_to_wrong__p hHT6 4 v6 ⟨by omega, by omega⟩ ⟨by omega, by omega⟩ _) ?_
              rintro _ T9 ⟨hHT9, w71, z70, rfl, w70, w68, f226, w69⟩
              have hFT9 : FR md_rr_test__p S T9 := FR.tr hFT6 w71 rfl
              show Pl _ _ _ _ _ _ [iv z70] _ _
              have F226 := (by assumption : FR md_to_wrong__p T6 T9)
              have k226 : KCL T1 T9 cl := kcl_f F226 rfl c198
              have Y226 : FTO S T9 _ v6 := (by have u := f226 z198; exact ⟨u.1, u.2.trans (pc7_FR hFT6 rfl rfl rfl _)⟩)
              refine y_ireturn rfl (retI_z (by omega)) ?_
              exact ⟨hHT9, hFT9, _, rfl, ⟨by omega, by omega⟩, (by first | (have u := K245; exact tso_a A139.o c198 j198 Wj139 (by rw [gq145]; omega) r198 (by omega) (by omega) (by omega) m198 p198 e245 (FR_clj F245 rfl hcl) (FR_clj F245 rfl hcl) (FR_clj F245 rfl hcl) (FR_clj F245 rfl hcl) h245 rfl) | (have u := Y226; first | exact tso_n A139.o k226 Wj139 (by rw [gq145]; omega) r198 (by omega) (by omega) (by omega) (Or.inl ⟨by omega, rfl⟩) (by omega) Y226 | exact tso_n A139.o k226 Wj139 (by rw [gq145]; omega) r198 (by omega) (by omega) (by omega) (Or.inr ⟨by omega, rfl⟩) (by omega) Y226) | (have u := K158; exact tso_l A139.o hFT1 rfl rfl rfl rfl rfl rfl rfl Wj139 (by rw [gq145]; omega) (FR_clj F158 rfl hcl) (FR_clj F158 rfl hcl) (FR_clj F158 rfl hcl) (FR_clj F158 rfl hcl) o158) | (have u := Y79; exact tso_w k79 (by omega) b46 (by omega) (by omega) Y79) | (have u := K42; exact tso_p hf i7 (by omega) rfl b37 hclm.o.choose_spec o42) | exact tso_s hf (by omega) hclm.o.choose_spec (FR_clj F22 rfl hcl) (FR_clj F22 rfl hcl) (FR_clj F22 rfl hcl) o22)⟩
      · refine y_iconst rfl ?_
        refine y_goto rfl rfl ?_
        refine y_iload rfl rfl ?_
        refine y_if_ne rfl rfl (by unfold rg; omega) (fun w72 => ?_) (fun w73 => ?_)
        · refine y_iconst rfl ?_
          refine y_callV rfl rfl rfl (t_me_readAdjective__p hHT1 (Xi T1 895 6) v6 to 1 0 ⟨by omega, by omega⟩ ⟨by omega, by omega⟩ ⟨by omega, by omega⟩ ⟨by omega, by omega⟩ ⟨by omega, by omega⟩ (by first | assumption | omega) (by first | assumption | exact (CEN_FR hFT1 rfl rfl (by assumption : CEN S))) _) ?_
          rintro _ T10 ⟨hHT10, w75, z74, rfl, w74, v198, m198_, p198_⟩
          have hFT10 : FR md_rr_test__p S T10 := FR.tr hFT1 w75 rfl
          show Pl _ _ _ _ _ _ [iv z74] _ _
          have F198 := (by assumption : FR md_me_readAdjective__p T1 T10)
          have a6 : Xi T1 895 6 = whkC S from_ to := A139.o.2.2.2.2.2.2.2.2.2.2.1
          have n6 : Xi T1 (276 + cl) 1 = (ntT S (isP S from_ to)) := A139.o.2.2.2.2.1
          have b6 := ntT_b (S := S) (i := (isP S from_ to))
          have r198 := v198
          rw [raF_FR hFT1 rfl, a6] at r198
          have m198 := m198_
          rw [mnV_FR hFT1 rfl] at m198
          have p198 := p198_
          rw [rlF_FR hFT1 rfl rfl rfl rfl, a6] at p198
          have c198 : KCL T1 T10 cl := kcl_f F198 rfl KCL.rf
          have j198 : ∀ j, Xi T10 (276 + cl) j = Xi T1 (276 + cl) j := cl_keep F198 rfl hcl
          have z198 : Xi T10 876 8 = 0 := (F198.x 876 8 rfl).trans A139.o.2.2.2.2.2.2.2.2.2.2.2
          clear v198 m198_ p198_
          refine y_istore rfl rfl rfl ?_
          refine y_iload rfl rfl ?_
          refine y_iconst rfl ?_
          refine y_icmp_eq rfl rfl (by unfold rg; omega) (by unfold rg; omega) (fun w76 => ?_) (fun w77 => ?_)
          · refine y_aload_n rfl rfl ?_
            refine y_aload_n rfl rfl ?_
            refine y_gfr rfl rfl rfl rfl rfl (hHT10.r 899 2 895 rfl) ?_
            refine y_gfi rfl rfl rfl rfl rfl ?_
            have w78 : -2147483648 ≤ (Xi T10 895 8) ∧ (Xi T10 895 8) ≤ 2147483647 := Xi_rgI
            refine y_aload_n rfl rfl ?_
            refine y_gfr rfl rfl rfl rfl rfl (hHT10.r 899 2 895 rfl) ?_
            refine y_gfi rfl rfl rfl rfl rfl ?_
            have w79 : -2147483648 ≤ (Xi T10 895 9) ∧ (Xi T10 895 9) ≤ 2147483647 := Xi_rgI
            have w80 : Xi T10 876 8 = Xi T1 876 8 := (show Xi T10 876 8 = Xi T1 876 8 from w75.x _ _ rfl)
            refine y_callS rfl rfl (by decide) rfl (t_rr_nameAdjective__p hHT10 cl (Xi T10 895 8) (Xi T10 895 9) (by omega) ⟨by omega, by omega⟩ ⟨by omega, by omega⟩ _) ?_
            rintro _ T11 ⟨hHT11, w82, rfl, e245⟩
            have hFT11 : FR md_rr_test__p S T11 := FR.tr hFT10 w82 rfl
            show Pl _ _ _ _ _ _ [] _ _
            have K245 : True := trivial
            have F245 := (by assumption : FR md_rr_nameAdjective__p T10 T11)
            have h245 : Xi T11 876 8 = Xi T1 876 8 := (F245.x 876 8 rfl).trans (F198.x 876 8 rfl)
            refine y_iconst rfl ?_
            refine y_ireturn rfl rfl ?_
            have w83 : Xi T11 876 8 = Xi T1 876 8 := (show Xi T11 876 8 = Xi T10 876 8 from w82.x _ _ rfl).trans ((show Xi T10 876 8 = Xi T1 876 8 from w75.x _ _ rfl))
            exact ⟨hHT11, hFT11, _, rfl, ⟨by omega, by omega⟩, (by first | (have u := K245; exact tso_a A139.o c198 j198 Wj139 (by rw [gq145]; omega) r198 (by omega) (by omega) (by omega) m198 p198 e245 (FR_clj F245 rfl hcl) (FR_clj F245 rfl hcl) (FR_clj F245 rfl hcl) (FR_clj F245 rfl hcl) h245 rfl) | (have u := Y226; first | exact tso_n A139.o k226 Wj139 (by rw [gq145]; omega) r198 (by omega) (by omega) (by omega) (Or.inl ⟨by omega, rfl⟩) (by omega) Y226 | exact tso_n A139.o k226 Wj139 (by rw [gq145]; omega) r198 (by omega) (by omega) (by omega) (Or.inr ⟨by omega, rfl⟩) (by omega) Y226) | (have u := K158; exact tso_l A139.o hFT1 rfl rfl rfl rfl rfl rfl rfl Wj139 (by rw [gq145]; omega) (FR_clj F158 rfl hcl) (FR_clj F158 rfl hcl) (FR_clj F158 rfl hcl) (FR_clj F158 rfl hcl) o158) | (have u := Y79; exact tso_w k79 (by omega) b46 (by omega) (by omega) Y79) | (have u := K42; exact tso_p hf i7 (by omega) rfl b37 hclm.o.choose_spec o42) | exact tso_s hf (by omega) hclm.o.choose_spec (FR_clj F22 rfl hcl) (FR_clj F22 rfl hcl) (FR_clj F22 rfl hcl) o22)⟩
          · refine y_aload_n rfl rfl ?_
            refine y_gfr rfl rfl rfl rfl rfl (hHT10.r 899 0 876 rfl) ?_
            refine y_iload rfl rfl ?_
            refine y_if_ne rfl rfl (by unfold rg; omega) (fun w84 => ?_) (fun w85 => ?_)
            · refine y_bipush rfl rfl ?_
              refine y_iload rfl rfl ?_
              have w86 : Xi T10 876 8 = Xi T1 876 8 := (show Xi T10 876 8 = Xi T1 876 8 from w75.x _ _ rfl)
              have w87 : Xi T10 876 9 = Xi T1 876 9 := (show Xi T10 876 9 = Xi T1 876 9 from w75.x _ _ rfl)
              refine y_callV rfl rfl rfl (t_to_wrong__p hHT10 7 v6 ⟨by omega, by omega⟩ ⟨by omega, by omega⟩ _) ?_
              rintro _ T12 ⟨hHT12, w91, z90, rfl, w90, w88, f226, w89⟩
              have hFT12 : FR md_rr_test__p S T12 := FR.tr hFT10 w91 rfl
              show Pl _ _ _ _ _ _ [iv z90] _ _
              have F226 := (by assumption : FR md_to_wrong__p T10 T12)
              have k226 : KCL T1 T12 cl := kcl_f F226 rfl c198
              have Y226 : FTO S T12 _ v6 := (by have u := f226 z198; exact ⟨u.1, u.2.trans (pc7_FR hFT10 rfl rfl rfl _)⟩)
              refine y_ireturn rfl (retI_z (by omega)) ?_
              exact ⟨hHT12, hFT12, _, rfl, ⟨by omega, by omega⟩, (by first | (have u := K245; exact tso_a A139.o c198 j198 Wj139 (by rw [gq145]; omega) r198 (by omega) (by omega) (by omega) m198 p198 e245 (FR_clj F245 rfl hcl) (FR_clj F245 rfl hcl) (FR_clj F245 rfl hcl) (FR_clj F245 rfl hcl) h245 rfl) | (have u := Y226; first | exact tso_n A139.o k226 Wj139 (by rw [gq145]; omega) r198 (by omega) (by omega) (by omega) (Or.inl ⟨by omega, rfl⟩) (by omega) Y226 | exact tso_n A139.o k226 Wj139 (by rw [gq145]; omega) r198 (by omega) (by omega) (by omega) (Or.inr ⟨by omega, rfl⟩) (by omega) Y226) | (have u := K158; exact tso_l A139.o hFT1 rfl rfl rfl rfl rfl rfl rfl Wj139 (by rw [gq145]; omega) (FR_clj F158 rfl hcl) (FR_clj F158 rfl hcl) (FR_clj F158 rfl hcl) (FR_clj F158 rfl hcl) o158) | (have u := Y79; exact tso_w k79 (by omega) b46 (by omega) (by omega) Y79) | (have u := K42; exact tso_p hf i7 (by omega) rfl b37 hclm.o.choose_spec o42) | exact tso_s hf (by omega) hclm.o.choose_spec (FR_clj F22 rfl hcl) (FR_clj F22 rfl hcl) (FR_clj F22 rfl hcl) o22)⟩
            · refine y_iconst rfl ?_
              refine y_goto rfl rfl ?_
              refine y_iload rfl rfl ?_
              have w92 : Xi T10 876 8 = Xi T1 876 8 := (show Xi T10 876 8 = Xi T1 876 8 from w75.x _ _ rfl)
              have w93 : Xi T10 876 9 = Xi T1 876 9 := (show Xi T10 876 9 = Xi T1 876 9 from w75.x _ _ rfl)
              refine y_callV rfl rfl rfl (t_to_wrong__p hHT10 4 v6 ⟨by omega, by omega⟩ ⟨by omega, by omega⟩ _) ?_
              rintro _ T13 ⟨hHT13, w97, z96, rfl, w96, w94, f226, w95⟩
              have hFT13 : FR md_rr_test__p S T13 := FR.tr hFT10 w97 rfl
              show Pl _ _ _ _ _ _ [iv z96] _ _
              have F226 := (by assumption : FR md_to_wrong__p T10 T13)
              have k226 : KCL T1 T13 cl := kcl_f F226 rfl c198
              have Y226 : FTO S T13 _ v6 := (by have u := f226 z198; exact ⟨u.1, u.2.trans (pc7_FR hFT10 rfl rfl rfl _)⟩)
              refine y_ireturn rfl (retI_z (by omega)) ?_
              exact ⟨hHT13, hFT13, _, rfl, ⟨by omega, by omega⟩, (by first | (have u := K245; exact tso_a A139.o c198 j198 Wj139 (by rw [gq145]; omega) r198 (by omega) (by omega) (by omega) m198 p198 e245 (FR_clj F245 rfl hcl) (FR_clj F245 rfl hcl) (FR_clj F245 rfl hcl) (FR_clj F245 rfl hcl) h245 rfl) | (have u := Y226; first | exact tso_n A139.o k226 Wj139 (by rw [gq145]; omega) r198 (by omega) (by omega) (by omega) (Or.inl ⟨by omega, rfl⟩) (by omega) Y226 | exact tso_n A139.o k226 Wj139 (by rw [gq145]; omega) r198 (by omega) (by omega) (by omega) (Or.inr ⟨by omega, rfl⟩) (by omega) Y226) | (have u := K158; exact tso_l A139.o hFT1 rfl rfl rfl rfl rfl rfl rfl Wj139 (by rw [gq145]; omega) (FR_clj F158 rfl hcl) (FR_clj F158 rfl hcl) (FR_clj F158 rfl hcl) (FR_clj F158 rfl hcl) o158) | (have u := Y79; exact tso_w k79 (by omega) b46 (by omega) (by omega) Y79) | (have u := K42; exact tso_p hf i7 (by omega) rfl b37 hclm.o.choose_spec o42) | exact tso_s hf (by omega) hclm.o.choose_spec (FR_clj F22 rfl hcl) (FR_clj F22 rfl hcl) (FR_clj F22 rfl hcl) o22)⟩
        · refine y_iconst rfl ?_
          refine y_goto rfl rfl ?_
          refine y_callV rfl rfl rfl (t_me_readAdjective__p hHT1 (Xi T1 895 6) v6 to 1 1 ⟨by omega, by omega⟩ ⟨by omega, by omega⟩ ⟨by omega, by omega⟩ ⟨by omega, by omega⟩ ⟨by omega, by omega⟩ (by first | assumption | omega) (by first | assumption | exact (CEN_FR hFT1 rfl rfl (by assumption : CEN S))) _) ?_
          rintro _ T14 ⟨hHT14, w99, z98, rfl, w98, v198, m198_, p198_⟩
          have hFT14 : FR md_rr_test__p S T14 := FR.tr hFT1 w99 rfl
          show Pl _ _ _ _ _ _ [iv z98] _ _
          have F198 := (by assumption : FR md_me_readAdjective__p T1 T14)
          have a6 : Xi T1 895 6 = whkC S from_ to := A139.o.2.2.2.2.2.2.2.2.2.2.1
          have n6 : Xi T1 (276 + cl) 1 = (ntT S (isP S from_ to)) := A139.o.2.2.2.2.1
          have b6 := ntT_b (S := S) (i := (isP S from_ to))
          have r198 := v198
          rw [raF_FR hFT1 rfl, a6] at r198
          have m198 := m198_
          rw [mnV_FR hFT1 rfl] at m198
          have p198 := p198_
          rw [rlF_FR hFT1 rfl rfl rfl rfl, a6] at p198
          have c198 : KCL T1 T14 cl := kcl_f F198 rfl KCL.rf
          have j198 : ∀ j, Xi T14 (276 + cl) j = Xi T1 (276 + cl) j := cl_keep F198 rfl hcl
          have z198 : Xi T14 876 8 = 0 := (F198.x 876 8 rfl).trans A139.o.2.2.2.2.2.2.2.2.2.2.2
          clear v198 m198_ p198_
          refine y_istore rfl rfl rfl ?_
          refine y_iload rfl rfl ?_
          refine y_iconst rfl ?_
          refine y_icmp_eq rfl rfl (by unfold rg; omega) (by unfold rg; omega) (fun w100 => ?_) (fun w101 => ?_)
          · refine y_aload_n rfl rfl ?_
            refine y_aload_n rfl rfl ?_
            refine y_gfr rfl rfl rfl rfl rfl (hHT14.r 899 2 895 rfl) ?_
            refine y_gfi rfl rfl rfl rfl rfl ?_
            have w102 : -2147483648 ≤ (Xi T14 895 8) ∧ (Xi T14 895 8) ≤ 2147483647 := Xi_rgI
            refine y_aload_n rfl rfl ?_
            refine y_gfr rfl rfl rfl rfl rfl (hHT14.r 899 2 895 rfl) ?_
            refine y_gfi rfl rfl rfl rfl rfl ?_
            have w103 : -2147483648 ≤ (Xi T14 895 9) ∧ (Xi T14 895 9) ≤ 2147483647 := Xi_rgI
            have w104 : Xi T14 876 8 = Xi T1 876 8 := (show Xi T14 876 8 = Xi T1 876 8 from w99.x _ _ rfl)
            refine y_callS rfl rfl (by decide) rfl (t_rr_nameAdjective__p hHT14 cl (Xi T14 895 8) (Xi T14 895 9) (by omega) ⟨by omega, by omega⟩ ⟨by omega, by omega⟩ _) ?_
            rintro _ T15 ⟨hHT15, w106, rfl, e245⟩
            have hFT15 : FR md_rr_test__p S T15 := FR.tr hFT14 w106 rfl
            show Pl _ _ _ _ _ _ [] _ _
            have K245 : True := trivial
            have F245 := (by assumption : FR md_rr_nameAdjective__p T14 T15)
            have h245 : Xi T15 876 8 = Xi T1 876 8 := (F245.x 876 8 rfl).trans (F198.x 876 8 rfl)
            refine y_iconst rfl ?_
            refine y_ireturn rfl rfl ?_
            have w107 : Xi T15 876 8 = Xi T1 876 8 := (show Xi T15 876 8 = Xi T14 876 8 from w106.x _ _ rfl).trans ((show Xi T14 876 8 = Xi T1 876 8 from w99.x _ _ rfl))
            exact ⟨hHT15, hFT15, _, rfl, ⟨by omega, by omega⟩, (by first | (have u := K245; exact tso_a A139.o c198 j198 Wj139 (by rw [gq145]; omega) r198 (by omega) (by omega) (by omega) m198 p198 e245 (FR_clj F245 rfl hcl) (FR_clj F245 rfl hcl) (FR_clj F245 rfl hcl) (FR_clj F245 rfl hcl) h245 rfl) | (have u := Y226; first | exact tso_n A139.o k226 Wj139 (by rw [gq145]; omega) r198 (by omega) (by omega) (by omega) (Or.inl ⟨by omega, rfl⟩) (by omega) Y226 | exact tso_n A139.o k226 Wj139 (by rw [gq145]; omega) r198 (by omega) (by omega) (by omega) (Or.inr ⟨by omega, rfl⟩) (by omega) Y226) | (have u := K158; exact tso_l A139.o hFT1 rfl rfl rfl rfl rfl rfl rfl Wj139 (by rw [gq145]; omega) (FR_clj F158 rfl hcl) (FR_clj F158 rfl hcl) (FR_clj F158 rfl hcl) (FR_clj F158 rfl hcl) o158) | (have u := Y79; exact tso_w k79 (by omega) b46 (by omega) (by omega) Y79) | (have u := K42; exact tso_p hf i7 (by omega) rfl b37 hclm.o.choose_spec o42) | exact tso_s hf (by omega) hclm.o.choose_spec (FR_clj F22 rfl hcl) (FR_clj F22 rfl hcl) (FR_clj F22 rfl hcl) o22)⟩
          · refine y_aload_n rfl rfl ?_
            refine y_gfr rfl rfl rfl rfl rfl (hHT14.r 899 0 876 rfl) ?_
            refine y_iload rfl rfl ?_
            refine y_if_ne rfl rfl (by unfold rg; omega) (fun w108 => ?_) (fun w109 => ?_)
            · refine y_bipush rfl rfl ?_
              refine y_iload rfl rfl ?_
              have w110 : Xi T14 876 8 = Xi T1 876 8 := (show Xi T14 876 8 = Xi T1 876 8 from w99.x _ _ rfl)
              have w111 : Xi T14 876 9 = Xi T1 876 9 := (show Xi T14 876 9 = Xi T1 876 9 from w99.x _ _ rfl)
              refine y_callV rfl rfl rfl (t_to_wrong__p hHT14 7 v6 ⟨by omega, by omega⟩ ⟨by omega, by omega⟩ _) ?_
              rintro _ T16 ⟨hHT16, w115, z114, rfl, w114, w112, f226, w113⟩
              have hFT16 : FR md_rr_test__p S T16 := FR.tr hFT14 w115 rfl
              show Pl _ _ _ _ _ _ [iv z114] _ _
              have F226 := (by assumption : FR md_to_wrong__p T14 T16)
              have k226 : KCL T1 T16 cl := kcl_f F226 rfl c198
              have Y226 : FTO S T16 _ v6 := (by have u := f226 z198; exact ⟨u.1, u.2.trans (pc7_FR hFT14 rfl rfl rfl _)⟩)
              refine y_ireturn rfl (retI_z (by omega)) ?_
              exact ⟨hHT16, hFT16, _, rfl, ⟨by omega, by omega⟩, (by first | (have u := K245; exact tso_a A139.o c198 j198 Wj139 (by rw [gq145]; omega) r198 (by omega) (by omega) (by omega) m198 p198 e245 (FR_clj F245 rfl hcl) (FR_clj F245 rfl hcl) (FR_clj F245 rfl hcl) (FR_clj F245 rfl hcl) h245 rfl) | (have u := Y226; first | exact tso_n A139.o k226 Wj139 (by rw [gq145]; omega) r198 (by omega) (by omega) (by omega) (Or.inl ⟨by omega, rfl⟩) (by omega) Y226 | exact tso_n A139.o k226 Wj139 (by rw [gq145]; omega) r198 (by omega) (by omega) (by omega) (Or.inr ⟨by omega, rfl⟩) (by omega) Y226) | (have u := K158; exact tso_l A139.o hFT1 rfl rfl rfl rfl rfl rfl rfl Wj139 (by rw [gq145]; omega) (FR_clj F158 rfl hcl) (FR_clj F158 rfl hcl) (FR_clj F158 rfl hcl) (FR_clj F158 rfl hcl) o158) | (have u := Y79; exact tso_w k79 (by omega) b46 (by omega) (by omega) Y79) | (have u := K42; exact tso_p hf i7 (by omega) rfl b37 hclm.o.choose_spec o42) | exact tso_s hf (by omega) hclm.o.choose_spec (FR_clj F22 rfl hcl) (FR_clj F22 rfl hcl) (FR_clj F22 rfl hcl) o22)⟩
            · refine y_iconst rfl ?_
              refine y_goto rfl rfl ?_
              refine y_iload rfl rfl ?_
              have w116 : Xi T14 876 8 = Xi T1 876 8 := (show Xi T14 876 8 = Xi T1 876 8 from w99.x _ _ rfl)
              have w117 : Xi T14 876 9 = Xi T1 876 9 := (show Xi T14 876 9 = Xi T1 876 9 from w99.x _ _ rfl)
              refine y_callV rfl rfl rfl (t_to_wrong__p hHT14 4 v6 ⟨by omega, by omega⟩ ⟨by omega, by omega⟩ _) ?_
              rintro _ T17 ⟨hHT17, w121, z120, rfl, w120, w118, f226, w119⟩
              have hFT17 : FR md_rr_test__p S T17 := FR.tr hFT14 w121 rfl
              show Pl _ _ _ _ _ _ [iv z120] _ _
              have F226 := (by assumption : FR md_to_wrong__p T14 T17)
              have k226 : KCL T1 T17 cl := kcl_f F226 rfl c198
              have Y226 : FTO S T17 _ v6 := (by have u := f226 z198; exact ⟨u.1, u.2.trans (pc7_FR hFT14 rfl rfl rfl _)⟩)
              refine y_ireturn rfl (retI_z (by omega)) ?_
              exact ⟨hHT17, hFT17, _, rfl, ⟨by omega, by omega⟩, (by first | (have u := K245; exact tso_a A139.o c198 j198 Wj139 (by rw [gq145]; omega) r198 (by omega) (by omega) (by omega) m198 p198 e245 (FR_clj F245 rfl hcl) (FR_clj F245 rfl hcl) (FR_clj F245 rfl hcl) (FR_clj F245 rfl hcl) h245 rfl) | (have u := Y226; first | exact tso_n A139.o k226 Wj139 (by rw [gq145]; omega) r198 (by omega) (by omega) (by omega) (Or.inl ⟨by omega, rfl⟩) (by omega) Y226 | exact tso_n A139.o k226 Wj139 (by rw [gq145]; omega) r198 (by omega) (by omega) (by omega) (Or.inr ⟨by omega, rfl⟩) (by omega) Y226) | (have u := K158; exact tso_l A139.o hFT1 rfl rfl rfl rfl rfl rfl rfl Wj139 (by rw [gq145]; omega) (FR_clj F158 rfl hcl) (FR_clj F158 rfl hcl) (FR_clj F158 rfl hcl) (FR_clj F158 rfl hcl) o158) | (have u := Y79; exact tso_w k79 (by omega) b46 (by omega) (by omega) Y79) | (have u := K42; exact tso_p hf i7 (by omega) rfl b37 hclm.o.choose_spec o42) | exact tso_s hf (by omega) hclm.o.choose_spec (FR_clj F22 rfl hcl) (FR_clj F22 rfl hcl) (FR_clj F22 rfl hcl) o22)⟩
    · refine y_aload_n rfl rfl ?_
      refine y_iload rfl rfl ?_
      refine y_iload_n rfl rfl ?_
      refine y_aload_n rfl rfl ?_
      refine y_callV rfl rfl rfl (t_rr_placeTest__p hHT1 v6 to cl ⟨by omega, by omega⟩ ⟨by omega, by omega⟩ (by omega) (by first | assumption | omega) (by first | assumption | exact (CEN_FR hFT1 rfl rfl (by assumption : CEN S))) (by first | assumption | omega) _) ?_
      rintro _ T18 ⟨hHT18, w123, z122, rfl, w122, o158⟩
      have hFT18 : FR md_rr_test__p S T18 := FR.tr hFT1 w123 rfl
      show Pl _ _ _ _ _ _ [iv z122] _ _
      have K158 : True := trivial
      have F158 := (by assumption : FR md_rr_placeTest__p T1 T18)
      refine y_ireturn rfl (retI_z (by omega)) ?_
      exact ⟨hHT18, hFT18, _, rfl, ⟨by omega, by omega⟩, (by first | (have u := K245; exact tso_a A139.o c198 j198 Wj139 (by rw [gq145]; omega) r198 (by omega) (by omega) (by omega) m198 p198 e245 (FR_clj F245 rfl hcl) (FR_clj F245 rfl hcl) (FR_clj F245 rfl hcl) (FR_clj F245 rfl hcl) h245 rfl) | (have u := Y226; first | exact tso_n A139.o k226 Wj139 (by rw [gq145]; omega) r198 (by omega) (by omega) (by omega) (Or.inl ⟨by omega, rfl⟩) (by omega) Y226 | exact tso_n A139.o k226 Wj139 (by rw [gq145]; omega) r198 (by omega) (by omega) (by omega) (Or.inr ⟨by omega, rfl⟩) (by omega) Y226) | (have u := K158; exact tso_l A139.o hFT1 rfl rfl rfl rfl rfl rfl rfl Wj139 (by rw [gq145]; omega) (FR_clj F158 rfl hcl) (FR_clj F158 rfl hcl) (FR_clj F158 rfl hcl) (FR_clj F158 rfl hcl) o158) | (have u := Y79; exact tso_w k79 (by omega) b46 (by omega) (by omega) Y79) | (have u := K42; exact tso_p hf i7 (by omega) rfl b37 hclm.o.choose_spec o42) | exact tso_s hf (by omega) hclm.o.choose_spec (FR_clj F22 rfl hcl) (FR_clj F22 rfl hcl) (FR_clj F22 rfl hcl) o22)⟩
  refine y_aload_n rfl rfl ?_
  refine y_gfr rfl rfl rfl rfl rfl (hH.r 899 0 876 rfl) ?_
  refine y_iconst rfl ?_
  refine y_iload_n rfl rfl ?_
  refine y_iload_n rfl rfl ?_
  refine y_callV rfl rfl rfl (t_to_firstOf__p hH 4 from_ to ⟨by omega, by omega⟩ ⟨by omega, by omega⟩ ⟨by omega, by omega⟩ _) ?_
  rintro _ _ ⟨rfl, z125, rfl, w125, w124⟩
  show Pl _ _ _ _ _ _ [iv z125] _ _
  have gq7 := w124
  clear w124
  have i7 : z125 = (isP S from_ to) := gq7.symm
  refine y_istore rfl rfl rfl ?_
  refine y_iload rfl rfl ?_
  refine y_iconst rfl ?_
  refine y_icmp_ne rfl rfl (by unfold rg; omega) (by unfold rg; omega) (fun w126 => ?_) (fun w127 => ?_)
  · refine y_aload_n rfl rfl ?_
    refine y_gfr rfl rfl rfl rfl rfl (hH.r 899 0 876 rfl) ?_
    refine y_iload_n rfl rfl ?_
    refine y_callV rfl rfl rfl (t_to_beginsProperty__p hH from_ ⟨by omega, by omega⟩ _) ?_
    rintro _ _ ⟨rfl, z129, rfl, w129, gb31_, w128⟩
    show Pl _ _ _ _ _ _ [iv z129] _ _
    have gb31 := gb31_
    refine y_if_eq rfl rfl (by unfold rg; omega) (fun w130 => ?_) (fun w131 => ?_)
    · refine y_aload_n rfl rfl ?_
      have b46 : ¬ bpP S from_ := gb31.2 (by omega)
      refine y_gfr rfl rfl rfl rfl rfl (hH.r 899 2 895 rfl) ?_
      refine y_iload_n rfl rfl ?_
      refine y_iload_n rfl rfl ?_
      refine y_callV rfl rfl rfl (t_me_readThing__p hH from_ to ⟨by omega, by omega⟩ ⟨by omega, by omega⟩ (by first | assumption | omega) (by first | assumption | exact (CEN_FR hF rfl rfl (by assumption : CEN S))) (by first | assumption | omega) _) ?_
      rintro _ T19 ⟨hHT19, w134, z133, rfl, w133, o52, w132⟩
      have hFT19 : FR md_rr_test__p S T19 := FR.tr hF w134 rfl
      show Pl _ _ _ _ _ _ [iv z133] _ _
      have R52 := o52
      clear o52
      have F52 := (by assumption : FR md_me_readThing__p S T19)
      refine y_pop rfl rfl ?_
      refine y_aload_n rfl rfl ?_
      refine y_gfr rfl rfl rfl rfl rfl (hHT19.r 899 2 895 rfl) ?_
      refine y_gfi rfl rfl rfl rfl rfl ?_
      have w135 : -2147483648 ≤ (Xi T19 895 5) ∧ (Xi T19 895 5) ≤ 2147483647 := Xi_rgI
      have Ww60 : (Xi T19 895 5) = whoC S from_ to := R52.1
      refine y_iconst rfl ?_
      refine y_icmp_ne rfl rfl (by unfold rg; omega) (by unfold rg; omega) (fun w136 => ?_) (fun w137 => ?_)
      · refine y_aload_n rfl rfl ?_
        refine y_aload_n rfl rfl ?_
        refine y_gfr rfl rfl rfl rfl rfl (hHT19.r 899 2 895 rfl) ?_
        refine y_gfi rfl rfl rfl rfl rfl ?_
        refine y_pfi rfl rfl (layClW (by omega) rfl) rfl ?_
        obtain ⟨U20, eU20⟩ : ∃ T : sS, T = uI T19 (276 + cl) 2 (Int32.ofInt (Xi T19 895 5)) := ⟨_, rfl⟩
        rw [← eU20]
        have hHU20 : RI U20 := by rw [eU20]; exact RI_w hHT19
        have hFU20 : FR md_rr_test__p S U20 := by rw [eU20]; exact FR.wI hFT19 (mdf_i (r := (276, 876, 2, 3)) (List.mem_of_getElem? (i := 2) rfl) (inR_i (by omega) (by omega) (by omega) (by omega)))
        have w138 : Xi U20 (276 + cl) 2 = (Xi T19 895 5) := by rw [eU20]; exact Xi_same (by unfold rg; omega)
        have e91 := eU20
        refine y_aload_n rfl rfl ?_
        refine y_aload_n rfl rfl ?_
        refine y_gfr rfl rfl rfl rfl rfl (hHU20.r 899 0 876 rfl) ?_
        refine y_iload rfl rfl ?_
        refine y_iconst rfl ?_
        refine y_iadd rfl ?_
        have w139 : Xi U20 876 7 = Xi S 876 7 := (show Xi U20 876 7 = Xi T19 876 7 from by rw [eU20]; exact Xi_ne (by omega)).trans ((show Xi T19 876 7 = Xi S 876 7 from w134.x _ _ rfl))
        have w140 : Xi U20 876 8 = Xi S 876 8 := (show Xi U20 876 8 = Xi T19 876 8 from by rw [eU20]; exact Xi_ne (by omega)).trans ((show Xi T19 876 8 = Xi S 876 8 from w134.x _ _ rfl))
        refine y_callV rfl rfl rfl (t_to_typeAt__p hHU20 (z125 + 1) ⟨by omega, by omega⟩ _) ?_
        rintro _ _ ⟨rfl, z143, rfl, w143, w141, w142⟩
        show Pl _ _ _ _ _ _ [iv z143, .ref (276 + cl)] _ _
        have gq103 := w141
        rw [FRT hFU20 rfl rfl] at gq103
        try rw [show Xi U20 890 1 = Xi S 890 1 by omega] at gq103
        clear w141
        refine y_bipush rfl rfl ?_
        refine y_icmp_ne rfl rfl (by unfold rg; omega) (by unfold rg; omega) (fun w144 => ?_) (fun w145 => ?_)
        · refine y_iconst rfl ?_
          refine y_pfz rfl rfl (layClW (by omega) rfl) rfl (by omega) ?_
          obtain ⟨U21, eU21⟩ : ∃ T : sS, T = uI U20 (276 + cl) 1 (Int32.ofInt 0) := ⟨_, rfl⟩
          rw [← eU21]
          have hHU21 : RI U21 := by rw [eU21]; exact RI_w hHU20
          have hFU21 : FR md_rr_test__p S U21 := by rw [eU21]; exact FR.wI hFU20 (mdf_i (r := (276, 876, 1, 2)) (List.mem_of_getElem? (i := 1) rfl) (inR_i (by omega) (by omega) (by omega) (by omega)))
          have w146 : Xi U21 (276 + cl) 1 = 0 := by rw [eU21]; exact Xi_same (by unfold rg; omega)
          have e116 := eU21
          have N116 : Xi U21 (276 + cl) 1 = (ntT S (isP S from_ to)) := by rw [e116, Xi_same (by unfold rg; omega)]; unfold ntT; rw [← i7, gq103]; first | (rw [if_pos (by omega)]) | (rw [if_neg (by omega)])
          refine y_aload_n rfl rfl ?_
          refine y_gfi rfl rfl rfl (layCl (by omega)) rfl ?_
          refine y_if_eq rfl rfl (by unfold rg; omega) (fun w147 => ?_) (fun w148 => ?_)
          · refine y_iload rfl rfl ?_
            refine y_iconst rfl ?_
            refine y_iadd rfl ?_
            refine y_istore rfl rfl rfl ?_
            have A137 : Hid (TMD S U21 cl from_ to) := by have cc := hclm.o.choose_spec; exact ⟨kcl_w e116 (kcl_w e91 (kcl_f F52 rfl KCL.rf)), by omega, b46, by omega, N116, by rw [e116, Xi_ne (by omega), e91]; exact (Xi_same (by unfold rg; omega)).trans R52.1, by rw [e116, Xi_ne (by omega), e91, Xi_ne (by omega), FR_clj F52 rfl hcl]; exact cc.2.2.2.1, by rw [e116, Xi_ne (by omega), e91, Xi_ne (by omega), FR_clj F52 rfl hcl]; exact cc.2.2.2.2.1, by rw [e116, Xi_ne (by omega), e91, Xi_ne (by omega), FR_clj F52 rfl hcl]; exact cc.2.2.2.2.2.1, by rw [e116, Xi_ne (by omega), e91, Xi_ne (by omega), FR_clj F52 rfl hcl]; exact cc.2.2.2.2.2.2, by rw [e116, Xi_ne (by omega), e91, Xi_ne (by omega)]; exact R52.2.1, by rw [e116, Xi_ne (by omega), e91, Xi_ne (by omega), F52.x 876 8 rfl]; exact hf⟩
            have Wj137 : (z125 + 1) = wJ S from_ to := by unfold wJ; omega
            have w149 : Xi U21 876 8 = Xi S 876 8 := (show Xi U21 876 8 = Xi U20 876 8 from by rw [eU21]; exact Xi_ne (by omega)).trans ( (show Xi U20 876 8 = Xi T19 876 8 from by rw [eU20]; exact Xi_ne (by omega)).trans ((show Xi T19 876 8 = Xi S 876 8 from w134.x _ _ rfl)))
            exact Pl_weak (C139 U21 hHU21 hFU21 ((z125 + 1)) (by omega) (Wj137) (by omega) (A137)) (by omega) (And.intro rfl (And.intro rfl (And.intro rfl (And.intro rfl (And.intro rfl (True.intro))))))
          · exfalso; omega
        · refine y_iconst rfl ?_
          refine y_goto rfl rfl ?_
          refine y_pfz rfl rfl (layClW (by omega) rfl) rfl (by omega) ?_
          obtain ⟨U22, eU22⟩ : ∃ T : sS, T = uI U20 (276 + cl) 1 (Int32.ofInt 1) := ⟨_, rfl⟩
          rw [← eU22]
          have hHU22 : RI U22 := by rw [eU22]; exact RI_w hHU20
          have hFU22 : FR md_rr_test__p S U22 := by rw [eU22]; exact FR.wI hFU20 (mdf_i (r := (276, 876, 1, 2)) (List.mem_of_getElem? (i := 1) rfl) (inR_i (by omega) (by omega) (by omega) (by omega)))
          have w150 : Xi U22 (276 + cl) 1 = 1 := by rw [eU22]; exact Xi_same (by unfold rg; omega)
          have e116 := eU22
          have N116 : Xi U22 (276 + cl) 1 = (ntT S (isP S from_ to)) := by rw [e116, Xi_same (by unfold rg; omega)]; unfold ntT; rw [← i7, gq103]; first | (rw [if_pos (by omega)]) | (rw [if_neg (by omega)])
          refine y_aload_n rfl rfl ?_
          refine y_gfi rfl rfl rfl (layCl (by omega)) rfl ?_
          refine y_if_eq rfl rfl (by unfold rg; omega) (fun w151 => ?_) (fun w152 => ?_)
          · exfalso; omega
          · refine y_iload rfl rfl ?_
            refine y_iconst rfl ?_
            refine y_iadd rfl ?_
            refine y_goto rfl rfl ?_
            refine y_istore rfl rfl rfl ?_
            have A137 : Hid (TMD S U22 cl from_ to) := by have cc := hclm.o.choose_spec; exact ⟨kcl_w e116 (kcl_w e91 (kcl_f F52 rfl KCL.rf)), by omega, b46, by omega, N116, by rw [e116, Xi_ne (by omega), e91]; exact (Xi_same (by unfold rg; omega)).trans R52.1, by rw [e116, Xi_ne (by omega), e91, Xi_ne (by omega), FR_clj F52 rfl hcl]; exact cc.2.2.2.1, by rw [e116, Xi_ne (by omega), e91, Xi_ne (by omega), FR_clj F52 rfl hcl]; exact cc.2.2.2.2.1, by rw [e116, Xi_ne (by omega), e91, Xi_ne (by omega), FR_clj F52 rfl hcl]; exact cc.2.2.2.2.2.1, by rw [e116, Xi_ne (by omega), e91, Xi_ne (by omega), FR_clj F52 rfl hcl]; exact cc.2.2.2.2.2.2, by rw [e116, Xi_ne (by omega), e91, Xi_ne (by omega)]; exact R52.2.1, by rw [e116, Xi_ne (by omega), e91, Xi_ne (by omega), F52.x 876 8 rfl]; exact hf⟩
            have Wj137 : (z125 + 2) = wJ S from_ to := by unfold wJ; omega
            have w153 : Xi U22 876 8 = Xi S 876 8 := (show Xi U22 876 8 = Xi U20 876 8 from by rw [eU22]; exact Xi_ne (by omega)).trans ( (show Xi U20 876 8 = Xi T19 876 8 from by rw [eU20]; exact Xi_ne (by omega)).trans ((show Xi T19 876 8 = Xi S 876 8 from w134.x _ _ rfl)))
            exact Pl_weak (C139 U22 hHU22 hFU22 ((z125 + 2)) (by omega) (Wj137) (by omega) (A137)) (by omega) (And.intro rfl (And.intro rfl (And.intro rfl (And.intro rfl (And.intro rfl (True.intro))))))
      · refine y_aload_n rfl rfl ?_
        refine y_gfr rfl rfl rfl rfl rfl (hHT19.r 899 0 876 rfl) ?_
        refine y_iconst rfl ?_
        refine y_aload_n rfl rfl ?_
        refine y_gfr rfl rfl rfl rfl rfl (hHT19.r 899 2 895 rfl) ?_
        refine y_gfi rfl rfl rfl rfl rfl ?_
        have w154 : -2147483648 ≤ (Xi T19 895 7) ∧ (Xi T19 895 7) ≤ 2147483647 := Xi_rgI
        have w155 : Xi T19 876 8 = Xi S 876 8 := (show Xi T19 876 8 = Xi S 876 8 from w134.x _ _ rfl)
        have w156 : Xi T19 876 9 = Xi S 876 9 := (show Xi T19 876 9 = Xi S 876 9 from w134.x _ _ rfl)
        refine y_callV rfl rfl rfl (t_to_wrong__p hHT19 4 (Xi T19 895 7) ⟨by omega, by omega⟩ ⟨by omega, by omega⟩ _) ?_
        rintro _ T23 ⟨hHT23, w160, z159, rfl, w159, w157, f79, w158⟩
        have hFT23 : FR md_rr_test__p S T23 := FR.tr hFT19 w160 rfl
        show Pl _ _ _ _ _ _ [iv z159] _ _
        have F79 := (by assumption : FR md_to_wrong__p T19 T23)
        have Y79 : FTO S T23 4 (whrC S from_) := by have u := f79 (by omega); rw [R52.2.2.1] at u; exact ⟨u.1, u.2.trans (pc7_FR hFT19 rfl rfl rfl _)⟩
        have k79 : KCL S T23 cl := kcl_f F79 rfl (kcl_f F52 rfl KCL.rf)
        refine y_ireturn rfl (retI_z (by omega)) ?_
        exact ⟨hHT23, hFT23, _, rfl, ⟨by omega, by omega⟩, (by first | (have u := K245; exact tso_a A139.o c198 j198 Wj139 (by rw [gq145]; omega) r198 (by omega) (by omega) (by omega) m198 p198 e245 (FR_clj F245 rfl hcl) (FR_clj F245 rfl hcl) (FR_clj F245 rfl hcl) (FR_clj F245 rfl hcl) h245 rfl) | (have u := Y226; first | exact tso_n A139.o k226 Wj139 (by rw [gq145]; omega) r198 (by omega) (by omega) (by omega) (Or.inl ⟨by omega, rfl⟩) (by omega) Y226 | exact tso_n A139.o k226 Wj139 (by rw [gq145]; omega) r198 (by omega) (by omega) (by omega) (Or.inr ⟨by omega, rfl⟩) (by omega) Y226) | (have u := K158; exact tso_l A139.o hF rfl rfl rfl rfl rfl rfl rfl Wj139 (by rw [gq145]; omega) (FR_clj F158 rfl hcl) (FR_clj F158 rfl hcl) (FR_clj F158 rfl hcl) (FR_clj F158 rfl hcl) o158) | (have u := Y79; exact tso_w k79 (by omega) b46 (by omega) (by omega) Y79) | (have u := K42; exact tso_p hf i7 (by omega) rfl b37 hclm.o.choose_spec o42) | exact tso_s hf (by omega) hclm.o.choose_spec (FR_clj F22 rfl hcl) (FR_clj F22 rfl hcl) (FR_clj F22 rfl hcl) o22)⟩
    · refine y_aload_n rfl rfl ?_
      have b37 : bpP S from_ := gb31.1 (by omega)
      refine y_iload_n rfl rfl ?_
      refine y_iload rfl rfl ?_
      refine y_aload_n rfl rfl ?_
      refine y_callV rfl rfl rfl (t_rr_propertyTest__p hH from_ z125 cl ⟨by omega, by omega⟩ ⟨by omega, by omega⟩ (by omega) (by first | assumption | omega) (by first | assumption | exact (CEN_FR hF rfl rfl (by assumption : CEN S))) (by first | assumption | omega) (by first | assumption | omega) (by first | assumption | exact (TOK_FR hF rfl rfl rfl (by assumption : TOK S))) (by first | assumption | exact (SRX_FR hF rfl (by assumption : SRX S))) (hnv) (hpl) (by first | assumption | omega) (by rw [i7]; exact hnm.o) (⟨hclm.o.choose_spec.2.1, hclm.o.choose_spec.2.2.2.2.2.1⟩) _) ?_
      rintro _ T24 ⟨hHT24, w162, z161, rfl, w161, o42⟩
      have hFT24 : FR md_rr_test__p S T24 := FR.tr hF w162 rfl
      show Pl _ _ _ _ _ _ [iv z161] _ _
      have K42 : True := trivial
      refine y_ireturn rfl (retI_z (by omega)) ?_
      exact ⟨hHT24, hFT24, _, rfl, ⟨by omega, by omega⟩, (by first | (have u := K245; exact tso_a A139.o c198 j198 Wj139 (by rw [gq145]; omega) r198 (by omega) (by omega) (by omega) m198 p198 e245 (FR_clj F245 rfl hcl) (FR_clj F245 rfl hcl) (FR_clj F245 rfl hcl) (FR_clj F245 rfl hcl) h245 rfl) | (have u := Y226; first | exact tso_n A139.o k226 Wj139 (by rw [gq145]; omega) r198 (by omega) (by omega) (by omega) (Or.inl ⟨by omega, rfl⟩) (by omega) Y226 | exact tso_n A139.o k226 Wj139 (by rw [gq145]; omega) r198 (by omega) (by omega) (by omega) (Or.inr ⟨by omega, rfl⟩) (by omega) Y226) | (have u := K158; exact tso_l A139.o hF rfl rfl rfl rfl rfl rfl rfl Wj139 (by rw [gq145]; omega) (FR_clj F158 rfl hcl) (FR_clj F158 rfl hcl) (FR_clj F158 rfl hcl) (FR_clj F158 rfl hcl) o158) | (have u := Y79; exact tso_w k79 (by omega) b46 (by omega) (by omega) Y79) | (have u := K42; exact tso_p hf i7 (by omega) rfl b37 hclm.o.choose_spec o42) | exact tso_s hf (by omega) hclm.o.choose_spec (FR_clj F22 rfl hcl) (FR_clj F22 rfl hcl) (FR_clj F22 rfl hcl) o22)⟩
  · refine y_aload_n rfl rfl ?_
    refine y_iload_n rfl rfl ?_
    refine y_iload_n rfl rfl ?_
    refine y_aload_n rfl rfl ?_
    refine y_callV rfl rfl rfl (t_rr_saying__p hH from_ to cl ⟨by omega, by omega⟩ ⟨by omega, by omega⟩ (by omega) (by first | assumption | omega) (by first | assumption | exact (CEN_FR hF rfl rfl (by assumption : CEN S))) (by first | assumption | omega) (by first | assumption | omega) (by first | assumption | omega) _) ?_
    rintro _ T25 ⟨hHT25, w164, z163, rfl, w163, o22⟩
    have hFT25 : FR md_rr_test__p S T25 := FR.tr hF w164 rfl
    show Pl _ _ _ _ _ _ [iv z163] _ _
    have K22 : True := trivial
    have F22 := (by assumption : FR md_rr_saying__p S T25)
    refine y_ireturn rfl (retI_z (by omega)) ?_
    exact ⟨hHT25, hFT25, _, rfl, ⟨by omega, by omega⟩, (by first | (have u := K245; exact tso_a A139.o c198 j198 Wj139 (by rw [gq145]; omega) r198 (by omega) (by omega) (by omega) m198 p198 e245 (FR_clj F245 rfl hcl) (FR_clj F245 rfl hcl) (FR_clj F245 rfl hcl) (FR_clj F245 rfl hcl) h245 rfl) | (have u := Y226; first | exact tso_n A139.o k226 Wj139 (by rw [gq145]; omega) r198 (by omega) (by omega) (by omega) (Or.inl ⟨by omega, rfl⟩) (by omega) Y226 | exact tso_n A139.o k226 Wj139 (by rw [gq145]; omega) r198 (by omega) (by omega) (by omega) (Or.inr ⟨by omega, rfl⟩) (by omega) Y226) | (have u := K158; exact tso_l A139.o hF rfl rfl rfl rfl rfl rfl rfl Wj139 (by rw [gq145]; omega) (FR_clj F158 rfl hcl) (FR_clj F158 rfl hcl) (FR_clj F158 rfl hcl) (FR_clj F158 rfl hcl) o158) | (have u := Y79; exact tso_w k79 (by omega) b46 (by omega) (by omega) Y79) | (have u := K42; exact tso_p hf i7 (by omega) rfl b37 hclm.o.choose_spec o42) | exact tso_s hf (by omega) hclm.o.choose_spec (FR_clj F22 rfl hcl) (FR_clj F22 rfl hcl) (FR_clj F22 rfl hcl) o22)⟩
end
section
/-! tests of the class: several -/
/-- what a state must have in common with another for tests to mean the same -/
def AGT (S P : sS) : Prop := ty7 P = ty7 S ∧ (∀ x y, ruF P x y = ruF S x y) ∧ (∀ s x y, fnd P s x y = fnd S s x y) ∧ (∀ x y, mnV P x y = mnV S x y) ∧ (∀ k o, isK P k o = isK S k o) ∧ (∀ k, pps P k = pps S k) ∧ (∀ r, pc7 P r = pc7 S r) ∧ (∀ j, Xj P 879 j = Xj S 879 j) ∧ (∀ c j, c = 8 ∨ c = 9 ∨ c = 14 ∨ c = 15 ∨ c = 18 ∨ c = 21 → Xi P c j = Xi S c j) ∧ (∀ k a b v d, raF P k a b v d = raF S k a b v d) ∧ (∀ k a b v, rlF P k a b v = rlF S k a b v) ∧ Xi P 895 3 = Xi S 895 3 ∧ Xi P 895 4 = Xi S 895 4 ∧ Xi P 876 7 = Xi S 876 7
theorem AGT_F {l : List rec} {S P : sS} (h : FR l S P) (e1 : (kdis l [(877, 878)] && !(mdf l 876 7)) = true) (e2 : (kdis l kA && !(mdf l 1 3)) = true) (e3 : kdis l kA = true) (e4 : kdis l [(878, 879)] = true) (e5 : mdf l 876 7 = false) (e6 : mdf l 876 5 = false) (e7 : kdis l [(8, 22)] = true) (e8 : mdf l 895 3 = false) (e9 : mdf l 895 4 = false) (ea : kdis l [(6, 7)] = true) (eb : kdis l [(9, 10)] = true) (ec : kdis l [(8, 9)] = true) : AGT S P :=
  ⟨ty7_F h e1, fun _ _ => ruF_FR h e1, fun _ _ _ => fnd_FR h e2, fun _ _ => mnV_FR h e2, fun _ _ => isK_F h ea _ _, fun _ => ra_p h e3 rfl, pc7_FR h e4 e5 e6, fun j => SMK_j (h.smk e3) 879 rfl j, fun c j q => by rcases q with q | q | q | q | q | q <;> (subst q; exact (h.smk e7).x _ rfl j), fun _ _ _ _ _ => raF_FR h e2, fun _ _ _ _ => rlF_FR h e2 eb e3 ec, h.x 895 3 e8, h.x 895 4 e9, h.x 876 7 e5⟩
section AG
variable {S P : sS}
theorem whoC_A (g : AGT S P) (a b : Int) : whoC P a b = whoC S a b := by
  obtain ⟨t, r, f, m, k, p, c, j, x, ra, rl, e3, e4, e7⟩ := g
  unfold whoC
  simp only [t, r, f, e3, e4]
theorem whkC_A (g : AGT S P) (a b : Int) : whkC P a b = whkC S a b := by
  obtain ⟨t, r, f, m, k, p, c, j, x, ra, rl, e3, e4, e7⟩ := g
  have x21 : ∀ j, Xi P 21 j = Xi S 21 j := fun j => x 21 j (by omega)
  unfold whkC
  simp only [t, r, f, e3, e4, x21]
theorem whrC_A (g : AGT S P) (a : Int) : whrC P a = whrC S a := by unfold whrC; rw [g.1]
theorem wheC_A (g : AGT S P) (a b : Int) : wheC P a b = wheC S a b := by
  unfold wheC
  simp only [g.1, g.2.1]
theorem plR_A (g : AGT S P) (a : Int) : plR P a = plR S a := by unfold plR; rw [g.1]
theorem vs7_A (g : AGT S P) (i : Int) : vs7 P i = vs7 S i := by unfold vs7; rw [g.1, g.2.2.1]
theorem rs7_A (g : AGT S P) (i : Int) : rs7 P i = rs7 S i := by unfold rs7; rw [vs7_A g, g.2.2.2.2.2.2.2.2.1 18 _ (by omega)]
theorem qsC_A (g : AGT S P) (a b i : Int) : qsC P a b i = qsC S a b i := by
  have x := g.2.2.2.2.2.2.2.2.1
  have x14 : ∀ j, Xi P 14 j = Xi S 14 j := fun j => x 14 j (by omega)
  have x15 : ∀ j, Xi P 15 j = Xi S 15 j := fun j => x 15 j (by omega)
  unfold qsC qsA
  simp only [vs7_A g, rs7_A g, wheC_A g, whkC_A g, whoC_A g, g.2.2.2.2.1, x14, x15]
theorem cnS_A (g : AGT S P) (a b : Int) : ∀ n : Nat, cnS P a b n = cnS S a b n
  | 0 => rfl
  | n + 1 => by
    rw [cnS, cnS, cnS_A g a b n]
    by_cases q : qsC S a b (a + n)
    · rw [if_pos q, if_pos (by rw [qsC_A g]; exact q)]
    · rw [if_neg q, if_neg (by rw [qsC_A g]; exact q)]
theorem psS_A (g : AGT S P) (a b : Int) : ∀ n : Nat, psS P a b n = psS S a b n
  | 0 => rfl
  | n + 1 => by
    rw [psS, psS, psS_A g a b n]
    by_cases q : qsC S a b (a + n)
    · rw [if_pos q, if_pos (by rw [qsC_A g]; exact q)]
    · rw [if_neg q, if_neg (by rw [qsC_A g]; exact q)]
theorem numT_A (g : AGT S P) (i : Int) : numT P i = numT S i := by unfold numT; rw [g.1]
theorem ntT_A (g : AGT S P) (i : Int) : ntT P i = ntT S i := by unfold ntT; rw [g.1]
theorem isP_A (g : AGT S P) (a b : Int) : isP P a b = isP S a b := by unfold isP; rw [g.1]
theorem wJ_A (g : AGT S P) (a b : Int) : wJ P a b = wJ S a b := by unfold wJ; rw [isP_A g, ntT_A g]
theorem bpP_A (g : AGT S P) (a : Int) : bpP P a = bpP S a := by unfold bpP; rw [g.1]
theorem pOK_A (g : AGT S P) (a b k n : Int) : pOK P a b k n = pOK S a b k n := by
  have x9 : ∀ j, Xi P 9 j = Xi S 9 j := fun j => g.2.2.2.2.2.2.2.2.1 9 j (by omega)
  unfold pOK
  simp only [g.2.2.2.1, g.2.2.2.2.2.1, x9]
theorem WHR_A (g : AGT S P) (r tp v l : Int) : WHR P r tp v l = WHR S r tp v l := by
  have x8 : ∀ j, Xi P 8 j = Xi S 8 j := fun j => g.2.2.2.2.2.2.2.2.1 8 j (by omega)
  unfold WHR
  simp only [g.1, g.2.1, g.2.2.2.1, g.2.2.2.2.2.2.1, g.2.2.2.2.2.2.2.1, x8]
theorem PTY_A (g : AGT S P) (a i l f n w h t q : Int) : PTY P a i l f n w h t q = PTY S a i l f n w h t q := by
  have x9 : ∀ j, Xi P 9 j = Xi S 9 j := fun j => g.2.2.2.2.2.2.2.2.1 9 j (by omega)
  unfold PTY
  simp only [pOK_A g, whkC_A g, whoC_A g, numT_A g, ntT_A g, WHR_A g, g.1, g.2.2.2.1, g.2.2.2.2.2.2.2.1, x9]
theorem PTN_A (g : AGT S P) (a i l c r : Int) : PTN P a i l c r = PTN S a i l c r := by
  have x9 : ∀ j, Xi P 9 j = Xi S 9 j := fun j => g.2.2.2.2.2.2.2.2.1 9 j (by omega)
  unfold PTN
  simp only [pOK_A g, whkC_A g, whoC_A g, whrC_A g, numT_A g, ntT_A g, WHR_A g, g.1, g.2.2.2.1, x9]
theorem TSY_A (g : AGT S P) (a b now f n w h t q m : Int) : TSY P a b now f n w h t q m = TSY S a b now f n w h t q m := by
  obtain ⟨_, _, _, mm, _, _, _, _, _, ra, rl, _, _, e7⟩ := id g
  unfold TSY plS
  simp only [isP_A g, cnS_A g, psS_A g, whoC_A g, whkC_A g, rs7_A g, bpP_A g, PTY_A g, ntT_A g, wJ_A g, plR_A g, g.1, mm, ra, rl, e7]
theorem TSN_A (g : AGT S P) (a b now c r : Int) : TSN P a b now c r = TSN S a b now c r := by
  obtain ⟨_, _, _, mm, _, _, _, _, _, ra, rl, _, _, e7⟩ := id g
  unfold TSN
  simp only [isP_A g, cnS_A g, whoC_A g, whkC_A g, whrC_A g, bpP_A g, PTN_A g, ntT_A g, wJ_A g, plR_A g, g.1, ra, e7]
end AG

def md_cl_start__p : List rec := [(276, 876, 0, 1), (276, 876, 1, 2), (276, 876, 2, 3), (276, 876, 3, 4), (276, 876, 4, 5), (276, 876, 5, 6), (276, 876, 6, 7)]
abbrev Q_cl_start__p (S : sS) (c : Nat) (form : Int) : pst := fun r S1 => RI S1 ∧ FR md_cl_start__p S S1 ∧ (r = none ∧ (CLM S1 c form 0 (-1) (-1) 0 0 (-1)) ∧ (KCL S S1 c))
set_option maxRecDepth 100000 in
theorem t_cl_start__p {S : sS} (hH : RI S) (c : Nat) (form : Int) (hc : c < 600) (hform : 0 ≤ form ∧ form ≤ 11) (d : Nat) : Mp lay0 (d + 1) m_cl_start [.ref (276 + c), iv form] S (Q_cl_start__p S c form) := by
  refine Mp_R rfl rfl (fun fu => ?_)
  have hF : FR md_cl_start__p S S := FR.rf
  refine y_aload_n rfl rfl ?_
  refine y_iload_n rfl rfl ?_
  refine y_pfi rfl rfl (layClW (by omega) rfl) rfl ?_
  obtain ⟨U1, eU1⟩ : ∃ T : sS, T = uI S (276 + c) 0 (Int32.ofInt form) := ⟨_, rfl⟩
  rw [← eU1]
  have hHU1 : RI U1 := by rw [eU1]; exact RI_w hH
  have hFU1 : FR md_cl_start__p S U1 := by rw [eU1]; exact FR.wI hF (mdf_i (r := (276, 876, 0, 1)) (List.mem_of_getElem? (i := 0) rfl) (inR_i (by omega) (by omega) (by omega) (by omega)))
  have w1 : Xi U1 (276 + c) 0 = form := by rw [eU1]; exact Xi_same (by unfold rg; omega)
  have e2 := eU1
  refine y_aload_n rfl rfl ?_
  refine y_iconst rfl ?_
  refine y_pfz rfl rfl (layClW (by omega) rfl) rfl (by omega) ?_
  obtain ⟨U2, eU2⟩ : ∃ T : sS, T = uI U1 (276 + c) 1 (Int32.ofInt 0) := ⟨_, rfl⟩
  rw [← eU2]
  have hHU2 : RI U2 := by rw [eU2]; exact RI_w hHU1
  have hFU2 : FR md_cl_start__p S U2 := by rw [eU2]; exact FR.wI hFU1 (mdf_i (r := (276, 876, 1, 2)) (List.mem_of_getElem? (i := 1) rfl) (inR_i (by omega) (by omega) (by omega) (by omega)))
  have w2 : Xi U2 (276 + c) 1 = 0 := by rw [eU2]; exact Xi_same (by unfold rg; omega)
  have e7 := eU2
  refine y_aload_n rfl rfl ?_
  refine y_iconst rfl ?_
  refine y_pfi rfl rfl (layClW (by omega) rfl) rfl ?_
  obtain ⟨U3, eU3⟩ : ∃ T : sS, T = uI U2 (276 + c) 2 (Int32.ofInt (-1)) := ⟨_, rfl⟩
  rw [← eU3]
  have hHU3 : RI U3 := by rw [eU3]; exact RI_w hHU2
  have hFU3 : FR md_cl_start__p S U3 := by rw [eU3]; exact FR.wI hFU2 (mdf_i (r := (276, 876, 2, 3)) (List.mem_of_getElem? (i := 2) rfl) (inR_i (by omega) (by omega) (by omega) (by omega)))
  have w3 : Xi U3 (276 + c) 2 = (-1) := by rw [eU3]; exact Xi_same (by unfold rg; omega)
  have e12 := eU3
  refine y_aload_n rfl rfl ?_
  refine y_iconst rfl ?_
  refine y_pfi rfl rfl (layClW (by omega) rfl) rfl ?_
  obtain ⟨U4, eU4⟩ : ∃ T : sS, T = uI U3 (276 + c) 3 (Int32.ofInt (-1)) := ⟨_, rfl⟩
  rw [← eU4]
  have hHU4 : RI U4 := by rw [eU4]; exact RI_w hHU3
  have hFU4 : FR md_cl_start__p S U4 := by rw [eU4]; exact FR.wI hFU3 (mdf_i (r := (276, 876, 3, 4)) (List.mem_of_getElem? (i := 3) rfl) (inR_i (by omega) (by omega) (by omega) (by omega)))
  have w4 : Xi U4 (276 + c) 3 = (-1) := by rw [eU4]; exact Xi_same (by unfold rg; omega)
  have e17 := eU4
  refine y_aload_n rfl rfl ?_
  refine y_iconst rfl ?_
  refine y_pfi rfl rfl (layClW (by omega) rfl) rfl ?_
  obtain ⟨U5, eU5⟩ : ∃ T : sS, T = uI U4 (276 + c) 4 (Int32.ofInt 0) := ⟨_, rfl⟩
  rw [← eU5]
  have hHU5 : RI U5 := by rw [eU5]; exact RI_w hHU4
  have hFU5 : FR md_cl_start__p S U5 := by rw [eU5]; exact FR.wI hFU4 (mdf_i (r := (276, 876, 4, 5)) (List.mem_of_getElem? (i := 4) rfl) (inR_i (by omega) (by omega) (by omega) (by omega)))
  have w5 : Xi U5 (276 + c) 4 = 0 := by rw [eU5]; exact Xi_same (by unfold rg; omega)
  have e22 := eU5
  refine y_aload_n rfl rfl ?_
  refine y_iconst rfl ?_
  refine y_pfi rfl rfl (layClW (by omega) rfl) rfl ?_
  obtain ⟨U6, eU6⟩ : ∃ T : sS, T = uI U5 (276 + c) 5 (Int32.ofInt 0) := ⟨_, rfl⟩
  rw [← eU6]
  have hHU6 : RI U6 := by rw [eU6]; exact RI_w hHU5
  have hFU6 : FR md_cl_start__p S U6 := by rw [eU6]; exact FR.wI hFU5 (mdf_i (r := (276, 876, 5, 6)) (List.mem_of_getElem? (i := 5) rfl) (inR_i (by omega) (by omega) (by omega) (by omega)))
  have w6 : Xi U6 (276 + c) 5 = 0 := by rw [eU6]; exact Xi_same (by unfold rg; omega)
  have e27 := eU6
  refine y_aload_n rfl rfl ?_
  refine y_iconst rfl ?_
  refine y_pfi rfl rfl (layClW (by omega) rfl) rfl ?_
  obtain ⟨U7, eU7⟩ : ∃ T : sS, T = uI U6 (276 + c) 6 (Int32.ofInt (-1)) := ⟨_, rfl⟩
  rw [← eU7]
  have hHU7 : RI U7 := by rw [eU7]; exact RI_w hHU6
  have hFU7 : FR md_cl_start__p S U7 := by rw [eU7]; exact FR.wI hFU6 (mdf_i (r := (276, 876, 6, 7)) (List.mem_of_getElem? (i := 6) rfl) (inR_i (by omega) (by omega) (by omega) (by omega)))
  have w7 : Xi U7 (276 + c) 6 = (-1) := by rw [eU7]; exact Xi_same (by unfold rg; omega)
  have e32 := eU7
  refine y_return rfl rfl ?_
  exact ⟨hHU7, hFU7, rfl, (by rw [CLM, e32, Xi_ne (by omega), Xi_ne (by omega), Xi_ne (by omega), Xi_ne (by omega), Xi_ne (by omega), Xi_ne (by omega), Xi_same (by unfold rg; omega), e27, Xi_ne (by omega), Xi_ne (by omega), Xi_ne (by omega), Xi_ne (by omega), Xi_ne (by omega), Xi_same (by unfold rg; omega), e22, Xi_ne (by omega), Xi_ne (by omega), Xi_ne (by omega), Xi_ne (by omega), Xi_same (by unfold rg; omega), e17, Xi_ne (by omega), Xi_ne (by omega), Xi_ne (by omega), Xi_same (by unfold rg; omega), e12, Xi_ne (by omega), Xi_ne (by omega), Xi_same (by unfold rg; omega), e7, Xi_ne (by omega), Xi_same (by unfold rg; omega), e2, Xi_same (by unfold rg; omega)]; exact ⟨rfl, rfl, rfl, rfl, rfl, rfl, rfl⟩), (kcl_w e32 (kcl_w e27 (kcl_w e22 (kcl_w e17 (kcl_w e12 (kcl_w e7 (kcl_w e2 KCL.rf)))))))⟩
def md_bo_nextClause__p : List rec := [(246, 247, 5, 6), (276, 876, 0, 1), (276, 876, 1, 2), (276, 876, 2, 3), (276, 876, 3, 4), (276, 876, 4, 5), (276, 876, 5, 6), (276, 876, 6, 7)]
abbrev Q_bo_nextClause__p (S : sS) (form : Int) : pst := fun r S1 => RI S1 ∧ FR md_bo_nextClause__p S S1 ∧ (∃ z : Nat, r = some (.ref (276 + z)) ∧ z < 600 ∧ (Xi S1 246 5 = Xi S 246 5 + 1) ∧ ((z : Int) = Xi S 246 5) ∧ (KCL S S1 z) ∧ (CLM S1 z form 0 (-1) (-1) 0 0 (-1)))
set_option maxRecDepth 100000 in
theorem t_bo_nextClause__p {S : sS} (hH : RI S) (form : Int) (hform : 0 ≤ form ∧ form ≤ 11) (hcc : 0 ≤ Xi S 246 5 ∧ Xi S 246 5 < 600) (d : Nat) : Mp lay0 (d + 2) m_bo_nextClause [.ref 246, iv form] S (Q_bo_nextClause__p S form) := by
  refine Mp_R rfl rfl (fun fu => ?_)
  have hF : FR md_bo_nextClause__p S S := FR.rf
  have w1 : -2147483648 ≤ Xi S 246 5 ∧ Xi S 246 5 ≤ 2147483647 := Xi_rgI
  refine y_aload_n rfl rfl ?_
  refine y_gfr rfl rfl rfl rfl rfl (hH.r 246 4 273 rfl) ?_
  refine y_aload_n rfl rfl ?_
  refine y_gfi rfl rfl rfl rfl rfl ?_
  refine y_sipush rfl rfl ?_
  refine y_icmp_ge rfl rfl (by unfold rg; omega) (by unfold rg; omega) (fun w2 => ?_) (fun w3 => ?_)
  · exfalso; omega
  · refine y_aload_n rfl rfl ?_
    refine y_gfi rfl rfl rfl rfl rfl ?_
    refine y_goto rfl rfl ?_
    refine y_aaload (n := 600) (a := 276 + ((Xi S 246 5)).toNat) rfl rfl (by decide) (by omega) (by omega) (by unfold rg; omega) (hH.rw 273 276 600 _ (by decide) (by omega)) ?_
    refine y_astore_n rfl rfl rfl ?_
    refine y_aload_n rfl rfl ?_
    refine y_dup rfl rfl ?_
    refine y_gfi rfl rfl rfl rfl rfl ?_
    refine y_iconst rfl ?_
    refine y_iadd rfl ?_
    refine y_pfi rfl rfl rfl rfl ?_
    obtain ⟨U1, eU1⟩ : ∃ T : sS, T = uI S 246 5 (Int32.ofInt ((Xi S 246 5) + 1)) := ⟨_, rfl⟩
    rw [← eU1]
    have hHU1 : RI U1 := by rw [eU1]; exact RI_w hH
    have hFU1 : FR md_bo_nextClause__p S U1 := by rw [eU1]; exact FR.wI hF (mdf_i (r := (246, 247, 5, 6)) (List.mem_of_getElem? (i := 0) rfl) (inR_i (by omega) (by omega) (by omega) (by omega)))
    have w4 : Xi U1 246 5 = ((Xi S 246 5) + 1) := by rw [eU1]; exact Xi_same (by unfold rg; omega)
    have e33 := eU1
    refine y_aload_n rfl rfl ?_
    refine y_iload_n rfl rfl ?_
    refine y_callV rfl rfl (cOk_cl (by omega) rfl) (t_cl_start__p hHU1 (((Xi S 246 5)).toNat) form (by omega) ⟨by omega, by omega⟩ _) ?_
    rintro _ T2 ⟨hHT2, w6, rfl, c38, k38⟩
    have hFT2 : FR md_bo_nextClause__p S T2 := FR.tr hFU1 w6 rfl
    show Pl _ _ _ _ _ _ [] _ _
    refine y_aload_n rfl rfl ?_
    refine y_areturn rfl rfl ?_
    have w7 : Xi T2 246 5 = Xi U1 246 5 := (show Xi T2 246 5 = Xi U1 246 5 from w6.x _ _ rfl)
    exact ⟨hHT2, hFT2, _, rfl, (by omega), (by omega), (by omega), (kcl_tr (kcl_o e33 (by omega) KCL.rf) k38), (c38)⟩
end
section
/-! tests of the class: a list of them -/
def pT7 (S : sS) (a : Int) : Nat → Int
  | 0 => a
  | k + 1 => te8 (ty7 S) 0 (pT7 S a k) + 1
def eT7 (S : sS) (a : Int) (k : Nat) : Int := te8 (ty7 S) 0 (pT7 S a k)
def TGD (S T : sS) (a : Int) (k : Nat) : Prop := ∃ f n w h t g m : Int, TSY S (pT7 S a k) (eT7 S a k) 0 f n w h t g m ∧ CLM T ((Xi S 246 5).toNat + k) f n w h t g m
def TCK (S T : sS) (a : Int) (n : Nat) : Prop := Xi T 899 6 = n ∧ Xi T 246 5 = Xi S 246 5 + n ∧ (∀ k : Nat, k < n → TGD S T a k) ∧ (∀ k : Nat, k + 1 < n → ty7 S (eT7 S a k) = 16) ∧ (∀ c j : Nat, c < (Xi S 246 5).toNat → Xi T (276 + c) j = Xi S (276 + c) j)
def TSS (S S1 : sS) (a z : Int) : Prop :=
  (a = -1 → z = 1 ∧ Xi S1 876 8 = 0 ∧ TCK S S1 a 0) ∧
  (a ≠ -1 → z = 1 → ∃ n : Nat, 0 < n ∧ n ≤ 6 ∧ Xi S1 876 8 = 0 ∧ TCK S S1 a n ∧ ty7 S (eT7 S a (n - 1)) ≠ 16) ∧
  (a ≠ -1 → z = 0 → ∃ n : Nat, n ≤ 6 ∧ (∀ k : Nat, k < n → ty7 S (eT7 S a k) = 16) ∧ (∀ k : Nat, k < n → ∃ f i w h t g m : Int, TSY S (pT7 S a k) (eT7 S a k) 0 f i w h t g m) ∧ ((n = 6 ∧ FTO S S1 9 (pT7 S a 6)) ∨ (n < 6 ∧ ∃ c r : Int, TSN S (pT7 S a n) (eT7 S a n) 0 c r ∧ FTO S S1 c r)))
theorem tck_0 {S T : sS} {a : Int} (h6 : Xi T 899 6 = 0) (h5 : Xi T 246 5 = Xi S 246 5) (k : ∀ c j : Nat, c < (Xi S 246 5).toNat → Xi T (276 + c) j = Xi S (276 + c) j) : TCK S T a 0 := ⟨h6, by omega, fun k q => absurd q (Nat.not_lt_zero _), fun k q => absurd q (by omega), k⟩
theorem tck_s {S T V : sS} {a : Int} {n cl : Nat} (c : TCK S T a n) (kk : KCL T V cl) (hcl : cl = (Xi S 246 5).toNat + n) (h6 : cl < 600) (mo : 0 < n → ty7 S (eT7 S a (n - 1)) = 16) (ty : ∃ f i w h t g m : Int, TSY S (pT7 S a n) (eT7 S a n) 0 f i w h t g m ∧ CLM V cl f i w h t g m) (v6 : Xi V 899 6 = n + 1) (v5 : Xi V 246 5 = Xi T 246 5 + 1) : TCK S V a (n + 1) := by
  obtain ⟨c1, c2, c3, c4, c5⟩ := c
  refine ⟨by rw [v6]; omega, by omega, fun k hk => ?_, fun k hk => ?_, fun x j hx => ?_⟩
  · by_cases q : k < n
    · obtain ⟨f, i, w, h, t, g, m, y, z⟩ := c3 k q
      have e : ∀ j, Xi V (276 + ((Xi S 246 5).toNat + k)) j = Xi T (276 + ((Xi S 246 5).toNat + k)) j := fun j => kk _ j (by omega) (by omega)
      exact ⟨f, i, w, h, t, g, m, y, by unfold CLM at z ⊢; rw [e, e, e, e, e, e, e]; exact z⟩
    · have : k = n := by omega
      subst this
      obtain ⟨f, i, w, h, t, g, m, y, z⟩ := ty
      exact ⟨f, i, w, h, t, g, m, y, by rw [← hcl]; exact z⟩
  · by_cases q : k + 1 < n
    · exact c4 k q
    · have u := mo (by omega)
      rw [show k = n - 1 by omega]
      exact u
  · rw [kk x j (by omega) (by omega)]; exact c5 x j hx
theorem clm_e {T U : sS} {cl : Nat} {f i w h t g m : Int} (e : ∀ j, Xi U (276 + cl) j = Xi T (276 + cl) j) (c : CLM T cl f i w h t g m) : CLM U cl f i w h t g m := by
  unfold CLM at c ⊢
  rw [e, e, e, e, e, e, e]
  exact c
/-- where tests lie -/
def TPQ (S : sS) (a : Int) : Prop := ∀ k : Nat, k ≤ 5 → (∀ j : Nat, j < k → ty7 S (eT7 S a j) = 16) → (0 ≤ pT7 S a k ∧ pT7 S a k ≤ Xi S 876 7 ∧ pT7 S a k ≤ eT7 S a k ∧ eT7 S a k ≤ 5100) ∧ (isP S (pT7 S a k) (eT7 S a k) = -1 ∨ (0 ≤ isP S (pT7 S a k) (eT7 S a k) ∧ isP S (pT7 S a k) (eT7 S a k) ≤ 5110)) ∧ (numT S (isP S (pT7 S a k) (eT7 S a k)) = 1 → isP S (pT7 S a k) (eT7 S a k) + 3 < Xi S 876 7 ∧ 0 ≤ Xj S 879 (isP S (pT7 S a k) (eT7 S a k) + 3).toNat ∧ Xj S 879 (isP S (pT7 S a k) (eT7 S a k) + 3).toNat ≤ 2147483647)
theorem tck_m {S T : sS} {a : Int} {n : Nat} (c : TCK S T a n) (mo : 0 < n → ty7 S (eT7 S a (n - 1)) = 16) : ∀ j : Nat, j < n → ty7 S (eT7 S a j) = 16 := fun j hj => by
  by_cases q : j + 1 < n
  · exact c.2.2.2.1 j q
  · rw [show j = n - 1 by omega]; exact mo (by omega)
theorem tss_x {S T S1 : sS} {a z : Int} {n : Nat} (hz : z = 0) (ha : a ≠ -1) (c : TCK S T a n) (mo : 0 < n → ty7 S (eT7 S a (n - 1)) = 16) (hn : n ≤ 6) (r : (n = 6 ∧ FTO S S1 9 (pT7 S a 6)) ∨ (n < 6 ∧ ∃ c r : Int, TSN S (pT7 S a n) (eT7 S a n) 0 c r ∧ FTO S S1 c r)) : TSS S S1 a z :=
  ⟨fun q => absurd q ha, fun _ q => absurd q (by omega), fun _ _ => ⟨n, hn, tck_m c mo, fun k hk => by obtain ⟨f, i, w, h, t, g, m, y, _⟩ := c.2.2.1 k hk; exact ⟨f, i, w, h, t, g, m, y⟩, r⟩⟩
theorem tss_g {S T : sS} {a : Int} {n : Nat} (c : TCK S T a n) (h8 : Xi T 876 8 = 0) (hn : n ≤ 6) (x : (a = -1 ∧ n = 0) ∨ (a ≠ -1 ∧ 0 < n ∧ ty7 S (eT7 S a (n - 1)) ≠ 16)) : TSS S T a 1 := by
  refine ⟨fun q => ⟨rfl, h8, ?_⟩, fun q _ => ?_, fun _ q => absurd q (by decide)⟩
  · rcases x with x | x
    · rw [x.2] at c; exact c
    · exact absurd q x.1
  · rcases x with x | x
    · exact absurd x.1 q
    · exact ⟨n, x.2.1, hn, h8, c, x.2.2⟩
theorem tso_T {S P U : sS} {cl : Nat} {a b p e now z : Int} (g : AGT S P) (ha : a = p) (hb : b = e) (o : TSO P U cl a b now z) : KCL P U cl ∧ (z = 1 → Xi U 876 8 = 0 ∧ ∃ f n w h t q m : Int, TSY S p e now f n w h t q m ∧ CLM U cl f n w h t q m) ∧ (z = 0 → ∃ c r : Int, TSN S p e now c r ∧ FTO S U c r) := by
  subst ha hb
  refine ⟨o.1, fun hz => ?_, fun hz => ?_⟩
  · obtain ⟨e8, f, n, w, h, t, q, m, y, c⟩ := o.2.1 hz
    rw [TSY_A g] at y
    exact ⟨e8, f, n, w, h, t, q, m, y, c⟩
  · obtain ⟨c, r, y, f⟩ := o.2.2 hz
    rw [TSN_A g] at y
    exact ⟨c, r, y, f.1, f.2.trans (g.2.2.2.2.2.2.1 r)⟩

def md_rr_tests__p : List rec := [(246, 247, 5, 6), (276, 876, 0, 1), (276, 876, 1, 2), (276, 876, 2, 3), (276, 876, 3, 4), (276, 876, 4, 5), (276, 876, 5, 6), (276, 876, 6, 7), (876, 877, 8, 9), (876, 877, 9, 10), (895, 896, 5, 6), (895, 896, 6, 7), (895, 896, 7, 8), (895, 896, 8, 9), (895, 896, 9, 10), (895, 896, 10, 11), (895, 896, 11, 12), (899, 900, 5, 6), (899, 900, 6, 7)]
end
section
/-! 2: the class defines -/
def SDF (S S1 : sS) (z k a e : Int) : Prop :=
  (k = -1 → z = 0 ∧ FTO S S1 4 3) ∧ (k ≠ -1 → ¬ nwC S a e → z = 0 ∧ FTO S S1 3 a) ∧ (k ≠ -1 → nwC S a e → 24 ≤ Xi S 5 3 → z = 0 ∧ FTO S S1 9 a) ∧
  (k ≠ -1 → nwC S a e → Xi S 5 3 < 24 → z = 1 ∧ Xi S1 876 8 = 0 ∧ Xi S1 891 9 = 1 ∧ Xi S1 892 0 = a ∧ Xi S1 893 0 = e ∧ Xi S1 895 3 = 54 ∧ Xi S1 895 4 = k)
def KTS (S S1 : sS) (i : Int) : Prop := S1 = uI (uI S 12 i.toNat (Int32.ofInt (Xi S 246 5 - Xi S 899 6))) 13 i.toNat (Int32.ofInt (Xi S 899 6))
def EDF (l : List rec) (S S1 : sS) (z : Int) : Prop := z = 1 ∧ ∃ (T : sS) (i : Nat), FR l S T ∧ NMI S T i 3 (Xi S 5 3) (wRw S 879 (Xi S 892 0) (Xi S 893 0) 0) (wRw S 879 (Xi S 892 0) (Xi S 893 0) 1) (wRw S 879 (Xi S 892 0) (Xi S 893 0) 2) ∧ Xi T 5 3 = Xi S 5 3 + 1 ∧ (∀ j, j ≠ 3 → Xi T 5 j = Xi S 5 j) ∧ KTS (uI (uI T 10 (Xi S 5 3).toNat (Int32.ofInt (Xi S 895 4))) 11 (Xi S 5 3).toNat (Int32.ofInt (-1))) S1 (Xi S 5 3)

def md_re_startDefinition__p : List rec := [(876, 877, 8, 9), (876, 877, 9, 10), (891, 892, 9, 10), (892, 893, 0, 100000), (893, 894, 0, 100000), (895, 896, 3, 4), (895, 896, 4, 5)]
abbrev Q_re_startDefinition__p (S : sS) : pst := fun r S1 => RI S1 ∧ FR md_re_startDefinition__p S S1 ∧ (∃ z : Int, r = some (iv z) ∧ (0 ≤ z ∧ z ≤ 1) ∧ (SDF S S1 z (fnd S 0 3 (re7 (ty7 S) 3)) (re7 (ty7 S) 3 + 1) (re7 (ty7 S) (re7 (ty7 S) 3 + 1))))
set_option maxRecDepth 100000 in
theorem t_re_startDefinition__p {S : sS} (hH : RI S) (h13 : 0 ≤ Xi S 1 3 ∧ Xi S 1 3 ≤ 200) (hCE : CEN S) (hNB : NRB S) (hf : Xi S 876 8 = 0) (hr : Xi S 876 7 ≤ 5130) (hn0 : Xi S 891 9 = 0) (h53 : 0 ≤ Xi S 5 3 ∧ Xi S 5 3 ≤ 24) (hto2 : (re7 (ty7 S) (re7 (ty7 S) 3 + 1)) ≤ 5130) (d : Nat) : Mp lay0 (d + 3) m_re_startDefinition [.ref 891] S (Q_re_startDefinition__p S) := by
  refine Mp_R rfl rfl (fun fu => ?_)
  have hF : FR md_re_startDefinition__p S S := FR.rf
  have w1 : -2147483648 ≤ Xi S 1 3 ∧ Xi S 1 3 ≤ 2147483647 := Xi_rgI
  have w2 : -2147483648 ≤ Xi S 5 3 ∧ Xi S 5 3 ≤ 2147483647 := Xi_rgI
  have w3 : -2147483648 ≤ Xi S 876 7 ∧ Xi S 876 7 ≤ 2147483647 := Xi_rgI
  have w4 : -2147483648 ≤ Xi S 876 8 ∧ Xi S 876 8 ≤ 2147483647 := Xi_rgI
  have w5 : -2147483648 ≤ Xi S 891 9 ∧ Xi S 891 9 ≤ 2147483647 := Xi_rgI
  refine y_aload_n rfl rfl ?_
  refine y_gfr rfl rfl rfl rfl rfl (hH.r 891 0 876 rfl) ?_
  refine y_iconst rfl ?_
  refine y_callV rfl rfl rfl (t_to_runEnd__p hH 3 ⟨by omega, by omega⟩ _) ?_
  rintro _ _ ⟨rfl, z8, rfl, w8, w6, w7⟩
  show Pl _ _ _ _ _ _ [iv z8] _ _
  have gq5 := w6
  clear w6
  refine y_istore_n rfl rfl rfl ?_
  refine y_aload_n rfl rfl ?_
  refine y_gfr rfl rfl rfl rfl rfl (hH.r 891 4 895 rfl) ?_
  refine y_iconst rfl ?_
  refine y_iconst rfl ?_
  refine y_iload_n rfl rfl ?_
  refine y_callV rfl rfl rfl (t_me_find__p hH 0 3 z8 ⟨by omega, by omega⟩ ⟨by omega, by omega⟩ ⟨by omega, by omega⟩ (by first | assumption | omega) (by first | assumption | exact (CEN_FR hF rfl rfl (by assumption : CEN S))) _) ?_
  rintro _ _ ⟨rfl, z9, rfl, w9, v16⟩
  show Pl _ _ _ _ _ _ [iv z9] _ _
  have k16 : z9 = (fnd S 0 3 (re7 (ty7 S) 3)) := by have u := v16; rw [← gq5] at u; exact u
  refine y_istore_n rfl rfl rfl ?_
  refine y_aload_n rfl rfl ?_
  refine y_gfr rfl rfl rfl rfl rfl (hH.r 891 0 876 rfl) ?_
  refine y_iload_n rfl rfl ?_
  refine y_iconst rfl ?_
  refine y_iadd rfl ?_
  refine y_callV rfl rfl rfl (t_to_runEnd__p hH (z8 + 1) ⟨by omega, by omega⟩ _) ?_
  rintro _ _ ⟨rfl, z12, rfl, w12, w10, w11⟩
  show Pl _ _ _ _ _ _ [iv z12] _ _
  have gq27 := w10
  clear w10
  refine y_istore_n rfl rfl rfl ?_
  refine y_aload_n rfl rfl ?_
  refine y_gfr rfl rfl rfl rfl rfl (hH.r 891 4 895 rfl) ?_
  refine y_bipush rfl rfl ?_
  refine y_iload_n rfl rfl ?_
  refine y_callV rfl rfl rfl (t_me_startSelf__p hH 54 z9 ⟨by omega, by omega⟩ ⟨by omega, by omega⟩ _) ?_
  rintro _ T1 ⟨hHT1, w14, rfl, e38⟩
  have hFT1 : FR md_re_startDefinition__p S T1 := FR.tr hF w14 rfl
  show Pl _ _ _ _ _ _ [] _ _
  have F38 := (by assumption : FR md_me_startSelf__p S T1)
  have z38 : Xi T1 876 8 = 0 := (F38.x 876 8 rfl).trans hf
  have x38 : Xi T1 895 3 = 54 ∧ Xi T1 895 4 = (fnd S 0 3 (re7 (ty7 S) 3)) := by rw [e38]; exact ⟨by rw [Xi_ne (by omega)]; exact Xi_same (by unfold rg; omega), (Xi_same (by unfold rg; omega)).trans k16⟩
  refine y_iload_n rfl rfl ?_
  refine y_iconst rfl ?_
  refine y_icmp_ne rfl rfl (by unfold rg; omega) (by unfold rg; omega) (fun w15 => ?_) (fun w16 => ?_)
  · refine y_aload_n rfl rfl ?_
    refine y_iload_n rfl rfl ?_
    refine y_iconst rfl ?_
    refine y_iadd rfl ?_
    refine y_iload_n rfl rfl ?_
    refine y_aload_n rfl rfl ?_
    refine y_gfr rfl rfl rfl rfl rfl (hHT1.r 891 2 1 rfl) ?_
    refine y_iconst rfl ?_
    have w17 : Xi T1 5 3 = Xi S 5 3 := (show Xi T1 5 3 = Xi S 5 3 from w14.x _ _ rfl)
    have w18 : Xi T1 876 8 = Xi S 876 8 := (show Xi T1 876 8 = Xi S 876 8 from w14.x _ _ rfl)
    have w19 : Xi T1 891 9 = Xi S 891 9 := (show Xi T1 891 9 = Xi S 891 9 from w14.x _ _ rfl)
    refine y_callV rfl rfl rfl (t_vo_countOf__p hHT1 3 ⟨by omega, by omega⟩ _) ?_
    rintro _ _ ⟨rfl, z20, rfl, w20, p66⟩
    show Pl _ _ _ _ _ _ [iv z20, iv z12, iv (z8 + 1), .ref 891] _ _
    have c66 : z20 = Xi T1 5 3 := p66 (by omega) (by omega)
    have d66 : Xi T1 5 3 = Xi S 5 3 := F38.x 5 3 rfl
    refine y_bipush rfl rfl ?_
    have w21 : Xi T1 1 3 = Xi S 1 3 := (show Xi T1 1 3 = Xi S 1 3 from w14.x _ _ rfl)
    refine y_callV rfl rfl rfl (t_re_takeNew__p hHT1 (z8 + 1) z12 z20 24 ⟨by omega, by omega⟩ ⟨by omega, by omega⟩ ⟨by omega, by omega⟩ ⟨by omega, by omega⟩ (by first | assumption | omega) (by first | assumption | exact (CEN_FR hFT1 rfl rfl (by assumption : CEN S))) (by first | assumption | exact (NRB_FR w14 rfl rfl (by assumption : NRB S))) (by first | assumption | omega) (by first | assumption | omega) (by first | assumption | omega) (by have u := hto2; rw [gq5, gq27] at u; exact u) _) ?_
    rintro _ T2 ⟨hHT2, w26, z25, rfl, w25, n3_71, n9_71, ok_71, nb_71⟩
    have hFT2 : FR md_re_startDefinition__p S T2 := FR.tr hFT1 w26 rfl
    show Pl _ _ _ _ _ _ [iv z25] _ _
    have F71 := (by assumption : FR md_re_takeNew__p T1 T2)
    have N71 : nwC T1 (re7 (ty7 S) 3 + 1) (re7 (ty7 S) (re7 (ty7 S) 3 + 1)) ↔ nwC S (re7 (ty7 S) 3 + 1) (re7 (ty7 S) (re7 (ty7 S) 3 + 1)) := nwC_eq (SMV_FR F38 rfl rfl) (F38.x 891 9 rfl) (fun j => F38.x 892 j rfl) (fun j => F38.x 893 j rfl)
    have g71 : Xi T1 891 9 = 0 := (F38.x 891 9 rfl).trans hn0
    have h71 : Xi T1 5 3 = Xi S 5 3 := F38.x 5 3 rfl
    rw [← gq27, ← gq5] at n3_71 n9_71 ok_71
    have C71 : (¬ nwC S (re7 (ty7 S) 3 + 1) (re7 (ty7 S) (re7 (ty7 S) 3 + 1)) → z25 = 0 ∧ FTO S T2 3 (re7 (ty7 S) 3 + 1)) ∧ (nwC S (re7 (ty7 S) 3 + 1) (re7 (ty7 S) (re7 (ty7 S) 3 + 1)) → 24 ≤ Xi S 5 3 → z25 = 0 ∧ FTO S T2 9 (re7 (ty7 S) 3 + 1)) ∧ (nwC S (re7 (ty7 S) 3 + 1) (re7 (ty7 S) (re7 (ty7 S) 3 + 1)) → Xi S 5 3 < 24 → z25 = 1 ∧ Xi T2 876 8 = 0 ∧ Xi T2 891 9 = 1 ∧ Xi T2 892 0 = (re7 (ty7 S) 3 + 1) ∧ Xi T2 893 0 = (re7 (ty7 S) (re7 (ty7 S) 3 + 1)) ∧ Xi T2 895 3 = 54 ∧ Xi T2 895 4 = (fnd S 0 3 (re7 (ty7 S) 3))) := ⟨fun q => by have u := n3_71 (fun w => q (N71.1 w)); exact ⟨u.1, u.2.1, u.2.2.trans (pc7_FR F38 rfl rfl rfl _)⟩, fun q w => by have u := n9_71 (N71.2 q) (by omega); exact ⟨u.1, u.2.1, u.2.2.trans (pc7_FR F38 rfl rfl rfl _)⟩, fun q w => by have u := ok_71 (N71.2 q) (by omega); rw [g71] at u; exact ⟨u.1, u.2.1, u.2.2.1, u.2.2.2.1, u.2.2.2.2.1, (F71.x 895 3 rfl).trans x38.1, (F71.x 895 4 rfl).trans x38.2⟩⟩
    refine y_ireturn rfl (retI_z (by omega)) ?_
    exact ⟨hHT2, hFT2, _, rfl, ⟨by omega, by omega⟩, (by first | (have u := C71; exact ⟨fun q => absurd (k16.trans q) (by omega), fun _ q => C71.1 q, fun _ q w => C71.2.1 q w, fun _ q w => C71.2.2 q w⟩) | exact ⟨fun _ => ⟨by omega, Y52⟩, fun q => absurd (k16.symm.trans (by omega)) q, fun q => absurd (k16.symm.trans (by omega)) q, fun q => absurd (k16.symm.trans (by omega)) q⟩)⟩
  · refine y_aload_n rfl rfl ?_
    refine y_gfr rfl rfl rfl rfl rfl (hHT1.r 891 0 876 rfl) ?_
    refine y_iconst rfl ?_
    refine y_iconst rfl ?_
    have w29 : Xi T1 876 8 = Xi S 876 8 := (show Xi T1 876 8 = Xi S 876 8 from w14.x _ _ rfl)
    have w30 : Xi T1 876 9 = Xi S 876 9 := (show Xi T1 876 9 = Xi S 876 9 from w14.x _ _ rfl)
    refine y_callV rfl rfl rfl (t_to_wrong__p hHT1 4 3 ⟨by omega, by omega⟩ ⟨by omega, by omega⟩ _) ?_
    rintro _ T3 ⟨hHT3, w35, z34, rfl, w34, w32, f52, w33⟩
    have hFT3 : FR md_re_startDefinition__p S T3 := FR.tr hFT1 w35 rfl
    show Pl _ _ _ _ _ _ [iv z34] _ _
    have Y52 : FTO S T3 4 3 := by have u := f52 z38; exact ⟨u.1, u.2.trans (pc7_FR F38 rfl rfl rfl _)⟩
    refine y_ireturn rfl (retI_z (by omega)) ?_
    exact ⟨hHT3, hFT3, _, rfl, ⟨by omega, by omega⟩, (by first | (have u := C71; exact ⟨fun q => absurd (k16.trans q) (by omega), fun _ q => C71.1 q, fun _ q w => C71.2.1 q w, fun _ q w => C71.2.2 q w⟩) | exact ⟨fun _ => ⟨by omega, Y52⟩, fun q => absurd (k16.symm.trans (by omega)) q, fun q => absurd (k16.symm.trans (by omega)) q, fun q => absurd (k16.symm.trans (by omega)) q⟩)⟩
def md_rr_keepTests__p : List rec := [(12, 13, 0, 100000), (13, 14, 0, 100000)]
abbrev Q_rr_keepTests__p (S : sS) (adj : Int) : pst := fun r S1 => RI S1 ∧ FR md_rr_keepTests__p S S1 ∧ (r = none ∧ (KTS S S1 adj))
set_option maxRecDepth 100000 in
theorem t_rr_keepTests__p {S : sS} (hH : RI S) (adj : Int) (hadj : -2147483648 ≤ adj ∧ adj ≤ 2147483647) (hb : 0 ≤ Xi S 246 5 ∧ Xi S 246 5 ≤ 600 ∧ 0 ≤ Xi S 899 6 ∧ Xi S 899 6 ≤ 600) (d : Nat) : Mp lay0 (d + 1) m_rr_keepTests [.ref 899, iv adj] S (Q_rr_keepTests__p S adj) := by
  refine Mp_R rfl rfl (fun fu => ?_)
  have hF : FR md_rr_keepTests__p S S := FR.rf
  have w1 : -2147483648 ≤ Xi S 246 5 ∧ Xi S 246 5 ≤ 2147483647 := Xi_rgI
  have w2 : -2147483648 ≤ Xi S 899 6 ∧ Xi S 899 6 ≤ 2147483647 := Xi_rgI
  refine y_aload_n rfl rfl ?_
  refine y_gfr rfl rfl rfl rfl rfl (hH.r 899 1 1 rfl) ?_
  refine y_gfr rfl rfl rfl rfl rfl (hH.r 1 11 12 rfl) ?_
  refine y_iload_n rfl rfl ?_
  refine y_aload_n rfl rfl ?_
  refine y_gfr rfl rfl rfl rfl rfl (hH.r 899 3 246 rfl) ?_
  refine y_gfi rfl rfl rfl rfl rfl ?_
  refine y_aload_n rfl rfl ?_
  refine y_gfi rfl rfl rfl rfl rfl ?_
  refine y_isub rfl ?_
  refine y_iastoreP (n := 24) rfl rfl (by unfold rg; omega) (fun w3 w4 => ?_)
  obtain ⟨U1, eU1⟩ : ∃ T : sS, T = uI S 12 ((adj).toNat) (Int32.ofInt ((Xi S 246 5) - (Xi S 899 6))) := ⟨_, rfl⟩
  rw [← eU1]
  have hHU1 : RI U1 := by rw [eU1]; exact RI_w hH
  have hFU1 : FR md_rr_keepTests__p S U1 := by rw [eU1]; exact FR.wI hF (mdf_i (r := (12, 13, 0, 100000)) (List.mem_of_getElem? (i := 0) rfl) (inR_i (by omega) (by omega) (by omega) (by omega)))
  have w5 : Xi U1 12 ((adj).toNat) = ((Xi S 246 5) - (Xi S 899 6)) := by rw [eU1]; exact Xi_same (by unfold rg; omega)
  have e20 := eU1
  refine y_aload_n rfl rfl ?_
  refine y_gfr rfl rfl rfl rfl rfl (hHU1.r 899 1 1 rfl) ?_
  refine y_gfr rfl rfl rfl rfl rfl (hHU1.r 1 12 13 rfl) ?_
  refine y_iload_n rfl rfl ?_
  refine y_aload_n rfl rfl ?_
  refine y_gfi rfl rfl rfl rfl rfl ?_
  have w6 : (Xi U1 899 6) = (Xi S 899 6) := (show Xi U1 899 6 = Xi S 899 6 from by rw [eU1]; exact Xi_ne (by omega))
  rw [w6]
  refine y_iastoreP (n := 24) rfl rfl (by unfold rg; omega) (fun w7 w8 => ?_)
  obtain ⟨U2, eU2⟩ : ∃ T : sS, T = uI U1 13 ((adj).toNat) (Int32.ofInt (Xi S 899 6)) := ⟨_, rfl⟩
  rw [← eU2]
  have hHU2 : RI U2 := by rw [eU2]; exact RI_w hHU1
  have hFU2 : FR md_rr_keepTests__p S U2 := by rw [eU2]; exact FR.wI hFU1 (mdf_i (r := (13, 14, 0, 100000)) (List.mem_of_getElem? (i := 1) rfl) (inR_i (by omega) (by omega) (by omega) (by omega)))
  have w9 : Xi U2 13 ((adj).toNat) = (Xi S 899 6) := by rw [eU2]; exact Xi_same (by unfold rg; omega)
  have e33 := eU2
  refine y_return rfl rfl ?_
  have w10 : Xi U2 246 5 = Xi S 246 5 := (show Xi U2 246 5 = Xi U1 246 5 from by rw [eU2]; exact Xi_ne (by omega)).trans ((show Xi U1 246 5 = Xi S 246 5 from by rw [eU1]; exact Xi_ne (by omega)))
  have w11 : Xi U2 899 6 = Xi S 899 6 := (show Xi U2 899 6 = Xi U1 899 6 from by rw [eU2]; exact Xi_ne (by omega)).trans ((show Xi U1 899 6 = Xi S 899 6 from by rw [eU1]; exact Xi_ne (by omega)))
  exact ⟨hHU2, hFU2, rfl, (by unfold KTS; rw [← e20]; exact e33)⟩
def md_re_endDefinition__p : List rec := [(1, 2, 3, 4), (2, 3, 0, 100000), (3, 4, 0, 100000), (4, 5, 0, 100000), (5, 6, 0, 100000), (10, 11, 0, 100000), (11, 12, 0, 100000), (12, 13, 0, 100000), (13, 14, 0, 100000)]
abbrev Q_re_endDefinition__p (S : sS) : pst := fun r S1 => RI S1 ∧ FR md_re_endDefinition__p S S1 ∧ (∃ z : Int, r = some (iv z) ∧ (0 ≤ z ∧ z ≤ 1) ∧ (EDF md_vo_tellNew__p S S1 z))
set_option maxRecDepth 100000 in
theorem t_re_endDefinition__p {S : sS} (hH : RI S) (h13 : 0 ≤ Xi S 1 3 ∧ Xi S 1 3 ≤ 200) (h2 : Xi S 1 3 < 200) (h53 : 0 ≤ Xi S 5 3 ∧ Xi S 5 3 ≤ 62) (hnf : 0 ≤ Xi S 892 0 ∧ Xi S 892 0 ≤ 6000 ∧ 0 ≤ Xi S 893 0 ∧ Xi S 893 0 ≤ 6000) (hb : 0 ≤ Xi S 246 5 ∧ Xi S 246 5 ≤ 600 ∧ 0 ≤ Xi S 899 6 ∧ Xi S 899 6 ≤ 600) (d : Nat) : Mp lay0 (d + 4) m_re_endDefinition [.ref 891] S (Q_re_endDefinition__p S) := by
  refine Mp_R rfl rfl (fun fu => ?_)
  have hF : FR md_re_endDefinition__p S S := FR.rf
  have w1 : -2147483648 ≤ Xi S 1 3 ∧ Xi S 1 3 ≤ 2147483647 := Xi_rgI
  have w2 : -2147483648 ≤ Xi S 246 5 ∧ Xi S 246 5 ≤ 2147483647 := Xi_rgI
  have w3 : -2147483648 ≤ Xi S 5 3 ∧ Xi S 5 3 ≤ 2147483647 := Xi_rgI
  have w4 : -2147483648 ≤ Xi S 892 0 ∧ Xi S 892 0 ≤ 2147483647 := Xi_rgI
  have w5 : -2147483648 ≤ Xi S 893 0 ∧ Xi S 893 0 ≤ 2147483647 := Xi_rgI
  have w6 : -2147483648 ≤ Xi S 895 4 ∧ Xi S 895 4 ≤ 2147483647 := Xi_rgI
  have w7 : -2147483648 ≤ Xi S 899 6 ∧ Xi S 899 6 ≤ 2147483647 := Xi_rgI
  refine y_aload_n rfl rfl ?_
  refine y_gfr rfl rfl rfl rfl rfl (hH.r 891 2 1 rfl) ?_
  refine y_iconst rfl ?_
  refine y_aload_n rfl rfl ?_
  refine y_gfr rfl rfl rfl rfl rfl (hH.r 891 0 876 rfl) ?_
  refine y_gfr rfl rfl rfl rfl rfl (hH.r 876 2 879 rfl) ?_
  refine y_aload_n rfl rfl ?_
  refine y_gfr rfl rfl rfl rfl rfl (hH.r 891 7 892 rfl) ?_
  refine y_iconst rfl ?_
  refine y_ialoadP (n := 24) rfl rfl (by unfold rg; omega) (fun w8 w9 => ?_)
  have w10 : -2147483648 ≤ (Xi S 892 ((0 : Int).toNat)) ∧ (Xi S 892 ((0 : Int).toNat)) ≤ 2147483647 := Xi_rgI
  have w11 : (Xi S 892 ((0 : Int).toNat)) = Xi S 892 0 := rfl
  refine y_aload_n rfl rfl ?_
  refine y_gfr rfl rfl rfl rfl rfl (hH.r 891 8 893 rfl) ?_
  refine y_iconst rfl ?_
  refine y_ialoadP (n := 24) rfl rfl (by unfold rg; omega) (fun w12 w13 => ?_)
  have w14 : -2147483648 ≤ (Xi S 893 ((0 : Int).toNat)) ∧ (Xi S 893 ((0 : Int).toNat)) ≤ 2147483647 := Xi_rgI
  have w15 : (Xi S 893 ((0 : Int).toNat)) = Xi S 893 0 := rfl
  refine y_callV rfl rfl rfl (t_vo_tellNew__p hH 3 879 5130 (Xi S 892 ((0 : Int).toNat)) (Xi S 893 ((0 : Int).toNat)) ⟨by omega, by omega⟩ rfl ⟨by omega, by omega⟩ ⟨by omega, by omega⟩ ⟨by omega, by omega⟩ (by first | assumption | omega) (by first | assumption | omega) (Or.inl rfl) (h53) _) ?_
  rintro _ T1 ⟨hHT1, w17, z16, rfl, w16, z24, c24_, o24_, x24_⟩
  have hFT1 : FR md_re_endDefinition__p S T1 := FR.tr hF w17 rfl
  show Pl _ _ _ _ _ _ [iv z16] _ _
  have F24 := (by assumption : FR md_vo_tellNew__p S T1)
  have Z24 : z16 = Xi S 5 3 := z24
  have c24 : Xi T1 5 3 = Xi S 5 3 + 1 := c24_
  have o24 : ∀ j, j ≠ 3 → Xi T1 5 j = Xi S 5 j := o24_
  have X24 : ∃ i : Nat, NMI S T1 i 3 (Xi S 5 3) (wRw S 879 (Xi S 892 0) (Xi S 893 0) 0) (wRw S 879 (Xi S 892 0) (Xi S 893 0) 1) (wRw S 879 (Xi S 892 0) (Xi S 893 0) 2) := by have u := x24_; rw [Z24] at u; exact u
  refine y_istore_n rfl rfl rfl ?_
  refine y_aload_n rfl rfl ?_
  refine y_gfr rfl rfl rfl rfl rfl (hHT1.r 891 2 1 rfl) ?_
  refine y_gfr rfl rfl rfl rfl rfl (hHT1.r 1 9 10 rfl) ?_
  refine y_iload_n rfl rfl ?_
  refine y_aload_n rfl rfl ?_
  refine y_gfr rfl rfl rfl rfl rfl (hHT1.r 891 4 895 rfl) ?_
  refine y_gfi rfl rfl rfl rfl rfl ?_
  have w18 : (Xi T1 895 4) = (Xi S 895 4) := (show Xi T1 895 4 = Xi S 895 4 from w17.x _ _ rfl)
  rw [w18]
  have s40 : (Xi S 895 4) = Xi S 895 4 := by first | rfl | exact F24.x 895 4 rfl
  refine y_iastoreP (n := 24) rfl rfl (by unfold rg; omega) (fun w19 w20 => ?_)
  obtain ⟨U2, eU2⟩ : ∃ T : sS, T = uI T1 10 ((z16).toNat) (Int32.ofInt (Xi S 895 4)) := ⟨_, rfl⟩
  rw [← eU2]
  have hHU2 : RI U2 := by rw [eU2]; exact RI_w hHT1
  have hFU2 : FR md_re_endDefinition__p S U2 := by rw [eU2]; exact FR.wI hFT1 (mdf_i (r := (10, 11, 0, 100000)) (List.mem_of_getElem? (i := 5) rfl) (inR_i (by omega) (by omega) (by omega) (by omega)))
  have w21 : Xi U2 10 ((z16).toNat) = (Xi S 895 4) := by rw [eU2]; exact Xi_same (by unfold rg; omega)
  have e43 := eU2
  refine y_aload_n rfl rfl ?_
  refine y_gfr rfl rfl rfl rfl rfl (hHU2.r 891 2 1 rfl) ?_
  refine y_gfr rfl rfl rfl rfl rfl (hHU2.r 1 10 11 rfl) ?_
  refine y_iload_n rfl rfl ?_
  refine y_iconst rfl ?_
  refine y_iastoreP (n := 24) rfl rfl (by unfold rg; omega) (fun w22 w23 => ?_)
  obtain ⟨U3, eU3⟩ : ∃ T : sS, T = uI U2 11 ((z16).toNat) (Int32.ofInt (-1)) := ⟨_, rfl⟩
  rw [← eU3]
  have hHU3 : RI U3 := by rw [eU3]; exact RI_w hHU2
  have hFU3 : FR md_re_endDefinition__p S U3 := by rw [eU3]; exact FR.wI hFU2 (mdf_i (r := (11, 12, 0, 100000)) (List.mem_of_getElem? (i := 6) rfl) (inR_i (by omega) (by omega) (by omega) (by omega)))
  have w24 : Xi U3 11 ((z16).toNat) = (-1) := by rw [eU3]; exact Xi_same (by unfold rg; omega)
  have e53 := eU3
  refine y_aload_n rfl rfl ?_
  refine y_gfr rfl rfl rfl rfl rfl (hHU3.r 891 5 899 rfl) ?_
  refine y_iload_n rfl rfl ?_
  have w26 : Xi U3 246 5 = Xi S 246 5 := (show Xi U3 246 5 = Xi U2 246 5 from by rw [eU3]; exact Xi_ne (by omega)).trans ( (show Xi U2 246 5 = Xi T1 246 5 from by rw [eU2]; exact Xi_ne (by omega)).trans ((show Xi T1 246 5 = Xi S 246 5 from w17.x _ _ rfl)))
  have w28 : Xi U3 899 6 = Xi S 899 6 := (show Xi U3 899 6 = Xi U2 899 6 from by rw [eU3]; exact Xi_ne (by omega)).trans ( (show Xi U2 899 6 = Xi T1 899 6 from by rw [eU2]; exact Xi_ne (by omega)).trans ((show Xi T1 899 6 = Xi S 899 6 from w17.x _ _ rfl)))
  refine y_callV rfl rfl rfl (t_rr_keepTests__p hHU3 z16 ⟨by omega, by omega⟩ (by first | assumption | omega) _) ?_
  rintro _ T4 ⟨hHT4, w30, rfl, e59⟩
  have hFT4 : FR md_re_endDefinition__p S T4 := FR.tr hFU3 w30 rfl
  show Pl _ _ _ _ _ _ [] _ _
  have K59 := e59
  rw [e53, e43, Z24] at K59
  refine y_iconst rfl ?_
  refine y_ireturn rfl rfl ?_
  exact ⟨hHT4, hFT4, _, rfl, ⟨by omega, by omega⟩, (⟨rfl, _, X24.choose, F24, X24.choose_spec, c24, o24, K59⟩)⟩
end
section
/-! tests of the reference: whom they speak of, sayings -/
def toR0 (S : sS) (f t : Int) : Prop := t - f = 1 ∧ Xi S 907 f.toNat = 154
def toR1 (S : sS) (f t : Int) : Prop := 0 < t - f ∧ Xi S 907 (t - 1).toNat = 153
noncomputable def toR (S : sS) (f t : Int) : Int :=
  @ite Int (toR0 S f t) (Classical.propDecidable _) (if Xi S 904 115 = -1 then -9 else -1)
    (@ite Int (toR1 S f t) (Classical.propDecidable _) (if Xi S 904 116 ≠ -1 ∧ (t - f = 1 ∨ (t - f = 2 ∧ Xi S 907 f.toNat = 102)) then -2 else -9) (obR S f t))
theorem toR_0 {S : sS} {f t z : Int} (h : toR0 S f t) (hz : (Xi S 904 115 = -1 ∧ z = -9) ∨ (Xi S 904 115 ≠ -1 ∧ z = -1)) : z = toR S f t := by
  unfold toR
  rw [if_pos h]
  rcases hz with q | q
  · rw [if_pos q.1]; exact q.2
  · rw [if_neg q.1]; exact q.2
theorem toR_1 {S : sS} {f t z : Int} (h0 : ¬ toR0 S f t) (h : toR1 S f t) (hz : ((Xi S 904 116 ≠ -1 ∧ (t - f = 1 ∨ (t - f = 2 ∧ Xi S 907 f.toNat = 102))) ∧ z = -2) ∨ (¬ (Xi S 904 116 ≠ -1 ∧ (t - f = 1 ∨ (t - f = 2 ∧ Xi S 907 f.toNat = 102))) ∧ z = -9)) : z = toR S f t := by
  unfold toR
  rw [if_neg h0, if_pos h]
  rcases hz with q | q
  · rw [if_pos q.1]; exact q.2
  · rw [if_neg q.1]; exact q.2
theorem toR_2 {S : sS} {f t z : Int} (h0 : ¬ toR0 S f t) (h : ¬ toR1 S f t) (hz : z = obR S f t) : z = toR S f t := by
  unfold toR
  rw [if_neg h0, if_neg h]
  exact hz
def ktC (S : sS) (t : Int) : Int := if t = -1 then Xi S 904 115 else if t = -2 then Xi S 904 116 else if t = -9 then -1 else Xi S 918 t.toNat
def ftC (S : sS) (t k : Int) : Int := if t ≠ -9 ∧ blR S (ktC S t) k ≠ 0 then 1 else 0
noncomputable def vsR (S : sS) (i : Int) : Int := if Xi S 907 i.toNat = 3 then msR S i 1 10 else -1
noncomputable def rsR (S : sS) (i : Int) : Int := Xi S 941 (vsR S i).toNat
def qsR (S : sS) (f t i : Int) : Prop := vsR S i ≠ -1 ∧ ftC S (toR S f i) (Xi S 936 (rsR S i).toNat) ≠ 0 ∧ ftC S (toR S (i + 1) t) (Xi S 937 (rsR S i).toNat) ≠ 0
noncomputable def cnT (S : sS) (f t : Int) : Nat → Int
  | 0 => 0
  | n + 1 => @ite Int (qsR S f t (f + 1 + n)) (Classical.propDecidable _) (cnT S f t n + 1) (cnT S f t n)
noncomputable def psT (S : sS) (f t : Int) : Nat → Int
  | 0 => -1
  | n + 1 => @ite Int (psT S f t n = -1 ∧ qsR S f t (f + 1 + n)) (Classical.propDecidable _) (f + 1 + n) (psT S f t n)
theorem toR_F {l : List rec} {S T : sS} (h : FR l S T) (e : kdis l [(907, 908)] = true) (e2 : ∀ t n s, msR T t n s = msR S t n s) (e3 : mdf l 904 115 = false) (e4 : mdf l 904 116 = false) (f t : Int) : toR T f t = toR S f t := by
  have k := tkR_F h e
  have r0 : toR0 T f t = toR0 S f t := by unfold toR0; rw [k]
  have r1 : toR1 T f t = toR1 S f t := by unfold toR1; rw [k]
  have a := h.x 904 115 e3
  have b := h.x 904 116 e4
  have o := obR_F h e e2 (f := f) (t := t)
  by_cases q : toR0 S f t
  · unfold toR; rw [if_pos q, if_pos (by rw [r0]; exact q), a]
  · by_cases w : toR1 S f t
    · unfold toR; rw [if_neg q, if_neg (by rw [r0]; exact q), if_pos w, if_pos (by rw [r1]; exact w), b, k]
    · unfold toR; rw [if_neg q, if_neg (by rw [r0]; exact q), if_neg w, if_neg (by rw [r1]; exact w), o]
theorem ftC_F {l : List rec} {S T : sS} (h : FR l S T) (e : kdis l [(917, 918)] = true) (e2 : kdis l [(918, 919)] = true) (e3 : mdf l 904 115 = false) (e4 : mdf l 904 116 = false) (t k : Int) : ftC T t k = ftC S t k := by
  unfold ftC ktC
  rw [blR_fr h e, h.x 904 115 e3, h.x 904 116 e4, (h.smk e2).x 918 rfl]
def SYR (S T : sS) (q f t i c : Int) : Prop := c = cnT S f t (i - f - 1).toNat ∧ 0 ≤ c ∧ c ≤ i - f ∧ (c = 0 → psT S f t (i - f - 1).toNat = -1) ∧ (0 < c → psT S f t (i - f - 1).toNat ≠ -1 ∧ qsR S f t (psT S f t (i - f - 1).toNat) ∧ Xi T 971 q.toNat = toR S f (psT S f t (i - f - 1).toNat) ∧ Xi T 975 q.toNat = toR S (psT S f t (i - f - 1).toNat + 1) t ∧ Xi T 972 q.toNat = rsR S (psT S f t (i - f - 1).toNat))
theorem syr_0 {S T : sS} {q f t : Int} : SYR S T q f t (f + 1) 0 := by
  rw [SYR, show (f + 1 - f - 1).toNat = 0 by omega]
  exact ⟨rfl, by omega, by omega, fun _ => rfl, fun w => absurd w (by omega)⟩
theorem syr_n {S T : sS} {q f t i c : Int} (h : SYR S T q f t i c) (hi : f + 1 ≤ i) (w : ¬ qsR S f t i) : SYR S T q f t (i + 1) c := by
  obtain ⟨a, b, d, z, s⟩ := h
  have w2 : ¬ qsR S f t (f + 1 + ((i - f - 1).toNat : Int)) := by rw [show f + 1 + ((i - f - 1).toNat : Int) = i by omega]; exact w
  have e2 : psT S f t ((i - f - 1).toNat + 1) = psT S f t (i - f - 1).toNat := by rw [psT, if_neg (fun u => w2 u.2)]
  rw [SYR, show (i + 1 - f - 1).toNat = (i - f - 1).toNat + 1 by omega, e2]
  exact ⟨by rw [cnT, if_neg w2]; exact a, b, by omega, z, s⟩
theorem syr_y {S T : sS} {q f t i c : Int} (h : SYR S T q f t i c) (hi : f + 1 ≤ i ∧ 0 ≤ f) (w : qsR S f t i) (hc : 0 < c) : SYR S T q f t (i + 1) (c + 1) := by
  obtain ⟨a, b, d, z, s⟩ := h
  have w2 : qsR S f t (f + 1 + ((i - f - 1).toNat : Int)) := by rw [show f + 1 + ((i - f - 1).toNat : Int) = i by omega]; exact w
  have u := s hc
  have e2 : psT S f t ((i - f - 1).toNat + 1) = psT S f t (i - f - 1).toNat := by rw [psT, if_neg (fun x => u.1 x.1)]
  rw [SYR, show (i + 1 - f - 1).toNat = (i - f - 1).toNat + 1 by omega, e2]
  exact ⟨by rw [cnT, if_pos w2, a], by omega, by omega, fun x => by omega, fun _ => u⟩
theorem syr_z {S T U : sS} {q f t i c : Int} (h : SYR S T q f t i c) (hi : f + 1 ≤ i ∧ 0 ≤ f) (w : qsR S f t i) (hc : c = 0) (k1 : Xi U 971 q.toNat = toR S f i) (k2 : Xi U 975 q.toNat = toR S (i + 1) t) (k3 : Xi U 972 q.toNat = rsR S i) : SYR S U q f t (i + 1) (c + 1) := by
  obtain ⟨a, b, d, z, s⟩ := h
  have w2 : qsR S f t (f + 1 + ((i - f - 1).toNat : Int)) := by rw [show f + 1 + ((i - f - 1).toNat : Int) = i by omega]; exact w
  have e2 : psT S f t ((i - f - 1).toNat + 1) = i := by rw [psT, if_pos ⟨z hc, w2⟩]; omega
  rw [SYR, show (i + 1 - f - 1).toNat = (i - f - 1).toNat + 1 by omega, e2]
  exact ⟨by rw [cnT, if_pos w2, a], by omega, by omega, fun x => by omega, fun _ => ⟨by omega, w, k1, k2, k3⟩⟩
def SYRO (S S1 : sS) (q f t z : Int) : Prop := ∃ i : Int, f + 1 ≤ i ∧ t ≤ i + 1 ∧ (i = f + 1 ∨ i < t) ∧ SYR S S1 q f t i z

abbrev Q_mo_kindOfThing__p (S : sS) (th : Int) : pst := fun r S1 => S = S1 ∧ (∃ z : Int, r = some (iv z) ∧ (-2147483648 ≤ z ∧ z ≤ 2147483647) ∧ (z = ktC S th))
set_option maxRecDepth 100000 in
theorem t_mo_kindOfThing__p {S : sS} (hH : RI S) (th : Int) (hth : -2147483648 ≤ th ∧ th ≤ 2147483647) (d : Nat) : Mp lay0 (d + 1) m_mo_kindOfThing [.ref 904, iv th] S (Q_mo_kindOfThing__p S th) := by
  refine Mp_R rfl rfl (fun fu => ?_)
  refine y_iload_n rfl rfl ?_
  refine y_iconst rfl ?_
  refine y_icmp_ne rfl rfl (by unfold rg; omega) (by unfold rg; omega) (fun w1 => ?_) (fun w2 => ?_)
  · refine y_iload_n rfl rfl ?_
    refine y_bipush rfl rfl ?_
    refine y_icmp_ne rfl rfl (by unfold rg; omega) (by unfold rg; omega) (fun w3 => ?_) (fun w4 => ?_)
    · refine y_iload_n rfl rfl ?_
      refine y_bipush rfl rfl ?_
      refine y_icmp_ne rfl rfl (by unfold rg; omega) (by unfold rg; omega) (fun w5 => ?_) (fun w6 => ?_)
      · refine y_aload_n rfl rfl ?_
        refine y_gfr rfl rfl rfl rfl rfl (hH.r 904 20 918 rfl) ?_
        refine y_iload_n rfl rfl ?_
        refine y_ialoadP (n := 24) rfl rfl (by unfold rg; omega) (fun w7 w8 => ?_)
        have w9 : -2147483648 ≤ (Xi S 918 ((th).toNat)) ∧ (Xi S 918 ((th).toNat)) ≤ 2147483647 := Xi_rgI
        refine y_ireturn rfl rfl ?_
        exact ⟨rfl, _, rfl, ⟨by omega, by omega⟩, (by unfold ktC; first | (rw [if_pos (by omega)]) | (rw [if_neg (by omega), if_pos (by omega)]) | (rw [if_neg (by omega), if_neg (by omega), if_pos (by omega)]) | (rw [if_neg (by omega), if_neg (by omega), if_neg (by omega)]))⟩
      · refine y_iconst rfl ?_
        refine y_goto rfl rfl ?_
        refine y_ireturn rfl rfl ?_
        exact ⟨rfl, _, rfl, ⟨by omega, by omega⟩, (by unfold ktC; first | (rw [if_pos (by omega)]) | (rw [if_neg (by omega), if_pos (by omega)]) | (rw [if_neg (by omega), if_neg (by omega), if_pos (by omega)]) | (rw [if_neg (by omega), if_neg (by omega), if_neg (by omega)]))⟩
    · refine y_aload_n rfl rfl ?_
      refine y_gfi rfl rfl rfl rfl rfl ?_
      have w10 : -2147483648 ≤ (Xi S 904 116) ∧ (Xi S 904 116) ≤ 2147483647 := Xi_rgI
      refine y_goto rfl rfl ?_
      refine y_ireturn rfl rfl ?_
      exact ⟨rfl, _, rfl, ⟨by omega, by omega⟩, (by unfold ktC; first | (rw [if_pos (by omega)]) | (rw [if_neg (by omega), if_pos (by omega)]) | (rw [if_neg (by omega), if_neg (by omega), if_pos (by omega)]) | (rw [if_neg (by omega), if_neg (by omega), if_neg (by omega)]))⟩
  · refine y_aload_n rfl rfl ?_
    refine y_gfi rfl rfl rfl rfl rfl ?_
    have w11 : -2147483648 ≤ (Xi S 904 115) ∧ (Xi S 904 115) ≤ 2147483647 := Xi_rgI
    refine y_goto rfl rfl ?_
    refine y_ireturn rfl rfl ?_
    exact ⟨rfl, _, rfl, ⟨by omega, by omega⟩, (by unfold ktC; first | (rw [if_pos (by omega)]) | (rw [if_neg (by omega), if_pos (by omega)]) | (rw [if_neg (by omega), if_neg (by omega), if_pos (by omega)]) | (rw [if_neg (by omega), if_neg (by omega), if_neg (by omega)]))⟩
abbrev Q_mo_fits__p (S : sS) (th : Int) (kind : Int) : pst := fun r S1 => S = S1 ∧ (∃ z : Int, r = some (iv z) ∧ (0 ≤ z ∧ z ≤ 1) ∧ (z = ftC S th kind))
set_option maxRecDepth 100000 in
theorem t_mo_fits__p {S : sS} (hH : RI S) (th : Int) (kind : Int) (hth : -2147483648 ≤ th ∧ th ≤ 2147483647) (hkind : -2147483648 ≤ kind ∧ kind ≤ 2147483647) (hB : ABV S) (hkx : Hid (∀ j : Nat, -1 ≤ Xi S 918 j ∧ Xi S 918 j ≤ 15)) (hit : (-1 ≤ Xi S 904 115 ∧ Xi S 904 115 ≤ 15) ∧ (-1 ≤ Xi S 904 116 ∧ Xi S 904 116 ≤ 15)) (d : Nat) : Mp lay0 (d + 2) m_mo_fits [.ref 904, iv th, iv kind] S (Q_mo_fits__p S th kind) := by
  refine Mp_R rfl rfl (fun fu => ?_)
  have w1 : -2147483648 ≤ Xi S 904 115 ∧ Xi S 904 115 ≤ 2147483647 := Xi_rgI
  have w2 : -2147483648 ≤ Xi S 904 116 ∧ Xi S 904 116 ≤ 2147483647 := Xi_rgI
  refine y_iload_n rfl rfl ?_
  refine y_bipush rfl rfl ?_
  refine y_icmp_eq rfl rfl (by unfold rg; omega) (by unfold rg; omega) (fun w3 => ?_) (fun w4 => ?_)
  · refine y_iconst rfl ?_
    refine y_ireturn rfl rfl ?_
    exact ⟨rfl, _, rfl, ⟨by omega, by omega⟩, (by unfold ftC; first | (have u := K13; rw [← k9, ← f13]; first | (rw [if_pos (by omega)]) | (rw [if_neg (by omega)])) | (rw [if_neg (by omega)]))⟩
  · refine y_aload_n rfl rfl ?_
    refine y_aload_n rfl rfl ?_
    refine y_iload_n rfl rfl ?_
    refine y_callV rfl rfl rfl (t_mo_kindOfThing__p hH th ⟨by omega, by omega⟩ _) ?_
    rintro _ _ ⟨rfl, z5, rfl, w5, k9⟩
    show Pl _ _ _ _ _ _ [iv z5, .ref 904] _ _
    have r9 : -1 ≤ z5 ∧ z5 ≤ 15 := by have u := hkx.o th.toNat; rw [k9]; unfold ktC; first | (split; omega; split; omega; exact u) | (split; omega; split; omega; split; omega; exact u)
    refine y_iload_n rfl rfl ?_
    refine y_callV rfl rfl rfl (t_mo_isBelow__p hH z5 kind ⟨by omega, by omega⟩ ⟨by omega, by omega⟩ (by first | assumption | exact (by assumption : ABV S)) _) ?_
    rintro _ _ ⟨rfl, z6, rfl, w6, f13⟩
    show Pl _ _ _ _ _ _ [iv z6] _ _
    have K13 : True := trivial
    refine y_if_eq rfl rfl (by unfold rg; omega) (fun w7 => ?_) (fun w8 => ?_)
    · refine y_iconst rfl ?_
      refine y_ireturn rfl rfl ?_
      exact ⟨rfl, _, rfl, ⟨by omega, by omega⟩, (by unfold ftC; first | (have u := K13; rw [← k9, ← f13]; first | (rw [if_pos (by omega)]) | (rw [if_neg (by omega)])) | (rw [if_neg (by omega)]))⟩
    · refine y_iconst rfl ?_
      refine y_goto rfl rfl ?_
      refine y_ireturn rfl rfl ?_
      exact ⟨rfl, _, rfl, ⟨by omega, by omega⟩, (by unfold ftC; first | (have u := K13; rw [← k9, ← f13]; first | (rw [if_pos (by omega)]) | (rw [if_neg (by omega)])) | (rw [if_neg (by omega)]))⟩
abbrev Q_mo_thingOf__p (S : sS) (from_ : Int) (to : Int) : pst := fun r S1 => S = S1 ∧ (∃ z : Int, r = some (iv z) ∧ (-2147483648 ≤ z ∧ z ≤ 2147483647) ∧ (z = toR S from_ to))
set_option maxRecDepth 100000 in
theorem t_mo_thingOf__p {S : sS} (hH : RI S) (from_ : Int) (to : Int) (hfrom_ : 0 ≤ from_ ∧ from_ ≤ 5140) (hto : 0 ≤ to ∧ to ≤ 5140) (hLS : LSP S) (h15 : 0 ≤ Xi S 904 15) (d : Nat) : Mp lay0 (d + 5) m_mo_thingOf [.ref 904, iv from_, iv to] S (Q_mo_thingOf__p S from_ to) := by
  refine Mp_R rfl rfl (fun fu => ?_)
  have w1 : -2147483648 ≤ Xi S 904 115 ∧ Xi S 904 115 ≤ 2147483647 := Xi_rgI
  have w2 : -2147483648 ≤ Xi S 904 116 ∧ Xi S 904 116 ≤ 2147483647 := Xi_rgI
  have w3 : -2147483648 ≤ Xi S 904 15 ∧ Xi S 904 15 ≤ 2147483647 := Xi_rgI
  refine y_iload_n rfl rfl ?_
  refine y_iload_n rfl rfl ?_
  refine y_isub rfl ?_
  refine y_istore_n rfl rfl rfl ?_
  refine y_iload_n rfl rfl ?_
  refine y_iconst rfl ?_
  refine y_icmp_ne rfl rfl (by unfold rg; omega) (by unfold rg; omega) (fun w4 => ?_) (fun w5 => ?_)
  · refine y_iload_n rfl rfl ?_
    refine y_if_le rfl rfl (by unfold rg; omega) (fun w6 => ?_) (fun w7 => ?_)
    · refine y_aload_n rfl rfl ?_
      refine y_iload_n rfl rfl ?_
      refine y_iload_n rfl rfl ?_
      refine y_callV rfl rfl rfl (t_mo_objectOf__p hH from_ to ⟨by omega, by omega⟩ ⟨by omega, by omega⟩ (by first | assumption | exact (by assumption : LSP S)) (by first | assumption | omega) _) ?_
      rintro _ _ ⟨rfl, z8, rfl, w8, f94⟩
      show Pl _ _ _ _ _ _ [iv z8] _ _
      have K94 : True := trivial
      refine y_ireturn rfl rfl ?_
      exact ⟨rfl, _, rfl, ⟨by omega, by omega⟩, (by first | (have u := K94; exact toR_2 (by unfold toR0; omega) (by unfold toR1; omega) f94) | exact toR_0 ⟨by omega, by omega⟩ (by omega) | exact toR_1 (by unfold toR0; omega) ⟨by omega, by omega⟩ (by omega))⟩
    · refine y_aload_n rfl rfl ?_
      refine y_gfr rfl rfl rfl rfl rfl (hH.r 904 4 907 rfl) ?_
      refine y_iload_n rfl rfl ?_
      refine y_iconst rfl ?_
      refine y_isub rfl ?_
      refine y_ialoadP (n := 5002) rfl rfl (by unfold rg; omega) (fun w9 w10 => ?_)
      have w11 : -2147483648 ≤ (Xi S 907 (((to - 1)).toNat)) ∧ (Xi S 907 (((to - 1)).toNat)) ≤ 2147483647 := Xi_rgI
      refine y_sipush rfl rfl ?_
      refine y_icmp_ne rfl rfl (by unfold rg; omega) (by unfold rg; omega) (fun w12 => ?_) (fun w13 => ?_)
      · refine y_aload_n rfl rfl ?_
        refine y_iload_n rfl rfl ?_
        refine y_iload_n rfl rfl ?_
        refine y_callV rfl rfl rfl (t_mo_objectOf__p hH from_ to ⟨by omega, by omega⟩ ⟨by omega, by omega⟩ (by first | assumption | exact (by assumption : LSP S)) (by first | assumption | omega) _) ?_
        rintro _ _ ⟨rfl, z14, rfl, w14, f94⟩
        show Pl _ _ _ _ _ _ [iv z14] _ _
        have K94 : True := trivial
        refine y_ireturn rfl rfl ?_
        exact ⟨rfl, _, rfl, ⟨by omega, by omega⟩, (by first | (have u := K94; exact toR_2 (by unfold toR0; omega) (by unfold toR1; omega) f94) | exact toR_0 ⟨by omega, by omega⟩ (by omega) | exact toR_1 (by unfold toR0; omega) ⟨by omega, by omega⟩ (by omega))⟩
      · refine y_aload_n rfl rfl ?_
        refine y_gfi rfl rfl rfl rfl rfl ?_
        refine y_iconst rfl ?_
        refine y_icmp_eq rfl rfl (by unfold rg; omega) (by unfold rg; omega) (fun w15 => ?_) (fun w16 => ?_)
        · refine y_bipush rfl rfl ?_
          refine y_ireturn rfl rfl ?_
          exact ⟨rfl, _, rfl, ⟨by omega, by omega⟩, (by first | (have u := K94; exact toR_2 (by unfold toR0; omega) (by unfold toR1; omega) f94) | exact toR_0 ⟨by omega, by omega⟩ (by omega) | exact toR_1 (by unfold toR0; omega) ⟨by omega, by omega⟩ (by omega))⟩
        · refine y_iload_n rfl rfl ?_
          refine y_iconst rfl ?_
          refine y_icmp_eq rfl rfl (by unfold rg; omega) (by unfold rg; omega) (fun w17 => ?_) (fun w18 => ?_)
          · refine y_bipush rfl rfl ?_
            refine y_goto rfl rfl ?_
            refine y_ireturn rfl rfl ?_
            exact ⟨rfl, _, rfl, ⟨by omega, by omega⟩, (by first | (have u := K94; exact toR_2 (by unfold toR0; omega) (by unfold toR1; omega) f94) | exact toR_0 ⟨by omega, by omega⟩ (by omega) | exact toR_1 (by unfold toR0; omega) ⟨by omega, by omega⟩ (by omega))⟩
          · refine y_iload_n rfl rfl ?_
            refine y_iconst rfl ?_
            refine y_icmp_ne rfl rfl (by unfold rg; omega) (by unfold rg; omega) (fun w19 => ?_) (fun w20 => ?_)
            · refine y_bipush rfl rfl ?_
              refine y_ireturn rfl rfl ?_
              exact ⟨rfl, _, rfl, ⟨by omega, by omega⟩, (by first | (have u := K94; exact toR_2 (by unfold toR0; omega) (by unfold toR1; omega) f94) | exact toR_0 ⟨by omega, by omega⟩ (by omega) | exact toR_1 (by unfold toR0; omega) ⟨by omega, by omega⟩ (by omega))⟩
            · refine y_aload_n rfl rfl ?_
              refine y_gfr rfl rfl rfl rfl rfl (hH.r 904 4 907 rfl) ?_
              refine y_iload_n rfl rfl ?_
              refine y_ialoadP (n := 5002) rfl rfl (by unfold rg; omega) (fun w21 w22 => ?_)
              have w23 : -2147483648 ≤ (Xi S 907 ((from_).toNat)) ∧ (Xi S 907 ((from_).toNat)) ≤ 2147483647 := Xi_rgI
              refine y_bipush rfl rfl ?_
              refine y_icmp_ne rfl rfl (by unfold rg; omega) (by unfold rg; omega) (fun w24 => ?_) (fun w25 => ?_)
              · refine y_bipush rfl rfl ?_
                refine y_ireturn rfl rfl ?_
                exact ⟨rfl, _, rfl, ⟨by omega, by omega⟩, (by first | (have u := K94; exact toR_2 (by unfold toR0; omega) (by unfold toR1; omega) f94) | exact toR_0 ⟨by omega, by omega⟩ (by omega) | exact toR_1 (by unfold toR0; omega) ⟨by omega, by omega⟩ (by omega))⟩
              · refine y_bipush rfl rfl ?_
                refine y_goto rfl rfl ?_
                refine y_ireturn rfl rfl ?_
                exact ⟨rfl, _, rfl, ⟨by omega, by omega⟩, (by first | (have u := K94; exact toR_2 (by unfold toR0; omega) (by unfold toR1; omega) f94) | exact toR_0 ⟨by omega, by omega⟩ (by omega) | exact toR_1 (by unfold toR0; omega) ⟨by omega, by omega⟩ (by omega))⟩
  · refine y_aload_n rfl rfl ?_
    refine y_gfr rfl rfl rfl rfl rfl (hH.r 904 4 907 rfl) ?_
    refine y_iload_n rfl rfl ?_
    refine y_ialoadP (n := 5002) rfl rfl (by unfold rg; omega) (fun w26 w27 => ?_)
    have w28 : -2147483648 ≤ (Xi S 907 ((from_).toNat)) ∧ (Xi S 907 ((from_).toNat)) ≤ 2147483647 := Xi_rgI
    refine y_sipush rfl rfl ?_
    refine y_icmp_ne rfl rfl (by unfold rg; omega) (by unfold rg; omega) (fun w29 => ?_) (fun w30 => ?_)
    · refine y_iload_n rfl rfl ?_
      refine y_if_le rfl rfl (by unfold rg; omega) (fun w31 => ?_) (fun w32 => ?_)
      · refine y_aload_n rfl rfl ?_
        refine y_iload_n rfl rfl ?_
        refine y_iload_n rfl rfl ?_
        refine y_callV rfl rfl rfl (t_mo_objectOf__p hH from_ to ⟨by omega, by omega⟩ ⟨by omega, by omega⟩ (by first | assumption | exact (by assumption : LSP S)) (by first | assumption | omega) _) ?_
        rintro _ _ ⟨rfl, z33, rfl, w33, f94⟩
        show Pl _ _ _ _ _ _ [iv z33] _ _
        have K94 : True := trivial
        refine y_ireturn rfl rfl ?_
        exact ⟨rfl, _, rfl, ⟨by omega, by omega⟩, (by first | (have u := K94; exact toR_2 (by unfold toR0; omega) (by unfold toR1; omega) f94) | exact toR_0 ⟨by omega, by omega⟩ (by omega) | exact toR_1 (by unfold toR0; omega) ⟨by omega, by omega⟩ (by omega))⟩
      · refine y_aload_n rfl rfl ?_
        refine y_gfr rfl rfl rfl rfl rfl (hH.r 904 4 907 rfl) ?_
        refine y_iload_n rfl rfl ?_
        refine y_iconst rfl ?_
        refine y_isub rfl ?_
        refine y_ialoadP (n := 5002) rfl rfl (by unfold rg; omega) (fun w34 w35 => ?_)
        have w36 : -2147483648 ≤ (Xi S 907 (((to - 1)).toNat)) ∧ (Xi S 907 (((to - 1)).toNat)) ≤ 2147483647 := Xi_rgI
        refine y_sipush rfl rfl ?_
        refine y_icmp_ne rfl rfl (by unfold rg; omega) (by unfold rg; omega) (fun w37 => ?_) (fun w38 => ?_)
        · refine y_aload_n rfl rfl ?_
          refine y_iload_n rfl rfl ?_
          refine y_iload_n rfl rfl ?_
          refine y_callV rfl rfl rfl (t_mo_objectOf__p hH from_ to ⟨by omega, by omega⟩ ⟨by omega, by omega⟩ (by first | assumption | exact (by assumption : LSP S)) (by first | assumption | omega) _) ?_
          rintro _ _ ⟨rfl, z39, rfl, w39, f94⟩
          show Pl _ _ _ _ _ _ [iv z39] _ _
          have K94 : True := trivial
          refine y_ireturn rfl rfl ?_
          exact ⟨rfl, _, rfl, ⟨by omega, by omega⟩, (by first | (have u := K94; exact toR_2 (by unfold toR0; omega) (by unfold toR1; omega) f94) | exact toR_0 ⟨by omega, by omega⟩ (by omega) | exact toR_1 (by unfold toR0; omega) ⟨by omega, by omega⟩ (by omega))⟩
        · refine y_aload_n rfl rfl ?_
          refine y_gfi rfl rfl rfl rfl rfl ?_
          refine y_iconst rfl ?_
          refine y_icmp_eq rfl rfl (by unfold rg; omega) (by unfold rg; omega) (fun w40 => ?_) (fun w41 => ?_)
          · refine y_bipush rfl rfl ?_
            refine y_ireturn rfl rfl ?_
            exact ⟨rfl, _, rfl, ⟨by omega, by omega⟩, (by first | (have u := K94; exact toR_2 (by unfold toR0; omega) (by unfold toR1; omega) f94) | exact toR_0 ⟨by omega, by omega⟩ (by omega) | exact toR_1 (by unfold toR0; omega) ⟨by omega, by omega⟩ (by omega))⟩
          · refine y_iload_n rfl rfl ?_
            refine y_iconst rfl ?_
            refine y_icmp_eq rfl rfl (by unfold rg; omega) (by unfold rg; omega) (fun w42 => ?_) (fun w43 => ?_)
            · refine y_bipush rfl rfl ?_
              refine y_goto rfl rfl ?_
              refine y_ireturn rfl rfl ?_
              exact ⟨rfl, _, rfl, ⟨by omega, by omega⟩, (by first | (have u := K94; exact toR_2 (by unfold toR0; omega) (by unfold toR1; omega) f94) | exact toR_0 ⟨by omega, by omega⟩ (by omega) | exact toR_1 (by unfold toR0; omega) ⟨by omega, by omega⟩ (by omega))⟩
            · refine y_iload_n rfl rfl ?_
              refine y_iconst rfl ?_
              refine y_icmp_ne rfl rfl (by unfold rg; omega) (by unfold rg; omega) (fun w44 => ?_) (fun w45 => ?_)
              · refine y_bipush rfl rfl ?_
                refine y_ireturn rfl rfl ?_
                exact ⟨rfl, _, rfl, ⟨by omega, by omega⟩, (by first | (have u := K94; exact toR_2 (by unfold toR0; omega) (by unfold toR1; omega) f94) | exact toR_0 ⟨by omega, by omega⟩ (by omega) | exact toR_1 (by unfold toR0; omega) ⟨by omega, by omega⟩ (by omega))⟩
              · refine y_aload_n rfl rfl ?_
                refine y_gfr rfl rfl rfl rfl rfl (hH.r 904 4 907 rfl) ?_
                refine y_iload_n rfl rfl ?_
                refine y_ialoadP (n := 5002) rfl rfl (by unfold rg; omega) (fun w46 w47 => ?_)
                refine y_bipush rfl rfl ?_
                refine y_icmp_ne rfl rfl (by unfold rg; omega) (by unfold rg; omega) (fun w48 => ?_) (fun w49 => ?_)
                · refine y_bipush rfl rfl ?_
                  refine y_ireturn rfl rfl ?_
                  exact ⟨rfl, _, rfl, ⟨by omega, by omega⟩, (by first | (have u := K94; exact toR_2 (by unfold toR0; omega) (by unfold toR1; omega) f94) | exact toR_0 ⟨by omega, by omega⟩ (by omega) | exact toR_1 (by unfold toR0; omega) ⟨by omega, by omega⟩ (by omega))⟩
                · refine y_bipush rfl rfl ?_
                  refine y_goto rfl rfl ?_
                  refine y_ireturn rfl rfl ?_
                  exact ⟨rfl, _, rfl, ⟨by omega, by omega⟩, (by first | (have u := K94; exact toR_2 (by unfold toR0; omega) (by unfold toR1; omega) f94) | exact toR_0 ⟨by omega, by omega⟩ (by omega) | exact toR_1 (by unfold toR0; omega) ⟨by omega, by omega⟩ (by omega))⟩
    · refine y_aload_n rfl rfl ?_
      refine y_gfi rfl rfl rfl rfl rfl ?_
      refine y_iconst rfl ?_
      refine y_icmp_ne rfl rfl (by unfold rg; omega) (by unfold rg; omega) (fun w50 => ?_) (fun w51 => ?_)
      · refine y_iconst rfl ?_
        refine y_ireturn rfl rfl ?_
        exact ⟨rfl, _, rfl, ⟨by omega, by omega⟩, (by first | (have u := K94; exact toR_2 (by unfold toR0; omega) (by unfold toR1; omega) f94) | exact toR_0 ⟨by omega, by omega⟩ (by omega) | exact toR_1 (by unfold toR0; omega) ⟨by omega, by omega⟩ (by omega))⟩
      · refine y_bipush rfl rfl ?_
        refine y_goto rfl rfl ?_
        refine y_ireturn rfl rfl ?_
        exact ⟨rfl, _, rfl, ⟨by omega, by omega⟩, (by first | (have u := K94; exact toR_2 (by unfold toR0; omega) (by unfold toR1; omega) f94) | exact toR_0 ⟨by omega, by omega⟩ (by omega) | exact toR_1 (by unfold toR0; omega) ⟨by omega, by omega⟩ (by omega))⟩
end
