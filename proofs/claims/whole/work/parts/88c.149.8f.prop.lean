section
/-! 9: the class tells -/
def pOK (S : sS) (a b k num : Int) : Prop := mnV S a b / 256 = 5 ∧ (num = 0 ∨ Xi S 9 (mnV S a b % 256).toNat = 0) ∧ (k = -1 ∨ iandF (ishrF (pps S k) (mnV S a b % 256)) 1 ≠ 0)
def RPC (S S1 : sS) (z a b k num : Int) : Prop := (pOK S a b k num → z = mnV S a b % 256 ∧ S1 = S) ∧ (¬ pOK S a b k num → z = -1 ∧ (Xi S 876 8 = 0 → FTO S S1 4 a))
/-- numbers and lengths of texts are small -/
def NVL (S : sS) : Prop := ∀ j : Nat, (j : Int) < Xi S 876 7 → Xi S 877 j = 101 → 0 ≤ Xj S 879 j ∧ Xj S 879 j ≤ 2147483647
def WHR (S : sS) (r tp v l : Int) : Prop :=
  (tp = 0 ∧ ty7 S r = 101 ∧ v = Xj S 879 r.toNat ∧ l = 0) ∨ (tp = 1 ∧ ty7 S r = 102 ∧ v = pc7 S r + 1 ∧ l = Xj S 879 r.toNat) ∨
  (¬ (tp = 0 ∧ ty7 S r = 101) ∧ ¬ (tp = 1 ∧ ty7 S r = 102) ∧ ty7 S r = 100 ∧ mnV S r (ruF S r (r + 4)) / 256 = 4 ∧ Xi S 8 (mnV S r (ruF S r (r + 4)) % 256).toNat = tp ∧ v = mnV S r (ruF S r (r + 4)) % 256 ∧ l = 0)
def WHP (S S1 : sS) (z r tp : Int) : Prop := (z = 1 → WHR S r tp (Xi S1 895 10) (Xi S1 895 11)) ∧ (z = 0 → (∀ v l : Int, ¬ WHR S r tp v l) ∧ (Xi S 876 8 = 0 → FTO S S1 4 r))
theorem whr_n {S : sS} {r tp : Int} (h1 : ¬ (tp = 0 ∧ ty7 S r = 101)) (h2 : ¬ (tp = 1 ∧ ty7 S r = 102)) (h3 : ¬ (ty7 S r = 100 ∧ mnV S r (ruF S r (r + 4)) / 256 = 4 ∧ Xi S 8 (mnV S r (ruF S r (r + 4)) % 256).toNat = tp)) : ∀ v l : Int, ¬ WHR S r tp v l := fun v l q => by
  rcases q with ⟨a, b, _⟩ | ⟨a, b, _⟩ | ⟨_, _, a, b, c, _⟩
  · exact h1 ⟨a, b⟩
  · exact h2 ⟨a, b⟩
  · exact h3 ⟨a, b, c⟩
/-- what the value is told of -/
def o9 (S : sS) (b e : Int) : Int := if mnV S b e / 256 = 2 then mnV S b e % 256 else if mnV S b e / 256 = 0 then 24 + mnV S b e % 256 else -1
def k9 (S : sS) (b e : Int) : Int := if mnV S b e / 256 = 2 then Xi S 21 (mnV S b e % 256).toNat else if mnV S b e / 256 = 0 then mnV S b e % 256 else -1
def TPY (g : List rec) (S S1 : sS) (z e1 b e2 w : Int) : Prop :=
  (¬ pOK S 1 e1 (k9 S b e2) 0 → z = 0 ∧ FTO S S1 4 1) ∧
  (pOK S 1 e1 (k9 S b e2) 0 → o9 S b e2 = -1 → z = 0 ∧ FTO S S1 4 b) ∧
  (pOK S 1 e1 (k9 S b e2) 0 → o9 S b e2 ≠ -1 → (∀ v l : Int, ¬ WHR S w (Xi S 9 (mnV S 1 e1 % 256).toNat) v l) → z = 0 ∧ FTO S S1 4 w) ∧
  (pOK S 1 e1 (k9 S b e2) 0 → o9 S b e2 ≠ -1 → (∃ v l : Int, WHR S w (Xi S 9 (mnV S 1 e1 % 256).toNat) v l) → ∃ (A B : sS) (v l y : Int), WHR S w (Xi S 9 (mnV S 1 e1 % 256).toNat) v l ∧ FR g S A ∧ TPC A B y (o9 S b e2) (mnV S 1 e1 % 256) v l ∧ (y = 1 → z = 1 ∧ S1 = B ∧ Xi S1 876 8 = 0) ∧ (y ≠ 1 → z = 0 ∧ FTO S S1 5 b))
theorem tpy_1 {g : List rec} {S S1 : sS} {z e1 b e2 w : Int} (h : ¬ pOK S 1 e1 (k9 S b e2) 0) (hz : z = 0) (f : FTO S S1 4 1) : TPY g S S1 z e1 b e2 w := ⟨fun _ => ⟨hz, f⟩, fun q => absurd q h, fun q => absurd q h, fun q => absurd q h⟩
theorem tpy_2 {g : List rec} {S S1 : sS} {z e1 b e2 w : Int} (h : pOK S 1 e1 (k9 S b e2) 0) (o : o9 S b e2 = -1) (hz : z = 0) (f : FTO S S1 4 b) : TPY g S S1 z e1 b e2 w := ⟨fun q => absurd h q, fun _ _ => ⟨hz, f⟩, fun _ q => absurd o q, fun _ q => absurd o q⟩
theorem tpy_3 {g : List rec} {S S1 : sS} {z e1 b e2 w : Int} (h : pOK S 1 e1 (k9 S b e2) 0) (o : o9 S b e2 ≠ -1) (n : ∀ v l : Int, ¬ WHR S w (Xi S 9 (mnV S 1 e1 % 256).toNat) v l) (hz : z = 0) (f : FTO S S1 4 w) : TPY g S S1 z e1 b e2 w := ⟨fun q => absurd h q, fun _ q => absurd q o, fun _ _ _ => ⟨hz, f⟩, fun _ _ q => by obtain ⟨v, l, x⟩ := q; exact absurd x (n v l)⟩
theorem tpy_4 {g : List rec} {S S1 A B : sS} {z e1 b e2 w v l y : Int} (h : pOK S 1 e1 (k9 S b e2) 0) (o : o9 S b e2 ≠ -1) (n : WHR S w (Xi S 9 (mnV S 1 e1 % 256).toNat) v l) (F : FR g S A) (t : TPC A B y (o9 S b e2) (mnV S 1 e1 % 256) v l) (c1 : y = 1 → z = 1 ∧ S1 = B ∧ Xi S1 876 8 = 0) (c2 : y ≠ 1 → z = 0 ∧ FTO S S1 5 b) : TPY g S S1 z e1 b e2 w := ⟨fun q => absurd h q, fun _ q => absurd q o, fun _ _ q => absurd n (q v l), fun _ _ _ => ⟨A, B, v, l, y, n, F, t, c1, c2⟩⟩
def MK15 (S : sS) : Prop := ∀ a b : Int, mnV S a b / 256 = 0 → mnV S a b % 256 ≤ 15

abbrev Q_to_valueAt__p (S : sS) (row : Int) : pst := fun r S1 => S = S1 ∧ (∃ z : Int, r = some (iv z) ∧ (-2147483648 ≤ z ∧ z ≤ 2147483647) ∧ (0 ≤ row → row < Xi S 876 7 → 0 ≤ Xj S 879 row.toNat → Xj S 879 row.toNat ≤ 2147483647 → z = Xj S 879 row.toNat))
set_option maxRecDepth 100000 in
theorem t_to_valueAt__p {S : sS} (hH : RI S) (row : Int) (hrow : -2147483648 ≤ row ∧ row ≤ 2147483647) (d : Nat) : Mp lay0 (d + 1) m_to_valueAt [.ref 876, iv row] S (Q_to_valueAt__p S row) := by
  refine Mp_R rfl rfl (fun fu => ?_)
  have w1 : -2147483648 ≤ Xi S 876 7 ∧ Xi S 876 7 ≤ 2147483647 := Xi_rgI
  refine y_iload_n rfl rfl ?_
  refine y_if_lt rfl rfl (by unfold rg; omega) (fun w2 => ?_) (fun w3 => ?_)
  · refine y_iconst rfl ?_
    refine y_ireturn rfl rfl ?_
    exact ⟨rfl, _, rfl, ⟨by omega, by omega⟩, (by first | assumption | omega)⟩
  · refine y_iload_n rfl rfl ?_
    refine y_aload_n rfl rfl ?_
    refine y_gfi rfl rfl rfl rfl rfl ?_
    refine y_icmp_ge rfl rfl (by unfold rg; omega) (by unfold rg; omega) (fun w4 => ?_) (fun w5 => ?_)
    · refine y_iconst rfl ?_
      refine y_ireturn rfl rfl ?_
      exact ⟨rfl, _, rfl, ⟨by omega, by omega⟩, (by first | assumption | omega)⟩
    · refine y_aload_n rfl rfl ?_
      refine y_gfr rfl rfl rfl rfl rfl (hH.r 876 2 879 rfl) ?_
      refine y_iload_n rfl rfl ?_
      refine y_laloadP (n := 5130) rfl rfl (by unfold rg; omega) (fun w6 w7 => ?_)
      have w8 : -9223372036854775808 ≤ (Xj S 879 ((row).toNat)) ∧ (Xj S 879 ((row).toNat)) < 9223372036854775808 := Xj_rg
      refine y_l2i rfl (fun c9 w9r w9 => ?_)
      unfold rg rgL at *
      refine y_goto rfl rfl ?_
      refine y_ireturn rfl rfl ?_
      exact ⟨rfl, _, rfl, ⟨by omega, by omega⟩, (by first | assumption | omega)⟩
def md_me_readProperty__p : List rec := [(876, 877, 8, 9), (876, 877, 9, 10)]
abbrev Q_me_readProperty__p (S : sS) (from_ : Int) (to : Int) (kind : Int) (num : Int) : pst := fun r S1 => RI S1 ∧ FR md_me_readProperty__p S S1 ∧ (∃ z : Int, r = some (iv z) ∧ (-2147483648 ≤ z ∧ z ≤ 2147483647) ∧ (RPC S S1 z from_ to kind num))
set_option maxRecDepth 100000 in
theorem t_me_readProperty__p {S : sS} (hH : RI S) (from_ : Int) (to : Int) (kind : Int) (num : Int) (hfrom_ : -1 ≤ from_ ∧ from_ ≤ 6000) (hto : -1 ≤ to ∧ to ≤ 6000) (hkind : -2147483648 ≤ kind ∧ kind ≤ 2147483647) (hnum : 0 ≤ num ∧ num ≤ 1) (h13 : 0 ≤ Xi S 1 3 ∧ Xi S 1 3 ≤ 200) (hCE : CEN S) (d : Nat) : Mp lay0 (d + 2) m_me_readProperty [.ref 895, iv from_, iv to, iv kind, iv num] S (Q_me_readProperty__p S from_ to kind num) := by
  refine Mp_R rfl rfl (fun fu => ?_)
  have hF : FR md_me_readProperty__p S S := FR.rf
  have w1 : -2147483648 ≤ Xi S 1 3 ∧ Xi S 1 3 ≤ 2147483647 := Xi_rgI
  refine y_aload_n rfl rfl ?_
  refine y_gfr rfl rfl rfl rfl rfl (hH.r 895 1 1 rfl) ?_
  refine y_aload_n rfl rfl ?_
  refine y_gfr rfl rfl rfl rfl rfl (hH.r 895 0 876 rfl) ?_
  refine y_gfr rfl rfl rfl rfl rfl (hH.r 876 2 879 rfl) ?_
  refine y_iload_n rfl rfl ?_
  refine y_iload_n rfl rfl ?_
  refine y_callV rfl rfl rfl (t_vo_meaning__p hH 879 5130 from_ to rfl ⟨by omega, by omega⟩ ⟨by omega, by omega⟩ ⟨by omega, by omega⟩ (by first | assumption | omega) (by first | assumption | exact (CEN_FR hF rfl rfl (by assumption : CEN S))) _) ?_
  rintro _ _ ⟨rfl, z2, rfl, w2, f13, n13⟩
  show Pl _ _ _ _ _ _ [iv z2] _ _
  have hmv : mnV S from_ to = z2 := mnV_of f13 n13
  clear f13 n13
  have g13 : Hid (_ ∨ _) := mn_rg (a := from_) (b := to) hCE
  refine y_istore rfl rfl rfl ?_
  refine y_iload rfl rfl ?_
  refine y_sipush rfl rfl ?_
  refine y_iand255 rfl (by unfold rg; omega) ?_
  refine y_istore rfl rfl rfl ?_
  refine y_iload rfl rfl ?_
  refine y_bipush rfl rfl ?_
  refine y_ishr8 rfl (by unfold rg; omega) ?_
  refine y_iconst rfl ?_
  refine y_icmp_ne rfl rfl (by unfold rg; omega) (by unfold rg; omega) (fun w5 => ?_) (fun w6 => ?_)
  · refine y_aload_n rfl rfl ?_
    have N74 : Hid (¬ pOK S from_ to kind num) := fun q => by obtain ⟨q1, q2, q3⟩ := q; rw [hmv] at q1; first | omega | (rw [← h49] at q2; omega) | (have t := K63; rw [← q63, hmv] at q3; omega)
    refine y_gfr rfl rfl rfl rfl rfl (hH.r 895 0 876 rfl) ?_
    refine y_iconst rfl ?_
    refine y_iload_n rfl rfl ?_
    refine y_callV rfl rfl rfl (t_to_wrong__p hH 4 from_ ⟨by omega, by omega⟩ ⟨by omega, by omega⟩ _) ?_
    rintro _ T1 ⟨hHT1, w10, z9, rfl, w9, w7, f80, w8⟩
    have hFT1 : FR md_me_readProperty__p S T1 := FR.tr hF w10 rfl
    show Pl _ _ _ _ _ _ [iv z9] _ _
    have K80 : True := trivial
    refine y_pop rfl rfl ?_
    refine y_iconst rfl ?_
    refine y_ireturn rfl rfl ?_
    exact ⟨hHT1, hFT1, _, rfl, ⟨by omega, by omega⟩, (by first | (have t := K80; exact ⟨fun q => absurd q N74.o, fun _ => ⟨rfl, fun q => f80 q⟩⟩) | exact ⟨fun _ => ⟨by rw [hmv], rfl⟩, fun q => absurd Y86.o q⟩)⟩
  · refine y_iload rfl rfl ?_
    have m35 : 0 ≤ z2 % 256 ∧ z2 % 256 ≤ 63 := by have t := g13.o; rw [hmv] at t; rcases t with q | q; (exfalso; omega); omega
    refine y_if_eq rfl rfl (by unfold rg; omega) (fun w11 => ?_) (fun w12 => ?_)
    · refine y_iload_n rfl rfl ?_
      refine y_iconst rfl ?_
      refine y_icmp_eq rfl rfl (by unfold rg; omega) (by unfold rg; omega) (fun w13 => ?_) (fun w14 => ?_)
      · refine y_iload rfl rfl ?_
        have Y86 : Hid (pOK S from_ to kind num) := ⟨by rw [hmv]; omega, by first | exact Or.inl (by omega) | exact Or.inr (by rw [← h49]; omega), by first | exact Or.inl (by omega) | exact Or.inr (by rw [← q63, hmv]; omega)⟩
        refine y_ireturn rfl rfl ?_
        exact ⟨hH, hF, _, rfl, ⟨by omega, by omega⟩, (by first | (have t := K80; exact ⟨fun q => absurd q N74.o, fun _ => ⟨rfl, fun q => f80 q⟩⟩) | exact ⟨fun _ => ⟨by rw [hmv], rfl⟩, fun q => absurd Y86.o q⟩)⟩
      · refine y_aload_n rfl rfl ?_
        refine y_gfr rfl rfl rfl rfl rfl (hH.r 895 1 1 rfl) ?_
        refine y_iload_n rfl rfl ?_
        refine y_callV rfl rfl rfl (t_vo_propertiesOf__p hH kind ⟨by omega, by omega⟩ _) ?_
        rintro _ _ ⟨rfl, z15, rfl, w15, q63⟩
        show Pl _ _ _ _ _ _ [iv z15] _ _
        have K63 : True := trivial
        refine y_iload rfl rfl ?_
        refine y_ishrF rfl ?_
        have w16 : -2147483648 ≤ (ishrF z15 (z2 % 256)) ∧ (ishrF z15 (z2 % 256)) ≤ 2147483647 := ishrF_rg
        refine y_iconst rfl ?_
        refine y_iandF rfl ?_
        have w17 : 0 ≤ (iandF (ishrF z15 (z2 % 256)) 1) ∧ (iandF (ishrF z15 (z2 % 256)) 1) ≤ 1 := iandF_le (by omega) (by unfold rg; omega)
        refine y_if_ne rfl rfl (by unfold rg; omega) (fun w18 => ?_) (fun w19 => ?_)
        · refine y_iload rfl rfl ?_
          have Y86 : Hid (pOK S from_ to kind num) := ⟨by rw [hmv]; omega, by first | exact Or.inl (by omega) | exact Or.inr (by rw [← h49]; omega), by first | exact Or.inl (by omega) | exact Or.inr (by rw [← q63, hmv]; omega)⟩
          refine y_ireturn rfl rfl ?_
          exact ⟨hH, hF, _, rfl, ⟨by omega, by omega⟩, (by first | (have t := K80; exact ⟨fun q => absurd q N74.o, fun _ => ⟨rfl, fun q => f80 q⟩⟩) | exact ⟨fun _ => ⟨by rw [hmv], rfl⟩, fun q => absurd Y86.o q⟩)⟩
        · refine y_aload_n rfl rfl ?_
          have N74 : Hid (¬ pOK S from_ to kind num) := fun q => by obtain ⟨q1, q2, q3⟩ := q; rw [hmv] at q1; first | omega | (rw [← h49] at q2; omega) | (have t := K63; rw [← q63, hmv] at q3; omega)
          refine y_gfr rfl rfl rfl rfl rfl (hH.r 895 0 876 rfl) ?_
          refine y_iconst rfl ?_
          refine y_iload_n rfl rfl ?_
          refine y_callV rfl rfl rfl (t_to_wrong__p hH 4 from_ ⟨by omega, by omega⟩ ⟨by omega, by omega⟩ _) ?_
          rintro _ T2 ⟨hHT2, w23, z22, rfl, w22, w20, f80, w21⟩
          have hFT2 : FR md_me_readProperty__p S T2 := FR.tr hF w23 rfl
          show Pl _ _ _ _ _ _ [iv z22] _ _
          have K80 : True := trivial
          refine y_pop rfl rfl ?_
          refine y_iconst rfl ?_
          refine y_ireturn rfl rfl ?_
          exact ⟨hHT2, hFT2, _, rfl, ⟨by omega, by omega⟩, (by first | (have t := K80; exact ⟨fun q => absurd q N74.o, fun _ => ⟨rfl, fun q => f80 q⟩⟩) | exact ⟨fun _ => ⟨by rw [hmv], rfl⟩, fun q => absurd Y86.o q⟩)⟩
    · refine y_aload_n rfl rfl ?_
      refine y_gfr rfl rfl rfl rfl rfl (hH.r 895 1 1 rfl) ?_
      refine y_gfr rfl rfl rfl rfl rfl (hH.r 1 8 9 rfl) ?_
      refine y_iload rfl rfl ?_
      refine y_ialoadP (n := 12) rfl rfl (by unfold rg; omega) (fun w24 w25 => ?_)
      have w26 : -2147483648 ≤ (Xi S 9 (((z2 % 256)).toNat)) ∧ (Xi S 9 (((z2 % 256)).toNat)) ≤ 2147483647 := Xi_rgI
      have h49 : (Xi S 9 (((z2 % 256)).toNat)) = Xi S 9 (mnV S from_ to % 256).toNat := by rw [hmv]
      refine y_if_ne rfl rfl (by unfold rg; omega) (fun w27 => ?_) (fun w28 => ?_)
      · refine y_aload_n rfl rfl ?_
        have N74 : Hid (¬ pOK S from_ to kind num) := fun q => by obtain ⟨q1, q2, q3⟩ := q; rw [hmv] at q1; first | omega | (rw [← h49] at q2; omega) | (have t := K63; rw [← q63, hmv] at q3; omega)
        refine y_gfr rfl rfl rfl rfl rfl (hH.r 895 0 876 rfl) ?_
        refine y_iconst rfl ?_
        refine y_iload_n rfl rfl ?_
        refine y_callV rfl rfl rfl (t_to_wrong__p hH 4 from_ ⟨by omega, by omega⟩ ⟨by omega, by omega⟩ _) ?_
        rintro _ T3 ⟨hHT3, w32, z31, rfl, w31, w29, f80, w30⟩
        have hFT3 : FR md_me_readProperty__p S T3 := FR.tr hF w32 rfl
        show Pl _ _ _ _ _ _ [iv z31] _ _
        have K80 : True := trivial
        refine y_pop rfl rfl ?_
        refine y_iconst rfl ?_
        refine y_ireturn rfl rfl ?_
        exact ⟨hHT3, hFT3, _, rfl, ⟨by omega, by omega⟩, (by first | (have t := K80; exact ⟨fun q => absurd q N74.o, fun _ => ⟨rfl, fun q => f80 q⟩⟩) | exact ⟨fun _ => ⟨by rw [hmv], rfl⟩, fun q => absurd Y86.o q⟩)⟩
      · refine y_iload_n rfl rfl ?_
        refine y_iconst rfl ?_
        refine y_icmp_eq rfl rfl (by unfold rg; omega) (by unfold rg; omega) (fun w33 => ?_) (fun w34 => ?_)
        · refine y_iload rfl rfl ?_
          have Y86 : Hid (pOK S from_ to kind num) := ⟨by rw [hmv]; omega, by first | exact Or.inl (by omega) | exact Or.inr (by rw [← h49]; omega), by first | exact Or.inl (by omega) | exact Or.inr (by rw [← q63, hmv]; omega)⟩
          refine y_ireturn rfl rfl ?_
          exact ⟨hH, hF, _, rfl, ⟨by omega, by omega⟩, (by first | (have t := K80; exact ⟨fun q => absurd q N74.o, fun _ => ⟨rfl, fun q => f80 q⟩⟩) | exact ⟨fun _ => ⟨by rw [hmv], rfl⟩, fun q => absurd Y86.o q⟩)⟩
        · refine y_aload_n rfl rfl ?_
          refine y_gfr rfl rfl rfl rfl rfl (hH.r 895 1 1 rfl) ?_
          refine y_iload_n rfl rfl ?_
          refine y_callV rfl rfl rfl (t_vo_propertiesOf__p hH kind ⟨by omega, by omega⟩ _) ?_
          rintro _ _ ⟨rfl, z35, rfl, w35, q63⟩
          show Pl _ _ _ _ _ _ [iv z35] _ _
          have K63 : True := trivial
          refine y_iload rfl rfl ?_
          refine y_ishrF rfl ?_
          have w36 : -2147483648 ≤ (ishrF z35 (z2 % 256)) ∧ (ishrF z35 (z2 % 256)) ≤ 2147483647 := ishrF_rg
          refine y_iconst rfl ?_
          refine y_iandF rfl ?_
          have w37 : 0 ≤ (iandF (ishrF z35 (z2 % 256)) 1) ∧ (iandF (ishrF z35 (z2 % 256)) 1) ≤ 1 := iandF_le (by omega) (by unfold rg; omega)
          refine y_if_ne rfl rfl (by unfold rg; omega) (fun w38 => ?_) (fun w39 => ?_)
          · refine y_iload rfl rfl ?_
            have Y86 : Hid (pOK S from_ to kind num) := ⟨by rw [hmv]; omega, by first | exact Or.inl (by omega) | exact Or.inr (by rw [← h49]; omega), by first | exact Or.inl (by omega) | exact Or.inr (by rw [← q63, hmv]; omega)⟩
            refine y_ireturn rfl rfl ?_
            exact ⟨hH, hF, _, rfl, ⟨by omega, by omega⟩, (by first | (have t := K80; exact ⟨fun q => absurd q N74.o, fun _ => ⟨rfl, fun q => f80 q⟩⟩) | exact ⟨fun _ => ⟨by rw [hmv], rfl⟩, fun q => absurd Y86.o q⟩)⟩
          · refine y_aload_n rfl rfl ?_
            have N74 : Hid (¬ pOK S from_ to kind num) := fun q => by obtain ⟨q1, q2, q3⟩ := q; rw [hmv] at q1; first | omega | (rw [← h49] at q2; omega) | (have t := K63; rw [← q63, hmv] at q3; omega)
            refine y_gfr rfl rfl rfl rfl rfl (hH.r 895 0 876 rfl) ?_
            refine y_iconst rfl ?_
            refine y_iload_n rfl rfl ?_
            refine y_callV rfl rfl rfl (t_to_wrong__p hH 4 from_ ⟨by omega, by omega⟩ ⟨by omega, by omega⟩ _) ?_
            rintro _ T4 ⟨hHT4, w43, z42, rfl, w42, w40, f80, w41⟩
            have hFT4 : FR md_me_readProperty__p S T4 := FR.tr hF w43 rfl
            show Pl _ _ _ _ _ _ [iv z42] _ _
            have K80 : True := trivial
            refine y_pop rfl rfl ?_
            refine y_iconst rfl ?_
            refine y_ireturn rfl rfl ?_
            exact ⟨hHT4, hFT4, _, rfl, ⟨by omega, by omega⟩, (by first | (have t := K80; exact ⟨fun q => absurd q N74.o, fun _ => ⟨rfl, fun q => f80 q⟩⟩) | exact ⟨fun _ => ⟨by rw [hmv], rfl⟩, fun q => absurd Y86.o q⟩)⟩
def md_me_readWhat__p : List rec := [(876, 877, 8, 9), (876, 877, 9, 10), (895, 896, 10, 11), (895, 896, 11, 12)]
abbrev Q_me_readWhat__p (S : sS) (row : Int) (type : Int) : pst := fun r S1 => RI S1 ∧ FR md_me_readWhat__p S S1 ∧ (∃ z : Int, r = some (iv z) ∧ (0 ≤ z ∧ z ≤ 1) ∧ (WHP S S1 z row type) ∧ (z = 1 → TXT S1 (Xi S1 895 10) (Xi S1 895 11)) ∧ (z = 1 → Xi S1 876 8 = Xi S 876 8))
set_option maxRecDepth 100000 in
theorem t_me_readWhat__p {S : sS} (hH : RI S) (row : Int) (type : Int) (hrow : 0 ≤ row ∧ row ≤ 5140) (htype : -2147483648 ≤ type ∧ type ≤ 2147483647) (h13 : 0 ≤ Xi S 1 3 ∧ Xi S 1 3 ≤ 200) (hCE : CEN S) (hT : TOK S) (hS : SRX S) (hnv : Hid (NVL S)) (hr : Xi S 876 7 ≤ 5130) (hpl : Hid (∀ j : Nat, 0 ≤ Xi S 878 j)) (h5 : Xi S 876 5 ≤ 5000) (d : Nat) : Mp lay0 (d + 2) m_me_readWhat [.ref 895, iv row, iv type] S (Q_me_readWhat__p S row type) := by
  refine Mp_R rfl rfl (fun fu => ?_)
  have hF : FR md_me_readWhat__p S S := FR.rf
  have w1 : -2147483648 ≤ Xi S 1 3 ∧ Xi S 1 3 ≤ 2147483647 := Xi_rgI
  have w2 : -2147483648 ≤ Xi S 876 5 ∧ Xi S 876 5 ≤ 2147483647 := Xi_rgI
  have w3 : -2147483648 ≤ Xi S 876 7 ∧ Xi S 876 7 ≤ 2147483647 := Xi_rgI
  have w4 : -2147483648 ≤ Xi S 876 8 ∧ Xi S 876 8 ≤ 2147483647 := Xi_rgI
  have w5 : -2147483648 ≤ Xi S 895 10 ∧ Xi S 895 10 ≤ 2147483647 := Xi_rgI
  have w6 : -2147483648 ≤ Xi S 895 11 ∧ Xi S 895 11 ≤ 2147483647 := Xi_rgI
  have htk : 0 ≤ row → row < Xi S 876 7 → Xi S 877 row.toNat = 102 → 0 ≤ Xj S 879 row.toNat ∧ Xj S 879 row.toNat ≤ 120 ∧ Xi S 878 row.toNat + Xj S 879 row.toNat + 2 ≤ Xi S 876 5 := fun h1 h2 h3 => hT row.toNat (by omega) h3
  refine y_aload_n rfl rfl ?_
  refine y_gfr rfl rfl rfl rfl rfl (hH.r 895 0 876 rfl) ?_
  refine y_iload_n rfl rfl ?_
  refine y_callV rfl rfl rfl (t_to_typeAt__p hH row ⟨by omega, by omega⟩ _) ?_
  rintro _ _ ⟨rfl, z8, rfl, w8, w7, g5⟩
  show Pl _ _ _ _ _ _ [iv z8] _ _
  have gq5 := w7
  clear w7
  refine y_istore_n rfl rfl rfl ?_
  refine y_aload_n rfl rfl ?_
  refine y_iconst rfl ?_
  refine y_pfi rfl rfl rfl rfl ?_
  obtain ⟨U1, eU1⟩ : ∃ T : sS, T = uI S 895 11 (Int32.ofInt 0) := ⟨_, rfl⟩
  rw [← eU1]
  have hHU1 : RI U1 := by rw [eU1]; exact RI_w hH
  have hFU1 : FR md_me_readWhat__p S U1 := by rw [eU1]; exact FR.wI hF (mdf_i (r := (895, 896, 11, 12)) (List.mem_of_getElem? (i := 3) rfl) (inR_i (by omega) (by omega) (by omega) (by omega)))
  have w9 : Xi U1 895 11 = 0 := by rw [eU1]; exact Xi_same (by unfold rg; omega)
  refine y_aload_n rfl rfl ?_
  refine y_aload_n rfl rfl ?_
  refine y_gfr rfl rfl rfl rfl rfl (hHU1.r 895 0 876 rfl) ?_
  refine y_iload_n rfl rfl ?_
  have w10 : Xi U1 876 5 = Xi S 876 5 := (show Xi U1 876 5 = Xi S 876 5 from by rw [eU1]; exact Xi_ne (by omega))
  have w11 : Xi U1 876 7 = Xi S 876 7 := (show Xi U1 876 7 = Xi S 876 7 from by rw [eU1]; exact Xi_ne (by omega))
  have w12 : Xi U1 876 8 = Xi S 876 8 := (show Xi U1 876 8 = Xi S 876 8 from by rw [eU1]; exact Xi_ne (by omega))
  have w13 : Xi U1 895 10 = Xi S 895 10 := (show Xi U1 895 10 = Xi S 895 10 from by rw [eU1]; exact Xi_ne (by omega))
  refine y_callV rfl rfl rfl (t_to_valueAt__p hHU1 row ⟨by omega, by omega⟩ _) ?_
  rintro _ _ ⟨rfl, z14, rfl, w14, p20⟩
  show Pl _ _ _ _ _ _ [iv z14, .ref 895] _ _
  have v20 : Hid (ty7 S row = 101 ∨ ty7 S row = 102 → z14 = Xj S 879 row.toNat ∧ pc7 S row = Xi S 878 row.toNat ∧ Xi S 877 row.toNat = ty7 S row ∧ 0 ≤ row ∧ row < Xi S 876 7) := fun q => by have g := g5 (by omega); have e := (hFU1.cx 879 rfl row.toNat).2; have y := ty7_i (S := S) g.1 g.2; have b : 0 ≤ Xj S 879 row.toNat ∧ Xj S 879 row.toNat ≤ 2147483647 := (by rcases q with q | q; exact hnv.o row.toNat (by omega) (by omega); (have u := htk g.1 g.2 (by omega); omega)); exact ⟨by rw [← e]; exact p20 g.1 (by omega) (by rw [e]; exact b.1) (by rw [e]; exact b.2), by unfold pc7; rw [if_pos g], y.symm, g.1, g.2⟩
  clear p20
  refine y_pfi rfl rfl rfl rfl ?_
  obtain ⟨U2, eU2⟩ : ∃ T : sS, T = uI U1 895 10 (Int32.ofInt z14) := ⟨_, rfl⟩
  rw [← eU2]
  have hHU2 : RI U2 := by rw [eU2]; exact RI_w hHU1
  have hFU2 : FR md_me_readWhat__p S U2 := by rw [eU2]; exact FR.wI hFU1 (mdf_i (r := (895, 896, 10, 11)) (List.mem_of_getElem? (i := 2) rfl) (inR_i (by omega) (by omega) (by omega) (by omega)))
  have w15 : Xi U2 895 10 = z14 := by rw [eU2]; exact Xi_same (by unfold rg; omega)
  refine y_iload_n rfl rfl ?_
  refine y_if_ne rfl rfl (by unfold rg; omega) (fun w16 => ?_) (fun w17 => ?_)
  · refine y_iload_n rfl rfl ?_
    refine y_iconst rfl ?_
    refine y_icmp_ne rfl rfl (by unfold rg; omega) (by unfold rg; omega) (fun w18 => ?_) (fun w19 => ?_)
    · refine y_iload_n rfl rfl ?_
      refine y_bipush rfl rfl ?_
      refine y_icmp_ne rfl rfl (by unfold rg; omega) (by unfold rg; omega) (fun w20 => ?_) (fun w21 => ?_)
      · refine y_iconst rfl ?_
        refine y_istore rfl rfl rfl ?_
        refine y_iload rfl rfl ?_
        refine y_bipush rfl rfl ?_
        refine y_ishr8 rfl (by unfold rg; omega) ?_
        refine y_iconst rfl ?_
        refine y_icmp_ne rfl rfl (by unfold rg; omega) (by unfold rg; omega) (fun w23 => ?_) (fun w24 => ?_)
        · refine y_aload_n rfl rfl ?_
          have N152 : ∀ v l : Int, ¬ WHR S row type v l := whr_n (by omega) (by omega) (fun q => by obtain ⟨a, b, c⟩ := q; first | omega | (rw [hm104] at b; omega) | (rw [← e135] at c; omega))
          refine y_gfr rfl rfl rfl rfl rfl (hHU2.r 895 0 876 rfl) ?_
          refine y_iconst rfl ?_
          refine y_iload_n rfl rfl ?_
          have w25 : Xi U2 876 5 = Xi S 876 5 := (show Xi U2 876 5 = Xi U1 876 5 from by rw [eU2]; exact Xi_ne (by omega)).trans ((show Xi U1 876 5 = Xi S 876 5 from by rw [eU1]; exact Xi_ne (by omega)))
          have w26 : Xi U2 876 7 = Xi S 876 7 := (show Xi U2 876 7 = Xi U1 876 7 from by rw [eU2]; exact Xi_ne (by omega)).trans ((show Xi U1 876 7 = Xi S 876 7 from by rw [eU1]; exact Xi_ne (by omega)))
          have w27 : Xi U2 876 8 = Xi S 876 8 := (show Xi U2 876 8 = Xi U1 876 8 from by rw [eU2]; exact Xi_ne (by omega)).trans ((show Xi U1 876 8 = Xi S 876 8 from by rw [eU1]; exact Xi_ne (by omega)))
          have w28 : Xi U2 876 9 = Xi S 876 9 := (show Xi U2 876 9 = Xi U1 876 9 from by rw [eU2]; exact Xi_ne (by omega)).trans ((show Xi U1 876 9 = Xi S 876 9 from by rw [eU1]; exact Xi_ne (by omega)))
          have w29 : Xi U2 895 11 = Xi U1 895 11 := (show Xi U2 895 11 = Xi U1 895 11 from by rw [eU2]; exact Xi_ne (by omega))
          refine y_callV rfl rfl rfl (t_to_wrong__p hHU2 4 row ⟨by omega, by omega⟩ ⟨by omega, by omega⟩ _) ?_
          rintro _ T3 ⟨hHT3, w33, z32, rfl, w32, w30, f158, w31⟩
          have hFT3 : FR md_me_readWhat__p S T3 := FR.tr hFU2 w33 rfl
          show Pl _ _ _ _ _ _ [iv z32] _ _
          have K158 : True := trivial
          have Y158 : Xi S 876 8 = 0 → FTO S T3 4 row := fun q => by have t := f158 (by omega); unfold pc7 at t; rw [(hFU2.cx 878 rfl _).1, hFU2.x 876 7 rfl, hFU2.x 876 5 rfl] at t; exact t
          refine y_ireturn rfl (retI_z (by omega)) ?_
          have w34 : Xi T3 876 5 = Xi S 876 5 := (show Xi T3 876 5 = Xi U2 876 5 from w33.x _ _ rfl).trans ( (show Xi U2 876 5 = Xi U1 876 5 from by rw [eU2]; exact Xi_ne (by omega)).trans ((show Xi U1 876 5 = Xi S 876 5 from by rw [eU1]; exact Xi_ne (by omega))))
          have w35 : Xi T3 876 7 = Xi S 876 7 := (show Xi T3 876 7 = Xi U2 876 7 from w33.x _ _ rfl).trans ( (show Xi U2 876 7 = Xi U1 876 7 from by rw [eU2]; exact Xi_ne (by omega)).trans ((show Xi U1 876 7 = Xi S 876 7 from by rw [eU1]; exact Xi_ne (by omega))))
          have w36 : Xi T3 895 10 = Xi U2 895 10 := (show Xi T3 895 10 = Xi U2 895 10 from w33.x _ _ rfl)
          have w37 : Xi T3 895 11 = Xi U1 895 11 := (show Xi T3 895 11 = Xi U2 895 11 from w33.x _ _ rfl).trans ((show Xi U2 895 11 = Xi U1 895 11 from by rw [eU2]; exact Xi_ne (by omega)))
          exact ⟨hHT3, hFT3, _, rfl, ⟨by omega, by omega⟩, (by first | (have t := K158; exact ⟨fun q => absurd q (by omega), fun _ => ⟨N152, fun q => Y158 q⟩⟩) | (have t := K147; exact ⟨fun _ => Or.inr (Or.inr ⟨by omega, by omega, by omega, m122, e140, by rw [hm104]; omega, by omega⟩), fun q => absurd q (by omega)⟩) | (have t := K68; exact ⟨fun _ => Or.inr (Or.inl ⟨by omega, by omega, by omega, by omega⟩), fun q => absurd q (by omega)⟩) | exact ⟨fun _ => Or.inl ⟨by omega, by omega, by omega, by omega⟩, fun q => absurd q (by omega)⟩), (by first | (intro hz; omega) | (intro _; exact Or.inl (by omega)) | (intro _; exact tx_mk (SRX_FR hFT3 rfl hS) (by omega) (by omega))), (by omega)⟩
        · exfalso; omega
      · refine y_aload_n rfl rfl ?_
        refine y_gfr rfl rfl rfl rfl rfl (hHU2.r 895 1 1 rfl) ?_
        refine y_aload_n rfl rfl ?_
        refine y_gfr rfl rfl rfl rfl rfl (hHU2.r 895 0 876 rfl) ?_
        refine y_gfr rfl rfl rfl rfl rfl (hHU2.r 876 2 879 rfl) ?_
        refine y_iload_n rfl rfl ?_
        refine y_aload_n rfl rfl ?_
        refine y_gfr rfl rfl rfl rfl rfl (hHU2.r 895 0 876 rfl) ?_
        refine y_iload_n rfl rfl ?_
        refine y_iload_n rfl rfl ?_
        refine y_iconst rfl ?_
        refine y_iadd rfl ?_
        refine y_iconst rfl ?_
        refine y_iadd rfl ?_
        have w38 : Xi U2 876 5 = Xi S 876 5 := (show Xi U2 876 5 = Xi U1 876 5 from by rw [eU2]; exact Xi_ne (by omega)).trans ((show Xi U1 876 5 = Xi S 876 5 from by rw [eU1]; exact Xi_ne (by omega)))
        have w39 : Xi U2 876 7 = Xi S 876 7 := (show Xi U2 876 7 = Xi U1 876 7 from by rw [eU2]; exact Xi_ne (by omega)).trans ((show Xi U1 876 7 = Xi S 876 7 from by rw [eU1]; exact Xi_ne (by omega)))
        have w40 : Xi U2 876 8 = Xi S 876 8 := (show Xi U2 876 8 = Xi U1 876 8 from by rw [eU2]; exact Xi_ne (by omega)).trans ((show Xi U1 876 8 = Xi S 876 8 from by rw [eU1]; exact Xi_ne (by omega)))
        have w41 : Xi U2 895 11 = Xi U1 895 11 := (show Xi U2 895 11 = Xi U1 895 11 from by rw [eU2]; exact Xi_ne (by omega))
        refine y_callV rfl rfl rfl (t_to_runEndUpTo__p hHU2 row ((row + 3) + 1) ⟨by omega, by omega⟩ ⟨by omega, by omega⟩ _) ?_
        rintro _ _ ⟨rfl, z43, rfl, w43, v101, w42⟩
        show Pl _ _ _ _ _ _ [iv z43, iv row, .ref 879, .ref 1] _ _
        have e101 : z43 = ruF S row (row + 4) := by have t := v101; rw [ruF_FR hFU2 rfl] at t; rw [show row + 4 = row + 3 + 1 by omega]; exact t
        clear v101
        have w44 : Xi U2 1 3 = Xi S 1 3 := (show Xi U2 1 3 = Xi U1 1 3 from by rw [eU2]; exact Xi_ne (by omega)).trans ((show Xi U1 1 3 = Xi S 1 3 from by rw [eU1]; exact Xi_ne (by omega)))
        refine y_callV rfl rfl rfl (t_vo_meaning__p hHU2 879 5130 row z43 rfl ⟨by omega, by omega⟩ ⟨by omega, by omega⟩ ⟨by omega, by omega⟩ (by first | assumption | omega) (by first | assumption | exact (CEN_FR hFU2 rfl rfl (by assumption : CEN S))) _) ?_
        rintro _ _ ⟨rfl, z49, rfl, w49, f104, n104⟩
        show Pl _ _ _ _ _ _ [iv z49] _ _
        have hm104 : mnV S row (ruF S row (row + 4)) = z49 := by have t := mnV_of f104 n104; rw [mnV_eq (SMV_FR hFU2 rfl rfl), e101] at t; exact t
        clear f104 n104
        have g104 : Hid (_ ∨ _) := mn_rg (a := row) (b := ruF S row (row + 4)) hCE
        refine y_goto rfl rfl ?_
        refine y_istore rfl rfl rfl ?_
        refine y_iload rfl rfl ?_
        refine y_bipush rfl rfl ?_
        refine y_ishr8 rfl (by unfold rg; omega) ?_
        refine y_iconst rfl ?_
        refine y_icmp_ne rfl rfl (by unfold rg; omega) (by unfold rg; omega) (fun w51 => ?_) (fun w52 => ?_)
        · refine y_aload_n rfl rfl ?_
          have N152 : ∀ v l : Int, ¬ WHR S row type v l := whr_n (by omega) (by omega) (fun q => by obtain ⟨a, b, c⟩ := q; first | omega | (rw [hm104] at b; omega) | (rw [← e135] at c; omega))
          refine y_gfr rfl rfl rfl rfl rfl (hHU2.r 895 0 876 rfl) ?_
          refine y_iconst rfl ?_
          refine y_iload_n rfl rfl ?_
          have w56 : Xi U2 876 9 = Xi S 876 9 := (show Xi U2 876 9 = Xi U1 876 9 from by rw [eU2]; exact Xi_ne (by omega)).trans ((show Xi U1 876 9 = Xi S 876 9 from by rw [eU1]; exact Xi_ne (by omega)))
          refine y_callV rfl rfl rfl (t_to_wrong__p hHU2 4 row ⟨by omega, by omega⟩ ⟨by omega, by omega⟩ _) ?_
          rintro _ T4 ⟨hHT4, w61, z60, rfl, w60, w58, f158, w59⟩
          have hFT4 : FR md_me_readWhat__p S T4 := FR.tr hFU2 w61 rfl
          show Pl _ _ _ _ _ _ [iv z60] _ _
          have K158 : True := trivial
          have Y158 : Xi S 876 8 = 0 → FTO S T4 4 row := fun q => by have t := f158 (by omega); unfold pc7 at t; rw [(hFU2.cx 878 rfl _).1, hFU2.x 876 7 rfl, hFU2.x 876 5 rfl] at t; exact t
          refine y_ireturn rfl (retI_z (by omega)) ?_
          have w62 : Xi T4 876 5 = Xi S 876 5 := (show Xi T4 876 5 = Xi U2 876 5 from w61.x _ _ rfl).trans ( (show Xi U2 876 5 = Xi U1 876 5 from by rw [eU2]; exact Xi_ne (by omega)).trans ((show Xi U1 876 5 = Xi S 876 5 from by rw [eU1]; exact Xi_ne (by omega))))
          have w63 : Xi T4 876 7 = Xi S 876 7 := (show Xi T4 876 7 = Xi U2 876 7 from w61.x _ _ rfl).trans ( (show Xi U2 876 7 = Xi U1 876 7 from by rw [eU2]; exact Xi_ne (by omega)).trans ((show Xi U1 876 7 = Xi S 876 7 from by rw [eU1]; exact Xi_ne (by omega))))
          have w64 : Xi T4 895 10 = Xi U2 895 10 := (show Xi T4 895 10 = Xi U2 895 10 from w61.x _ _ rfl)
          have w65 : Xi T4 895 11 = Xi U1 895 11 := (show Xi T4 895 11 = Xi U2 895 11 from w61.x _ _ rfl).trans ((show Xi U2 895 11 = Xi U1 895 11 from by rw [eU2]; exact Xi_ne (by omega)))
          exact ⟨hHT4, hFT4, _, rfl, ⟨by omega, by omega⟩, (by first | (have t := K158; exact ⟨fun q => absurd q (by omega), fun _ => ⟨N152, fun q => Y158 q⟩⟩) | (have t := K147; exact ⟨fun _ => Or.inr (Or.inr ⟨by omega, by omega, by omega, m122, e140, by rw [hm104]; omega, by omega⟩), fun q => absurd q (by omega)⟩) | (have t := K68; exact ⟨fun _ => Or.inr (Or.inl ⟨by omega, by omega, by omega, by omega⟩), fun q => absurd q (by omega)⟩) | exact ⟨fun _ => Or.inl ⟨by omega, by omega, by omega, by omega⟩, fun q => absurd q (by omega)⟩), (by first | (intro hz; omega) | (intro _; exact Or.inl (by omega)) | (intro _; exact tx_mk (SRX_FR hFT4 rfl hS) (by omega) (by omega))), (by omega)⟩
        · refine y_aload_n rfl rfl ?_
          have m122 : mnV S row (ruF S row (row + 4)) / 256 = 4 := by rw [hm104]; omega
          have b122 : 0 ≤ mnV S row (ruF S row (row + 4)) % 256 ∧ mnV S row (ruF S row (row + 4)) % 256 ≤ 63 := by have t := g104.o; rcases t with q | q; (exfalso; omega); omega
          refine y_gfr rfl rfl rfl rfl rfl (hHU2.r 895 1 1 rfl) ?_
          refine y_gfr rfl rfl rfl rfl rfl (hHU2.r 1 7 8 rfl) ?_
          refine y_iload rfl rfl ?_
          refine y_sipush rfl rfl ?_
          refine y_iand255 rfl (by unfold rg; omega) ?_
          refine y_ialoadP (n := 64) rfl rfl (by unfold rg; omega) (fun w67 w68 => ?_)
          have w69 : -2147483648 ≤ (Xi U2 8 (((z49 % 256)).toNat)) ∧ (Xi U2 8 (((z49 % 256)).toNat)) ≤ 2147483647 := Xi_rgI
          have e135 : (Xi U2 8 (((z49 % 256)).toNat)) = Xi S 8 (mnV S row (ruF S row (row + 4)) % 256).toNat := by rw [hm104]; exact (hFU2.cx 8 rfl _).1
          refine y_iload_n rfl rfl ?_
          refine y_icmp_ne rfl rfl (by unfold rg; omega) (by unfold rg; omega) (fun w70 => ?_) (fun w71 => ?_)
          · refine y_aload_n rfl rfl ?_
            have N152 : ∀ v l : Int, ¬ WHR S row type v l := whr_n (by omega) (by omega) (fun q => by obtain ⟨a, b, c⟩ := q; first | omega | (rw [hm104] at b; omega) | (rw [← e135] at c; omega))
            refine y_gfr rfl rfl rfl rfl rfl (hHU2.r 895 0 876 rfl) ?_
            refine y_iconst rfl ?_
            refine y_iload_n rfl rfl ?_
            have w75 : Xi U2 876 9 = Xi S 876 9 := (show Xi U2 876 9 = Xi U1 876 9 from by rw [eU2]; exact Xi_ne (by omega)).trans ((show Xi U1 876 9 = Xi S 876 9 from by rw [eU1]; exact Xi_ne (by omega)))
            refine y_callV rfl rfl rfl (t_to_wrong__p hHU2 4 row ⟨by omega, by omega⟩ ⟨by omega, by omega⟩ _) ?_
            rintro _ T5 ⟨hHT5, w80, z79, rfl, w79, w77, f158, w78⟩
            have hFT5 : FR md_me_readWhat__p S T5 := FR.tr hFU2 w80 rfl
            show Pl _ _ _ _ _ _ [iv z79] _ _
            have K158 : True := trivial
            have Y158 : Xi S 876 8 = 0 → FTO S T5 4 row := fun q => by have t := f158 (by omega); unfold pc7 at t; rw [(hFU2.cx 878 rfl _).1, hFU2.x 876 7 rfl, hFU2.x 876 5 rfl] at t; exact t
            refine y_ireturn rfl (retI_z (by omega)) ?_
            have w81 : Xi T5 876 5 = Xi S 876 5 := (show Xi T5 876 5 = Xi U2 876 5 from w80.x _ _ rfl).trans ( (show Xi U2 876 5 = Xi U1 876 5 from by rw [eU2]; exact Xi_ne (by omega)).trans ((show Xi U1 876 5 = Xi S 876 5 from by rw [eU1]; exact Xi_ne (by omega))))
            have w82 : Xi T5 876 7 = Xi S 876 7 := (show Xi T5 876 7 = Xi U2 876 7 from w80.x _ _ rfl).trans ( (show Xi U2 876 7 = Xi U1 876 7 from by rw [eU2]; exact Xi_ne (by omega)).trans ((show Xi U1 876 7 = Xi S 876 7 from by rw [eU1]; exact Xi_ne (by omega))))
            have w83 : Xi T5 895 10 = Xi U2 895 10 := (show Xi T5 895 10 = Xi U2 895 10 from w80.x _ _ rfl)
            have w84 : Xi T5 895 11 = Xi U1 895 11 := (show Xi T5 895 11 = Xi U2 895 11 from w80.x _ _ rfl).trans ((show Xi U2 895 11 = Xi U1 895 11 from by rw [eU2]; exact Xi_ne (by omega)))
            exact ⟨hHT5, hFT5, _, rfl, ⟨by omega, by omega⟩, (by first | (have t := K158; exact ⟨fun q => absurd q (by omega), fun _ => ⟨N152, fun q => Y158 q⟩⟩) | (have t := K147; exact ⟨fun _ => Or.inr (Or.inr ⟨by omega, by omega, by omega, m122, e140, by rw [hm104]; omega, by omega⟩), fun q => absurd q (by omega)⟩) | (have t := K68; exact ⟨fun _ => Or.inr (Or.inl ⟨by omega, by omega, by omega, by omega⟩), fun q => absurd q (by omega)⟩) | exact ⟨fun _ => Or.inl ⟨by omega, by omega, by omega, by omega⟩, fun q => absurd q (by omega)⟩), (by first | (intro hz; omega) | (intro _; exact Or.inl (by omega)) | (intro _; exact tx_mk (SRX_FR hFT5 rfl hS) (by omega) (by omega))), (by omega)⟩
          · refine y_aload_n rfl rfl ?_
            have e140 : Xi S 8 (mnV S row (ruF S row (row + 4)) % 256).toNat = type := by omega
            refine y_iload rfl rfl ?_
            refine y_sipush rfl rfl ?_
            refine y_iand255 rfl (by unfold rg; omega) ?_
            refine y_pfi rfl rfl rfl rfl ?_
            obtain ⟨U6, eU6⟩ : ∃ T : sS, T = uI U2 895 10 (Int32.ofInt (z49 % 256)) := ⟨_, rfl⟩
            rw [← eU6]
            have hHU6 : RI U6 := by rw [eU6]; exact RI_w hHU2
            have hFU6 : FR md_me_readWhat__p S U6 := by rw [eU6]; exact FR.wI hFU2 (mdf_i (r := (895, 896, 10, 11)) (List.mem_of_getElem? (i := 2) rfl) (inR_i (by omega) (by omega) (by omega) (by omega)))
            have w86 : Xi U6 895 10 = (z49 % 256) := by rw [eU6]; exact Xi_same (by unfold rg; omega)
            have K147 : True := trivial
            refine y_iconst rfl ?_
            refine y_ireturn rfl rfl ?_
            have w87 : Xi U6 876 5 = Xi S 876 5 := (show Xi U6 876 5 = Xi U2 876 5 from by rw [eU6]; exact Xi_ne (by omega)).trans ( (show Xi U2 876 5 = Xi U1 876 5 from by rw [eU2]; exact Xi_ne (by omega)).trans ((show Xi U1 876 5 = Xi S 876 5 from by rw [eU1]; exact Xi_ne (by omega))))
            have w88 : Xi U6 876 7 = Xi S 876 7 := (show Xi U6 876 7 = Xi U2 876 7 from by rw [eU6]; exact Xi_ne (by omega)).trans ( (show Xi U2 876 7 = Xi U1 876 7 from by rw [eU2]; exact Xi_ne (by omega)).trans ((show Xi U1 876 7 = Xi S 876 7 from by rw [eU1]; exact Xi_ne (by omega))))
            have w89 : Xi U6 876 8 = Xi S 876 8 := (show Xi U6 876 8 = Xi U2 876 8 from by rw [eU6]; exact Xi_ne (by omega)).trans ( (show Xi U2 876 8 = Xi U1 876 8 from by rw [eU2]; exact Xi_ne (by omega)).trans ((show Xi U1 876 8 = Xi S 876 8 from by rw [eU1]; exact Xi_ne (by omega))))
            have w90 : Xi U6 895 11 = Xi U1 895 11 := (show Xi U6 895 11 = Xi U2 895 11 from by rw [eU6]; exact Xi_ne (by omega)).trans ((show Xi U2 895 11 = Xi U1 895 11 from by rw [eU2]; exact Xi_ne (by omega)))
            exact ⟨hHU6, hFU6, _, rfl, ⟨by omega, by omega⟩, (by first | (have t := K158; exact ⟨fun q => absurd q (by omega), fun _ => ⟨N152, fun q => Y158 q⟩⟩) | (have t := K147; exact ⟨fun _ => Or.inr (Or.inr ⟨by omega, by omega, by omega, m122, e140, by rw [hm104]; omega, by omega⟩), fun q => absurd q (by omega)⟩) | (have t := K68; exact ⟨fun _ => Or.inr (Or.inl ⟨by omega, by omega, by omega, by omega⟩), fun q => absurd q (by omega)⟩) | exact ⟨fun _ => Or.inl ⟨by omega, by omega, by omega, by omega⟩, fun q => absurd q (by omega)⟩), (by first | (intro hz; omega) | (intro _; exact Or.inl (by omega)) | (intro _; exact tx_mk (SRX_FR hFU6 rfl hS) (by omega) (by omega))), (by omega)⟩
    · refine y_iload_n rfl rfl ?_
      refine y_bipush rfl rfl ?_
      refine y_icmp_ne rfl rfl (by unfold rg; omega) (by unfold rg; omega) (fun w91 => ?_) (fun w92 => ?_)
      · refine y_iload_n rfl rfl ?_
        refine y_bipush rfl rfl ?_
        refine y_icmp_ne rfl rfl (by unfold rg; omega) (by unfold rg; omega) (fun w93 => ?_) (fun w94 => ?_)
        · refine y_iconst rfl ?_
          refine y_istore rfl rfl rfl ?_
          refine y_iload rfl rfl ?_
          refine y_bipush rfl rfl ?_
          refine y_ishr8 rfl (by unfold rg; omega) ?_
          refine y_iconst rfl ?_
          refine y_icmp_ne rfl rfl (by unfold rg; omega) (by unfold rg; omega) (fun w96 => ?_) (fun w97 => ?_)
          · refine y_aload_n rfl rfl ?_
            have N152 : ∀ v l : Int, ¬ WHR S row type v l := whr_n (by omega) (by omega) (fun q => by obtain ⟨a, b, c⟩ := q; first | omega | (rw [hm104] at b; omega) | (rw [← e135] at c; omega))
            refine y_gfr rfl rfl rfl rfl rfl (hHU2.r 895 0 876 rfl) ?_
            refine y_iconst rfl ?_
            refine y_iload_n rfl rfl ?_
            have w98 : Xi U2 876 5 = Xi S 876 5 := (show Xi U2 876 5 = Xi U1 876 5 from by rw [eU2]; exact Xi_ne (by omega)).trans ((show Xi U1 876 5 = Xi S 876 5 from by rw [eU1]; exact Xi_ne (by omega)))
            have w99 : Xi U2 876 7 = Xi S 876 7 := (show Xi U2 876 7 = Xi U1 876 7 from by rw [eU2]; exact Xi_ne (by omega)).trans ((show Xi U1 876 7 = Xi S 876 7 from by rw [eU1]; exact Xi_ne (by omega)))
            have w100 : Xi U2 876 8 = Xi S 876 8 := (show Xi U2 876 8 = Xi U1 876 8 from by rw [eU2]; exact Xi_ne (by omega)).trans ((show Xi U1 876 8 = Xi S 876 8 from by rw [eU1]; exact Xi_ne (by omega)))
            have w101 : Xi U2 876 9 = Xi S 876 9 := (show Xi U2 876 9 = Xi U1 876 9 from by rw [eU2]; exact Xi_ne (by omega)).trans ((show Xi U1 876 9 = Xi S 876 9 from by rw [eU1]; exact Xi_ne (by omega)))
            have w102 : Xi U2 895 11 = Xi U1 895 11 := (show Xi U2 895 11 = Xi U1 895 11 from by rw [eU2]; exact Xi_ne (by omega))
            refine y_callV rfl rfl rfl (t_to_wrong__p hHU2 4 row ⟨by omega, by omega⟩ ⟨by omega, by omega⟩ _) ?_
            rintro _ T7 ⟨hHT7, w106, z105, rfl, w105, w103, f158, w104⟩
            have hFT7 : FR md_me_readWhat__p S T7 := FR.tr hFU2 w106 rfl
            show Pl _ _ _ _ _ _ [iv z105] _ _
            have K158 : True := trivial
            have Y158 : Xi S 876 8 = 0 → FTO S T7 4 row := fun q => by have t := f158 (by omega); unfold pc7 at t; rw [(hFU2.cx 878 rfl _).1, hFU2.x 876 7 rfl, hFU2.x 876 5 rfl] at t; exact t
            refine y_ireturn rfl (retI_z (by omega)) ?_
            have w107 : Xi T7 876 5 = Xi S 876 5 := (show Xi T7 876 5 = Xi U2 876 5 from w106.x _ _ rfl).trans ( (show Xi U2 876 5 = Xi U1 876 5 from by rw [eU2]; exact Xi_ne (by omega)).trans ((show Xi U1 876 5 = Xi S 876 5 from by rw [eU1]; exact Xi_ne (by omega))))
            have w108 : Xi T7 876 7 = Xi S 876 7 := (show Xi T7 876 7 = Xi U2 876 7 from w106.x _ _ rfl).trans ( (show Xi U2 876 7 = Xi U1 876 7 from by rw [eU2]; exact Xi_ne (by omega)).trans ((show Xi U1 876 7 = Xi S 876 7 from by rw [eU1]; exact Xi_ne (by omega))))
            have w109 : Xi T7 895 10 = Xi U2 895 10 := (show Xi T7 895 10 = Xi U2 895 10 from w106.x _ _ rfl)
            have w110 : Xi T7 895 11 = Xi U1 895 11 := (show Xi T7 895 11 = Xi U2 895 11 from w106.x _ _ rfl).trans ((show Xi U2 895 11 = Xi U1 895 11 from by rw [eU2]; exact Xi_ne (by omega)))
            exact ⟨hHT7, hFT7, _, rfl, ⟨by omega, by omega⟩, (by first | (have t := K158; exact ⟨fun q => absurd q (by omega), fun _ => ⟨N152, fun q => Y158 q⟩⟩) | (have t := K147; exact ⟨fun _ => Or.inr (Or.inr ⟨by omega, by omega, by omega, m122, e140, by rw [hm104]; omega, by omega⟩), fun q => absurd q (by omega)⟩) | (have t := K68; exact ⟨fun _ => Or.inr (Or.inl ⟨by omega, by omega, by omega, by omega⟩), fun q => absurd q (by omega)⟩) | exact ⟨fun _ => Or.inl ⟨by omega, by omega, by omega, by omega⟩, fun q => absurd q (by omega)⟩), (by first | (intro hz; omega) | (intro _; exact Or.inl (by omega)) | (intro _; exact tx_mk (SRX_FR hFT7 rfl hS) (by omega) (by omega))), (by omega)⟩
          · exfalso; omega
        · refine y_aload_n rfl rfl ?_
          refine y_gfr rfl rfl rfl rfl rfl (hHU2.r 895 1 1 rfl) ?_
          refine y_aload_n rfl rfl ?_
          refine y_gfr rfl rfl rfl rfl rfl (hHU2.r 895 0 876 rfl) ?_
          refine y_gfr rfl rfl rfl rfl rfl (hHU2.r 876 2 879 rfl) ?_
          refine y_iload_n rfl rfl ?_
          refine y_aload_n rfl rfl ?_
          refine y_gfr rfl rfl rfl rfl rfl (hHU2.r 895 0 876 rfl) ?_
          refine y_iload_n rfl rfl ?_
          refine y_iload_n rfl rfl ?_
          refine y_iconst rfl ?_
          refine y_iadd rfl ?_
          refine y_iconst rfl ?_
          refine y_iadd rfl ?_
          have w111 : Xi U2 876 5 = Xi S 876 5 := (show Xi U2 876 5 = Xi U1 876 5 from by rw [eU2]; exact Xi_ne (by omega)).trans ((show Xi U1 876 5 = Xi S 876 5 from by rw [eU1]; exact Xi_ne (by omega)))
          have w112 : Xi U2 876 7 = Xi S 876 7 := (show Xi U2 876 7 = Xi U1 876 7 from by rw [eU2]; exact Xi_ne (by omega)).trans ((show Xi U1 876 7 = Xi S 876 7 from by rw [eU1]; exact Xi_ne (by omega)))
          have w113 : Xi U2 876 8 = Xi S 876 8 := (show Xi U2 876 8 = Xi U1 876 8 from by rw [eU2]; exact Xi_ne (by omega)).trans ((show Xi U1 876 8 = Xi S 876 8 from by rw [eU1]; exact Xi_ne (by omega)))
          have w114 : Xi U2 895 11 = Xi U1 895 11 := (show Xi U2 895 11 = Xi U1 895 11 from by rw [eU2]; exact Xi_ne (by omega))
          refine y_callV rfl rfl rfl (t_to_runEndUpTo__p hHU2 row ((row + 3) + 1) ⟨by omega, by omega⟩ ⟨by omega, by omega⟩ _) ?_
          rintro _ _ ⟨rfl, z116, rfl, w116, v101, w115⟩
          show Pl _ _ _ _ _ _ [iv z116, iv row, .ref 879, .ref 1] _ _
          have e101 : z116 = ruF S row (row + 4) := by have t := v101; rw [ruF_FR hFU2 rfl] at t; rw [show row + 4 = row + 3 + 1 by omega]; exact t
          clear v101
          have w117 : Xi U2 1 3 = Xi S 1 3 := (show Xi U2 1 3 = Xi U1 1 3 from by rw [eU2]; exact Xi_ne (by omega)).trans ((show Xi U1 1 3 = Xi S 1 3 from by rw [eU1]; exact Xi_ne (by omega)))
          refine y_callV rfl rfl rfl (t_vo_meaning__p hHU2 879 5130 row z116 rfl ⟨by omega, by omega⟩ ⟨by omega, by omega⟩ ⟨by omega, by omega⟩ (by first | assumption | omega) (by first | assumption | exact (CEN_FR hFU2 rfl rfl (by assumption : CEN S))) _) ?_
          rintro _ _ ⟨rfl, z122, rfl, w122, f104, n104⟩
          show Pl _ _ _ _ _ _ [iv z122] _ _
          have hm104 : mnV S row (ruF S row (row + 4)) = z122 := by have t := mnV_of f104 n104; rw [mnV_eq (SMV_FR hFU2 rfl rfl), e101] at t; exact t
          clear f104 n104
          have g104 : Hid (_ ∨ _) := mn_rg (a := row) (b := ruF S row (row + 4)) hCE
          refine y_goto rfl rfl ?_
          refine y_istore rfl rfl rfl ?_
          refine y_iload rfl rfl ?_
          refine y_bipush rfl rfl ?_
          refine y_ishr8 rfl (by unfold rg; omega) ?_
          refine y_iconst rfl ?_
          refine y_icmp_ne rfl rfl (by unfold rg; omega) (by unfold rg; omega) (fun w124 => ?_) (fun w125 => ?_)
          · refine y_aload_n rfl rfl ?_
            have N152 : ∀ v l : Int, ¬ WHR S row type v l := whr_n (by omega) (by omega) (fun q => by obtain ⟨a, b, c⟩ := q; first | omega | (rw [hm104] at b; omega) | (rw [← e135] at c; omega))
            refine y_gfr rfl rfl rfl rfl rfl (hHU2.r 895 0 876 rfl) ?_
            refine y_iconst rfl ?_
            refine y_iload_n rfl rfl ?_
            have w129 : Xi U2 876 9 = Xi S 876 9 := (show Xi U2 876 9 = Xi U1 876 9 from by rw [eU2]; exact Xi_ne (by omega)).trans ((show Xi U1 876 9 = Xi S 876 9 from by rw [eU1]; exact Xi_ne (by omega)))
            refine y_callV rfl rfl rfl (t_to_wrong__p hHU2 4 row ⟨by omega, by omega⟩ ⟨by omega, by omega⟩ _) ?_
            rintro _ T8 ⟨hHT8, w134, z133, rfl, w133, w131, f158, w132⟩
            have hFT8 : FR md_me_readWhat__p S T8 := FR.tr hFU2 w134 rfl
            show Pl _ _ _ _ _ _ [iv z133] _ _
            have K158 : True := trivial
            have Y158 : Xi S 876 8 = 0 → FTO S T8 4 row := fun q => by have t := f158 (by omega); unfold pc7 at t; rw [(hFU2.cx 878 rfl _).1, hFU2.x 876 7 rfl, hFU2.x 876 5 rfl] at t; exact t
            refine y_ireturn rfl (retI_z (by omega)) ?_
            have w135 : Xi T8 876 5 = Xi S 876 5 := (show Xi T8 876 5 = Xi U2 876 5 from w134.x _ _ rfl).trans ( (show Xi U2 876 5 = Xi U1 876 5 from by rw [eU2]; exact Xi_ne (by omega)).trans ((show Xi U1 876 5 = Xi S 876 5 from by rw [eU1]; exact Xi_ne (by omega))))
            have w136 : Xi T8 876 7 = Xi S 876 7 := (show Xi T8 876 7 = Xi U2 876 7 from w134.x _ _ rfl).trans ( (show Xi U2 876 7 = Xi U1 876 7 from by rw [eU2]; exact Xi_ne (by omega)).trans ((show Xi U1 876 7 = Xi S 876 7 from by rw [eU1]; exact Xi_ne (by omega))))
            have w137 : Xi T8 895 10 = Xi U2 895 10 := (show Xi T8 895 10 = Xi U2 895 10 from w134.x _ _ rfl)
            have w138 : Xi T8 895 11 = Xi U1 895 11 := (show Xi T8 895 11 = Xi U2 895 11 from w134.x _ _ rfl).trans ((show Xi U2 895 11 = Xi U1 895 11 from by rw [eU2]; exact Xi_ne (by omega)))
            exact ⟨hHT8, hFT8, _, rfl, ⟨by omega, by omega⟩, (by first | (have t := K158; exact ⟨fun q => absurd q (by omega), fun _ => ⟨N152, fun q => Y158 q⟩⟩) | (have t := K147; exact ⟨fun _ => Or.inr (Or.inr ⟨by omega, by omega, by omega, m122, e140, by rw [hm104]; omega, by omega⟩), fun q => absurd q (by omega)⟩) | (have t := K68; exact ⟨fun _ => Or.inr (Or.inl ⟨by omega, by omega, by omega, by omega⟩), fun q => absurd q (by omega)⟩) | exact ⟨fun _ => Or.inl ⟨by omega, by omega, by omega, by omega⟩, fun q => absurd q (by omega)⟩), (by first | (intro hz; omega) | (intro _; exact Or.inl (by omega)) | (intro _; exact tx_mk (SRX_FR hFT8 rfl hS) (by omega) (by omega))), (by omega)⟩
          · refine y_aload_n rfl rfl ?_
            have m122 : mnV S row (ruF S row (row + 4)) / 256 = 4 := by rw [hm104]; omega
            have b122 : 0 ≤ mnV S row (ruF S row (row + 4)) % 256 ∧ mnV S row (ruF S row (row + 4)) % 256 ≤ 63 := by have t := g104.o; rcases t with q | q; (exfalso; omega); omega
            refine y_gfr rfl rfl rfl rfl rfl (hHU2.r 895 1 1 rfl) ?_
            refine y_gfr rfl rfl rfl rfl rfl (hHU2.r 1 7 8 rfl) ?_
            refine y_iload rfl rfl ?_
            refine y_sipush rfl rfl ?_
            refine y_iand255 rfl (by unfold rg; omega) ?_
            refine y_ialoadP (n := 64) rfl rfl (by unfold rg; omega) (fun w140 w141 => ?_)
            have w142 : -2147483648 ≤ (Xi U2 8 (((z122 % 256)).toNat)) ∧ (Xi U2 8 (((z122 % 256)).toNat)) ≤ 2147483647 := Xi_rgI
            have e135 : (Xi U2 8 (((z122 % 256)).toNat)) = Xi S 8 (mnV S row (ruF S row (row + 4)) % 256).toNat := by rw [hm104]; exact (hFU2.cx 8 rfl _).1
            refine y_iload_n rfl rfl ?_
            refine y_icmp_ne rfl rfl (by unfold rg; omega) (by unfold rg; omega) (fun w143 => ?_) (fun w144 => ?_)
            · refine y_aload_n rfl rfl ?_
              have N152 : ∀ v l : Int, ¬ WHR S row type v l := whr_n (by omega) (by omega) (fun q => by obtain ⟨a, b, c⟩ := q; first | omega | (rw [hm104] at b; omega) | (rw [← e135] at c; omega))
              refine y_gfr rfl rfl rfl rfl rfl (hHU2.r 895 0 876 rfl) ?_
              refine y_iconst rfl ?_
              refine y_iload_n rfl rfl ?_
              have w148 : Xi U2 876 9 = Xi S 876 9 := (show Xi U2 876 9 = Xi U1 876 9 from by rw [eU2]; exact Xi_ne (by omega)).trans ((show Xi U1 876 9 = Xi S 876 9 from by rw [eU1]; exact Xi_ne (by omega)))
              refine y_callV rfl rfl rfl (t_to_wrong__p hHU2 4 row ⟨by omega, by omega⟩ ⟨by omega, by omega⟩ _) ?_
              rintro _ T9 ⟨hHT9, w153, z152, rfl, w152, w150, f158, w151⟩
              have hFT9 : FR md_me_readWhat__p S T9 := FR.tr hFU2 w153 rfl
              show Pl _ _ _ _ _ _ [iv z152] _ _
              have K158 : True := trivial
              have Y158 : Xi S 876 8 = 0 → FTO S T9 4 row := fun q => by have t := f158 (by omega); unfold pc7 at t; rw [(hFU2.cx 878 rfl _).1, hFU2.x 876 7 rfl, hFU2.x 876 5 rfl] at t; exact t
              refine y_ireturn rfl (retI_z (by omega)) ?_
              have w154 : Xi T9 876 5 = Xi S 876 5 := (show Xi T9 876 5 = Xi U2 876 5 from w153.x _ _ rfl).trans ( (show Xi U2 876 5 = Xi U1 876 5 from by rw [eU2]; exact Xi_ne (by omega)).trans ((show Xi U1 876 5 = Xi S 876 5 from by rw [eU1]; exact Xi_ne (by omega))))
              have w155 : Xi T9 876 7 = Xi S 876 7 := (show Xi T9 876 7 = Xi U2 876 7 from w153.x _ _ rfl).trans ( (show Xi U2 876 7 = Xi U1 876 7 from by rw [eU2]; exact Xi_ne (by omega)).trans ((show Xi U1 876 7 = Xi S 876 7 from by rw [eU1]; exact Xi_ne (by omega))))
              have w156 : Xi T9 895 10 = Xi U2 895 10 := (show Xi T9 895 10 = Xi U2 895 10 from w153.x _ _ rfl)
              have w157 : Xi T9 895 11 = Xi U1 895 11 := (show Xi T9 895 11 = Xi U2 895 11 from w153.x _ _ rfl).trans ((show Xi U2 895 11 = Xi U1 895 11 from by rw [eU2]; exact Xi_ne (by omega)))
              exact ⟨hHT9, hFT9, _, rfl, ⟨by omega, by omega⟩, (by first | (have t := K158; exact ⟨fun q => absurd q (by omega), fun _ => ⟨N152, fun q => Y158 q⟩⟩) | (have t := K147; exact ⟨fun _ => Or.inr (Or.inr ⟨by omega, by omega, by omega, m122, e140, by rw [hm104]; omega, by omega⟩), fun q => absurd q (by omega)⟩) | (have t := K68; exact ⟨fun _ => Or.inr (Or.inl ⟨by omega, by omega, by omega, by omega⟩), fun q => absurd q (by omega)⟩) | exact ⟨fun _ => Or.inl ⟨by omega, by omega, by omega, by omega⟩, fun q => absurd q (by omega)⟩), (by first | (intro hz; omega) | (intro _; exact Or.inl (by omega)) | (intro _; exact tx_mk (SRX_FR hFT9 rfl hS) (by omega) (by omega))), (by omega)⟩
            · refine y_aload_n rfl rfl ?_
              have e140 : Xi S 8 (mnV S row (ruF S row (row + 4)) % 256).toNat = type := by omega
              refine y_iload rfl rfl ?_
              refine y_sipush rfl rfl ?_
              refine y_iand255 rfl (by unfold rg; omega) ?_
              refine y_pfi rfl rfl rfl rfl ?_
              obtain ⟨U10, eU10⟩ : ∃ T : sS, T = uI U2 895 10 (Int32.ofInt (z122 % 256)) := ⟨_, rfl⟩
              rw [← eU10]
              have hHU10 : RI U10 := by rw [eU10]; exact RI_w hHU2
              have hFU10 : FR md_me_readWhat__p S U10 := by rw [eU10]; exact FR.wI hFU2 (mdf_i (r := (895, 896, 10, 11)) (List.mem_of_getElem? (i := 2) rfl) (inR_i (by omega) (by omega) (by omega) (by omega)))
              have w159 : Xi U10 895 10 = (z122 % 256) := by rw [eU10]; exact Xi_same (by unfold rg; omega)
              have K147 : True := trivial
              refine y_iconst rfl ?_
              refine y_ireturn rfl rfl ?_
              have w160 : Xi U10 876 5 = Xi S 876 5 := (show Xi U10 876 5 = Xi U2 876 5 from by rw [eU10]; exact Xi_ne (by omega)).trans ( (show Xi U2 876 5 = Xi U1 876 5 from by rw [eU2]; exact Xi_ne (by omega)).trans ((show Xi U1 876 5 = Xi S 876 5 from by rw [eU1]; exact Xi_ne (by omega))))
              have w161 : Xi U10 876 7 = Xi S 876 7 := (show Xi U10 876 7 = Xi U2 876 7 from by rw [eU10]; exact Xi_ne (by omega)).trans ( (show Xi U2 876 7 = Xi U1 876 7 from by rw [eU2]; exact Xi_ne (by omega)).trans ((show Xi U1 876 7 = Xi S 876 7 from by rw [eU1]; exact Xi_ne (by omega))))
              have w162 : Xi U10 876 8 = Xi S 876 8 := (show Xi U10 876 8 = Xi U2 876 8 from by rw [eU10]; exact Xi_ne (by omega)).trans ( (show Xi U2 876 8 = Xi U1 876 8 from by rw [eU2]; exact Xi_ne (by omega)).trans ((show Xi U1 876 8 = Xi S 876 8 from by rw [eU1]; exact Xi_ne (by omega))))
              have w163 : Xi U10 895 11 = Xi U1 895 11 := (show Xi U10 895 11 = Xi U2 895 11 from by rw [eU10]; exact Xi_ne (by omega)).trans ((show Xi U2 895 11 = Xi U1 895 11 from by rw [eU2]; exact Xi_ne (by omega)))
              exact ⟨hHU10, hFU10, _, rfl, ⟨by omega, by omega⟩, (by first | (have t := K158; exact ⟨fun q => absurd q (by omega), fun _ => ⟨N152, fun q => Y158 q⟩⟩) | (have t := K147; exact ⟨fun _ => Or.inr (Or.inr ⟨by omega, by omega, by omega, m122, e140, by rw [hm104]; omega, by omega⟩), fun q => absurd q (by omega)⟩) | (have t := K68; exact ⟨fun _ => Or.inr (Or.inl ⟨by omega, by omega, by omega, by omega⟩), fun q => absurd q (by omega)⟩) | exact ⟨fun _ => Or.inl ⟨by omega, by omega, by omega, by omega⟩, fun q => absurd q (by omega)⟩), (by first | (intro hz; omega) | (intro _; exact Or.inl (by omega)) | (intro _; exact tx_mk (SRX_FR hFU10 rfl hS) (by omega) (by omega))), (by omega)⟩
      · refine y_aload_n rfl rfl ?_
        have x49 := v20.o (Or.inr (by omega))
        have y49 := htk (by omega) (by omega) (by omega)
        refine y_aload_n rfl rfl ?_
        refine y_gfi rfl rfl rfl rfl rfl ?_
        refine y_pfi rfl rfl rfl rfl ?_
        obtain ⟨U11, eU11⟩ : ∃ T : sS, T = uI U2 895 11 (Int32.ofInt (Xi U2 895 10)) := ⟨_, rfl⟩
        rw [← eU11]
        have hHU11 : RI U11 := by rw [eU11]; exact RI_w hHU2
        have hFU11 : FR md_me_readWhat__p S U11 := by rw [eU11]; exact FR.wI hFU2 (mdf_i (r := (895, 896, 11, 12)) (List.mem_of_getElem? (i := 3) rfl) (inR_i (by omega) (by omega) (by omega) (by omega)))
        have w164 : Xi U11 895 11 = (Xi U2 895 10) := by rw [eU11]; exact Xi_same (by unfold rg; omega)
        refine y_aload_n rfl rfl ?_
        refine y_aload_n rfl rfl ?_
        refine y_gfr rfl rfl rfl rfl rfl (hHU11.r 895 0 876 rfl) ?_
        refine y_iload_n rfl rfl ?_
        have w165 : Xi U11 876 5 = Xi S 876 5 := (show Xi U11 876 5 = Xi U2 876 5 from by rw [eU11]; exact Xi_ne (by omega)).trans ( (show Xi U2 876 5 = Xi U1 876 5 from by rw [eU2]; exact Xi_ne (by omega)).trans ((show Xi U1 876 5 = Xi S 876 5 from by rw [eU1]; exact Xi_ne (by omega))))
        have w166 : Xi U11 876 7 = Xi S 876 7 := (show Xi U11 876 7 = Xi U2 876 7 from by rw [eU11]; exact Xi_ne (by omega)).trans ( (show Xi U2 876 7 = Xi U1 876 7 from by rw [eU2]; exact Xi_ne (by omega)).trans ((show Xi U1 876 7 = Xi S 876 7 from by rw [eU1]; exact Xi_ne (by omega))))
        have w167 : Xi U11 876 8 = Xi S 876 8 := (show Xi U11 876 8 = Xi U2 876 8 from by rw [eU11]; exact Xi_ne (by omega)).trans ( (show Xi U2 876 8 = Xi U1 876 8 from by rw [eU2]; exact Xi_ne (by omega)).trans ((show Xi U1 876 8 = Xi S 876 8 from by rw [eU1]; exact Xi_ne (by omega))))
        have w168 : Xi U11 895 10 = Xi U2 895 10 := (show Xi U11 895 10 = Xi U2 895 10 from by rw [eU11]; exact Xi_ne (by omega))
        refine y_callV rfl rfl rfl (t_to_placeAt__p hHU11 row ⟨by omega, by omega⟩ _) ?_
        rintro _ _ ⟨rfl, z169, rfl, w169, q63⟩
        show Pl _ _ _ _ _ _ [iv z169, .ref 895] _ _
        have e63 : z169 = pc7 S row := by have t := q63; unfold pc7 at t ⊢; rw [(hFU11.cx 878 rfl _).1, hFU11.x 876 7 rfl, hFU11.x 876 5 rfl] at t; exact t
        clear q63
        have l63 := hpl.o row.toNat
        refine y_iconst rfl ?_
        refine y_iadd rfl ?_
        refine y_pfi rfl rfl rfl rfl ?_
        obtain ⟨U12, eU12⟩ : ∃ T : sS, T = uI U11 895 10 (Int32.ofInt (z169 + 1)) := ⟨_, rfl⟩
        rw [← eU12]
        have hHU12 : RI U12 := by rw [eU12]; exact RI_w hHU11
        have hFU12 : FR md_me_readWhat__p S U12 := by rw [eU12]; exact FR.wI hFU11 (mdf_i (r := (895, 896, 10, 11)) (List.mem_of_getElem? (i := 2) rfl) (inR_i (by omega) (by omega) (by omega) (by omega)))
        have w170 : Xi U12 895 10 = (z169 + 1) := by rw [eU12]; exact Xi_same (by unfold rg; omega)
        have K68 : True := trivial
        refine y_iconst rfl ?_
        refine y_ireturn rfl rfl ?_
        have w171 : Xi U12 876 5 = Xi S 876 5 := (show Xi U12 876 5 = Xi U11 876 5 from by rw [eU12]; exact Xi_ne (by omega)).trans ( (show Xi U11 876 5 = Xi U2 876 5 from by rw [eU11]; exact Xi_ne (by omega)).trans ( (show Xi U2 876 5 = Xi U1 876 5 from by rw [eU2]; exact Xi_ne (by omega)).trans ((show Xi U1 876 5 = Xi S 876 5 from by rw [eU1]; exact Xi_ne (by omega)))))
        have w172 : Xi U12 876 7 = Xi S 876 7 := (show Xi U12 876 7 = Xi U11 876 7 from by rw [eU12]; exact Xi_ne (by omega)).trans ( (show Xi U11 876 7 = Xi U2 876 7 from by rw [eU11]; exact Xi_ne (by omega)).trans ( (show Xi U2 876 7 = Xi U1 876 7 from by rw [eU2]; exact Xi_ne (by omega)).trans ((show Xi U1 876 7 = Xi S 876 7 from by rw [eU1]; exact Xi_ne (by omega)))))
        have w173 : Xi U12 876 8 = Xi S 876 8 := (show Xi U12 876 8 = Xi U11 876 8 from by rw [eU12]; exact Xi_ne (by omega)).trans ( (show Xi U11 876 8 = Xi U2 876 8 from by rw [eU11]; exact Xi_ne (by omega)).trans ( (show Xi U2 876 8 = Xi U1 876 8 from by rw [eU2]; exact Xi_ne (by omega)).trans ((show Xi U1 876 8 = Xi S 876 8 from by rw [eU1]; exact Xi_ne (by omega)))))
        have w174 : Xi U12 895 11 = Xi U11 895 11 := (show Xi U12 895 11 = Xi U11 895 11 from by rw [eU12]; exact Xi_ne (by omega))
        exact ⟨hHU12, hFU12, _, rfl, ⟨by omega, by omega⟩, (by first | (have t := K158; exact ⟨fun q => absurd q (by omega), fun _ => ⟨N152, fun q => Y158 q⟩⟩) | (have t := K147; exact ⟨fun _ => Or.inr (Or.inr ⟨by omega, by omega, by omega, m122, e140, by rw [hm104]; omega, by omega⟩), fun q => absurd q (by omega)⟩) | (have t := K68; exact ⟨fun _ => Or.inr (Or.inl ⟨by omega, by omega, by omega, by omega⟩), fun q => absurd q (by omega)⟩) | exact ⟨fun _ => Or.inl ⟨by omega, by omega, by omega, by omega⟩, fun q => absurd q (by omega)⟩), (by first | (intro hz; omega) | (intro _; exact Or.inl (by omega)) | (intro _; exact tx_mk (SRX_FR hFU12 rfl hS) (by omega) (by omega))), (by omega)⟩
  · refine y_iload_n rfl rfl ?_
    refine y_bipush rfl rfl ?_
    refine y_icmp_ne rfl rfl (by unfold rg; omega) (by unfold rg; omega) (fun w175 => ?_) (fun w176 => ?_)
    · refine y_iload_n rfl rfl ?_
      refine y_iconst rfl ?_
      refine y_icmp_ne rfl rfl (by unfold rg; omega) (by unfold rg; omega) (fun w177 => ?_) (fun w178 => ?_)
      · refine y_iload_n rfl rfl ?_
        refine y_bipush rfl rfl ?_
        refine y_icmp_ne rfl rfl (by unfold rg; omega) (by unfold rg; omega) (fun w179 => ?_) (fun w180 => ?_)
        · refine y_iconst rfl ?_
          refine y_istore rfl rfl rfl ?_
          refine y_iload rfl rfl ?_
          refine y_bipush rfl rfl ?_
          refine y_ishr8 rfl (by unfold rg; omega) ?_
          refine y_iconst rfl ?_
          refine y_icmp_ne rfl rfl (by unfold rg; omega) (by unfold rg; omega) (fun w182 => ?_) (fun w183 => ?_)
          · refine y_aload_n rfl rfl ?_
            have N152 : ∀ v l : Int, ¬ WHR S row type v l := whr_n (by omega) (by omega) (fun q => by obtain ⟨a, b, c⟩ := q; first | omega | (rw [hm104] at b; omega) | (rw [← e135] at c; omega))
            refine y_gfr rfl rfl rfl rfl rfl (hHU2.r 895 0 876 rfl) ?_
            refine y_iconst rfl ?_
            refine y_iload_n rfl rfl ?_
            have w184 : Xi U2 876 5 = Xi S 876 5 := (show Xi U2 876 5 = Xi U1 876 5 from by rw [eU2]; exact Xi_ne (by omega)).trans ((show Xi U1 876 5 = Xi S 876 5 from by rw [eU1]; exact Xi_ne (by omega)))
            have w185 : Xi U2 876 7 = Xi S 876 7 := (show Xi U2 876 7 = Xi U1 876 7 from by rw [eU2]; exact Xi_ne (by omega)).trans ((show Xi U1 876 7 = Xi S 876 7 from by rw [eU1]; exact Xi_ne (by omega)))
            have w186 : Xi U2 876 8 = Xi S 876 8 := (show Xi U2 876 8 = Xi U1 876 8 from by rw [eU2]; exact Xi_ne (by omega)).trans ((show Xi U1 876 8 = Xi S 876 8 from by rw [eU1]; exact Xi_ne (by omega)))
            have w187 : Xi U2 876 9 = Xi S 876 9 := (show Xi U2 876 9 = Xi U1 876 9 from by rw [eU2]; exact Xi_ne (by omega)).trans ((show Xi U1 876 9 = Xi S 876 9 from by rw [eU1]; exact Xi_ne (by omega)))
            have w188 : Xi U2 895 11 = Xi U1 895 11 := (show Xi U2 895 11 = Xi U1 895 11 from by rw [eU2]; exact Xi_ne (by omega))
            refine y_callV rfl rfl rfl (t_to_wrong__p hHU2 4 row ⟨by omega, by omega⟩ ⟨by omega, by omega⟩ _) ?_
            rintro _ T13 ⟨hHT13, w192, z191, rfl, w191, w189, f158, w190⟩
            have hFT13 : FR md_me_readWhat__p S T13 := FR.tr hFU2 w192 rfl
            show Pl _ _ _ _ _ _ [iv z191] _ _
            have K158 : True := trivial
            have Y158 : Xi S 876 8 = 0 → FTO S T13 4 row := fun q => by have t := f158 (by omega); unfold pc7 at t; rw [(hFU2.cx 878 rfl _).1, hFU2.x 876 7 rfl, hFU2.x 876 5 rfl] at t; exact t
            refine y_ireturn rfl (retI_z (by omega)) ?_
            have w193 : Xi T13 876 5 = Xi S 876 5 := (show Xi T13 876 5 = Xi U2 876 5 from w192.x _ _ rfl).trans ( (show Xi U2 876 5 = Xi U1 876 5 from by rw [eU2]; exact Xi_ne (by omega)).trans ((show Xi U1 876 5 = Xi S 876 5 from by rw [eU1]; exact Xi_ne (by omega))))
            have w194 : Xi T13 876 7 = Xi S 876 7 := (show Xi T13 876 7 = Xi U2 876 7 from w192.x _ _ rfl).trans ( (show Xi U2 876 7 = Xi U1 876 7 from by rw [eU2]; exact Xi_ne (by omega)).trans ((show Xi U1 876 7 = Xi S 876 7 from by rw [eU1]; exact Xi_ne (by omega))))
            have w195 : Xi T13 895 10 = Xi U2 895 10 := (show Xi T13 895 10 = Xi U2 895 10 from w192.x _ _ rfl)
            have w196 : Xi T13 895 11 = Xi U1 895 11 := (show Xi T13 895 11 = Xi U2 895 11 from w192.x _ _ rfl).trans ((show Xi U2 895 11 = Xi U1 895 11 from by rw [eU2]; exact Xi_ne (by omega)))
            exact ⟨hHT13, hFT13, _, rfl, ⟨by omega, by omega⟩, (by first | (have t := K158; exact ⟨fun q => absurd q (by omega), fun _ => ⟨N152, fun q => Y158 q⟩⟩) | (have t := K147; exact ⟨fun _ => Or.inr (Or.inr ⟨by omega, by omega, by omega, m122, e140, by rw [hm104]; omega, by omega⟩), fun q => absurd q (by omega)⟩) | (have t := K68; exact ⟨fun _ => Or.inr (Or.inl ⟨by omega, by omega, by omega, by omega⟩), fun q => absurd q (by omega)⟩) | exact ⟨fun _ => Or.inl ⟨by omega, by omega, by omega, by omega⟩, fun q => absurd q (by omega)⟩), (by first | (intro hz; omega) | (intro _; exact Or.inl (by omega)) | (intro _; exact tx_mk (SRX_FR hFT13 rfl hS) (by omega) (by omega))), (by omega)⟩
          · exfalso; omega
        · refine y_aload_n rfl rfl ?_
          refine y_gfr rfl rfl rfl rfl rfl (hHU2.r 895 1 1 rfl) ?_
          refine y_aload_n rfl rfl ?_
          refine y_gfr rfl rfl rfl rfl rfl (hHU2.r 895 0 876 rfl) ?_
          refine y_gfr rfl rfl rfl rfl rfl (hHU2.r 876 2 879 rfl) ?_
          refine y_iload_n rfl rfl ?_
          refine y_aload_n rfl rfl ?_
          refine y_gfr rfl rfl rfl rfl rfl (hHU2.r 895 0 876 rfl) ?_
          refine y_iload_n rfl rfl ?_
          refine y_iload_n rfl rfl ?_
          refine y_iconst rfl ?_
          refine y_iadd rfl ?_
          refine y_iconst rfl ?_
          refine y_iadd rfl ?_
          have w197 : Xi U2 876 5 = Xi S 876 5 := (show Xi U2 876 5 = Xi U1 876 5 from by rw [eU2]; exact Xi_ne (by omega)).trans ((show Xi U1 876 5 = Xi S 876 5 from by rw [eU1]; exact Xi_ne (by omega)))
          have w198 : Xi U2 876 7 = Xi S 876 7 := (show Xi U2 876 7 = Xi U1 876 7 from by rw [eU2]; exact Xi_ne (by omega)).trans ((show Xi U1 876 7 = Xi S 876 7 from by rw [eU1]; exact Xi_ne (by omega)))
          have w199 : Xi U2 876 8 = Xi S 876 8 := (show Xi U2 876 8 = Xi U1 876 8 from by rw [eU2]; exact Xi_ne (by omega)).trans ((show Xi U1 876 8 = Xi S 876 8 from by rw [eU1]; exact Xi_ne (by omega)))
          have w200 : Xi U2 895 11 = Xi U1 895 11 := (show Xi U2 895 11 = Xi U1 895 11 from by rw [eU2]; exact Xi_ne (by omega))
          refine y_callV rfl rfl rfl (t_to_runEndUpTo__p hHU2 row ((row + 3) + 1) ⟨by omega, by omega⟩ ⟨by omega, by omega⟩ _) ?_
          rintro _ _ ⟨rfl, z202, rfl, w202, v101, w201⟩
          show Pl _ _ _ _ _ _ [iv z202, iv row, .ref 879, .ref 1] _ _
          have e101 : z202 = ruF S row (row + 4) := by have t := v101; rw [ruF_FR hFU2 rfl] at t; rw [show row + 4 = row + 3 + 1 by omega]; exact t
          clear v101
          have w203 : Xi U2 1 3 = Xi S 1 3 := (show Xi U2 1 3 = Xi U1 1 3 from by rw [eU2]; exact Xi_ne (by omega)).trans ((show Xi U1 1 3 = Xi S 1 3 from by rw [eU1]; exact Xi_ne (by omega)))
          refine y_callV rfl rfl rfl (t_vo_meaning__p hHU2 879 5130 row z202 rfl ⟨by omega, by omega⟩ ⟨by omega, by omega⟩ ⟨by omega, by omega⟩ (by first | assumption | omega) (by first | assumption | exact (CEN_FR hFU2 rfl rfl (by assumption : CEN S))) _) ?_
          rintro _ _ ⟨rfl, z208, rfl, w208, f104, n104⟩
          show Pl _ _ _ _ _ _ [iv z208] _ _
          have hm104 : mnV S row (ruF S row (row + 4)) = z208 := by have t := mnV_of f104 n104; rw [mnV_eq (SMV_FR hFU2 rfl rfl), e101] at t; exact t
          clear f104 n104
          have g104 : Hid (_ ∨ _) := mn_rg (a := row) (b := ruF S row (row + 4)) hCE
          refine y_goto rfl rfl ?_
          refine y_istore rfl rfl rfl ?_
          refine y_iload rfl rfl ?_
          refine y_bipush rfl rfl ?_
          refine y_ishr8 rfl (by unfold rg; omega) ?_
          refine y_iconst rfl ?_
          refine y_icmp_ne rfl rfl (by unfold rg; omega) (by unfold rg; omega) (fun w210 => ?_) (fun w211 => ?_)
          · refine y_aload_n rfl rfl ?_
            have N152 : ∀ v l : Int, ¬ WHR S row type v l := whr_n (by omega) (by omega) (fun q => by obtain ⟨a, b, c⟩ := q; first | omega | (rw [hm104] at b; omega) | (rw [← e135] at c; omega))
            refine y_gfr rfl rfl rfl rfl rfl (hHU2.r 895 0 876 rfl) ?_
            refine y_iconst rfl ?_
            refine y_iload_n rfl rfl ?_
            have w215 : Xi U2 876 9 = Xi S 876 9 := (show Xi U2 876 9 = Xi U1 876 9 from by rw [eU2]; exact Xi_ne (by omega)).trans ((show Xi U1 876 9 = Xi S 876 9 from by rw [eU1]; exact Xi_ne (by omega)))
            refine y_callV rfl rfl rfl (t_to_wrong__p hHU2 4 row ⟨by omega, by omega⟩ ⟨by omega, by omega⟩ _) ?_
            rintro _ T14 ⟨hHT14, w220, z219, rfl, w219, w217, f158, w218⟩
            have hFT14 : FR md_me_readWhat__p S T14 := FR.tr hFU2 w220 rfl
            show Pl _ _ _ _ _ _ [iv z219] _ _
            have K158 : True := trivial
            have Y158 : Xi S 876 8 = 0 → FTO S T14 4 row := fun q => by have t := f158 (by omega); unfold pc7 at t; rw [(hFU2.cx 878 rfl _).1, hFU2.x 876 7 rfl, hFU2.x 876 5 rfl] at t; exact t
            refine y_ireturn rfl (retI_z (by omega)) ?_
            have w221 : Xi T14 876 5 = Xi S 876 5 := (show Xi T14 876 5 = Xi U2 876 5 from w220.x _ _ rfl).trans ( (show Xi U2 876 5 = Xi U1 876 5 from by rw [eU2]; exact Xi_ne (by omega)).trans ((show Xi U1 876 5 = Xi S 876 5 from by rw [eU1]; exact Xi_ne (by omega))))
            have w222 : Xi T14 876 7 = Xi S 876 7 := (show Xi T14 876 7 = Xi U2 876 7 from w220.x _ _ rfl).trans ( (show Xi U2 876 7 = Xi U1 876 7 from by rw [eU2]; exact Xi_ne (by omega)).trans ((show Xi U1 876 7 = Xi S 876 7 from by rw [eU1]; exact Xi_ne (by omega))))
            have w223 : Xi T14 895 10 = Xi U2 895 10 := (show Xi T14 895 10 = Xi U2 895 10 from w220.x _ _ rfl)
            have w224 : Xi T14 895 11 = Xi U1 895 11 := (show Xi T14 895 11 = Xi U2 895 11 from w220.x _ _ rfl).trans ((show Xi U2 895 11 = Xi U1 895 11 from by rw [eU2]; exact Xi_ne (by omega)))
            exact ⟨hHT14, hFT14, _, rfl, ⟨by omega, by omega⟩, (by first | (have t := K158; exact ⟨fun q => absurd q (by omega), fun _ => ⟨N152, fun q => Y158 q⟩⟩) | (have t := K147; exact ⟨fun _ => Or.inr (Or.inr ⟨by omega, by omega, by omega, m122, e140, by rw [hm104]; omega, by omega⟩), fun q => absurd q (by omega)⟩) | (have t := K68; exact ⟨fun _ => Or.inr (Or.inl ⟨by omega, by omega, by omega, by omega⟩), fun q => absurd q (by omega)⟩) | exact ⟨fun _ => Or.inl ⟨by omega, by omega, by omega, by omega⟩, fun q => absurd q (by omega)⟩), (by first | (intro hz; omega) | (intro _; exact Or.inl (by omega)) | (intro _; exact tx_mk (SRX_FR hFT14 rfl hS) (by omega) (by omega))), (by omega)⟩
          · refine y_aload_n rfl rfl ?_
            have m122 : mnV S row (ruF S row (row + 4)) / 256 = 4 := by rw [hm104]; omega
            have b122 : 0 ≤ mnV S row (ruF S row (row + 4)) % 256 ∧ mnV S row (ruF S row (row + 4)) % 256 ≤ 63 := by have t := g104.o; rcases t with q | q; (exfalso; omega); omega
            refine y_gfr rfl rfl rfl rfl rfl (hHU2.r 895 1 1 rfl) ?_
            refine y_gfr rfl rfl rfl rfl rfl (hHU2.r 1 7 8 rfl) ?_
            refine y_iload rfl rfl ?_
            refine y_sipush rfl rfl ?_
            refine y_iand255 rfl (by unfold rg; omega) ?_
            refine y_ialoadP (n := 64) rfl rfl (by unfold rg; omega) (fun w226 w227 => ?_)
            have w228 : -2147483648 ≤ (Xi U2 8 (((z208 % 256)).toNat)) ∧ (Xi U2 8 (((z208 % 256)).toNat)) ≤ 2147483647 := Xi_rgI
            have e135 : (Xi U2 8 (((z208 % 256)).toNat)) = Xi S 8 (mnV S row (ruF S row (row + 4)) % 256).toNat := by rw [hm104]; exact (hFU2.cx 8 rfl _).1
            refine y_iload_n rfl rfl ?_
            refine y_icmp_ne rfl rfl (by unfold rg; omega) (by unfold rg; omega) (fun w229 => ?_) (fun w230 => ?_)
            · refine y_aload_n rfl rfl ?_
              have N152 : ∀ v l : Int, ¬ WHR S row type v l := whr_n (by omega) (by omega) (fun q => by obtain ⟨a, b, c⟩ := q; first | omega | (rw [hm104] at b; omega) | (rw [← e135] at c; omega))
              refine y_gfr rfl rfl rfl rfl rfl (hHU2.r 895 0 876 rfl) ?_
              refine y_iconst rfl ?_
              refine y_iload_n rfl rfl ?_
              have w234 : Xi U2 876 9 = Xi S 876 9 := (show Xi U2 876 9 = Xi U1 876 9 from by rw [eU2]; exact Xi_ne (by omega)).trans ((show Xi U1 876 9 = Xi S 876 9 from by rw [eU1]; exact Xi_ne (by omega)))
              refine y_callV rfl rfl rfl (t_to_wrong__p hHU2 4 row ⟨by omega, by omega⟩ ⟨by omega, by omega⟩ _) ?_
              rintro _ T15 ⟨hHT15, w239, z238, rfl, w238, w236, f158, w237⟩
              have hFT15 : FR md_me_readWhat__p S T15 := FR.tr hFU2 w239 rfl
              show Pl _ _ _ _ _ _ [iv z238] _ _
              have K158 : True := trivial
              have Y158 : Xi S 876 8 = 0 → FTO S T15 4 row := fun q => by have t := f158 (by omega); unfold pc7 at t; rw [(hFU2.cx 878 rfl _).1, hFU2.x 876 7 rfl, hFU2.x 876 5 rfl] at t; exact t
              refine y_ireturn rfl (retI_z (by omega)) ?_
              have w240 : Xi T15 876 5 = Xi S 876 5 := (show Xi T15 876 5 = Xi U2 876 5 from w239.x _ _ rfl).trans ( (show Xi U2 876 5 = Xi U1 876 5 from by rw [eU2]; exact Xi_ne (by omega)).trans ((show Xi U1 876 5 = Xi S 876 5 from by rw [eU1]; exact Xi_ne (by omega))))
              have w241 : Xi T15 876 7 = Xi S 876 7 := (show Xi T15 876 7 = Xi U2 876 7 from w239.x _ _ rfl).trans ( (show Xi U2 876 7 = Xi U1 876 7 from by rw [eU2]; exact Xi_ne (by omega)).trans ((show Xi U1 876 7 = Xi S 876 7 from by rw [eU1]; exact Xi_ne (by omega))))
              have w242 : Xi T15 895 10 = Xi U2 895 10 := (show Xi T15 895 10 = Xi U2 895 10 from w239.x _ _ rfl)
              have w243 : Xi T15 895 11 = Xi U1 895 11 := (show Xi T15 895 11 = Xi U2 895 11 from w239.x _ _ rfl).trans ((show Xi U2 895 11 = Xi U1 895 11 from by rw [eU2]; exact Xi_ne (by omega)))
              exact ⟨hHT15, hFT15, _, rfl, ⟨by omega, by omega⟩, (by first | (have t := K158; exact ⟨fun q => absurd q (by omega), fun _ => ⟨N152, fun q => Y158 q⟩⟩) | (have t := K147; exact ⟨fun _ => Or.inr (Or.inr ⟨by omega, by omega, by omega, m122, e140, by rw [hm104]; omega, by omega⟩), fun q => absurd q (by omega)⟩) | (have t := K68; exact ⟨fun _ => Or.inr (Or.inl ⟨by omega, by omega, by omega, by omega⟩), fun q => absurd q (by omega)⟩) | exact ⟨fun _ => Or.inl ⟨by omega, by omega, by omega, by omega⟩, fun q => absurd q (by omega)⟩), (by first | (intro hz; omega) | (intro _; exact Or.inl (by omega)) | (intro _; exact tx_mk (SRX_FR hFT15 rfl hS) (by omega) (by omega))), (by omega)⟩
            · refine y_aload_n rfl rfl ?_
              have e140 : Xi S 8 (mnV S row (ruF S row (row + 4)) % 256).toNat = type := by omega
              refine y_iload rfl rfl ?_
              refine y_sipush rfl rfl ?_
              refine y_iand255 rfl (by unfold rg; omega) ?_
              refine y_pfi rfl rfl rfl rfl ?_
              obtain ⟨U16, eU16⟩ : ∃ T : sS, T = uI U2 895 10 (Int32.ofInt (z208 % 256)) := ⟨_, rfl⟩
              rw [← eU16]
              have hHU16 : RI U16 := by rw [eU16]; exact RI_w hHU2
              have hFU16 : FR md_me_readWhat__p S U16 := by rw [eU16]; exact FR.wI hFU2 (mdf_i (r := (895, 896, 10, 11)) (List.mem_of_getElem? (i := 2) rfl) (inR_i (by omega) (by omega) (by omega) (by omega)))
              have w245 : Xi U16 895 10 = (z208 % 256) := by rw [eU16]; exact Xi_same (by unfold rg; omega)
              have K147 : True := trivial
              refine y_iconst rfl ?_
              refine y_ireturn rfl rfl ?_
              have w246 : Xi U16 876 5 = Xi S 876 5 := (show Xi U16 876 5 = Xi U2 876 5 from by rw [eU16]; exact Xi_ne (by omega)).trans ( (show Xi U2 876 5 = Xi U1 876 5 from by rw [eU2]; exact Xi_ne (by omega)).trans ((show Xi U1 876 5 = Xi S 876 5 from by rw [eU1]; exact Xi_ne (by omega))))
              have w247 : Xi U16 876 7 = Xi S 876 7 := (show Xi U16 876 7 = Xi U2 876 7 from by rw [eU16]; exact Xi_ne (by omega)).trans ( (show Xi U2 876 7 = Xi U1 876 7 from by rw [eU2]; exact Xi_ne (by omega)).trans ((show Xi U1 876 7 = Xi S 876 7 from by rw [eU1]; exact Xi_ne (by omega))))
              have w248 : Xi U16 876 8 = Xi S 876 8 := (show Xi U16 876 8 = Xi U2 876 8 from by rw [eU16]; exact Xi_ne (by omega)).trans ( (show Xi U2 876 8 = Xi U1 876 8 from by rw [eU2]; exact Xi_ne (by omega)).trans ((show Xi U1 876 8 = Xi S 876 8 from by rw [eU1]; exact Xi_ne (by omega))))
              have w249 : Xi U16 895 11 = Xi U1 895 11 := (show Xi U16 895 11 = Xi U2 895 11 from by rw [eU16]; exact Xi_ne (by omega)).trans ((show Xi U2 895 11 = Xi U1 895 11 from by rw [eU2]; exact Xi_ne (by omega)))
              exact ⟨hHU16, hFU16, _, rfl, ⟨by omega, by omega⟩, (by first | (have t := K158; exact ⟨fun q => absurd q (by omega), fun _ => ⟨N152, fun q => Y158 q⟩⟩) | (have t := K147; exact ⟨fun _ => Or.inr (Or.inr ⟨by omega, by omega, by omega, m122, e140, by rw [hm104]; omega, by omega⟩), fun q => absurd q (by omega)⟩) | (have t := K68; exact ⟨fun _ => Or.inr (Or.inl ⟨by omega, by omega, by omega, by omega⟩), fun q => absurd q (by omega)⟩) | exact ⟨fun _ => Or.inl ⟨by omega, by omega, by omega, by omega⟩, fun q => absurd q (by omega)⟩), (by first | (intro hz; omega) | (intro _; exact Or.inl (by omega)) | (intro _; exact tx_mk (SRX_FR hFU16 rfl hS) (by omega) (by omega))), (by omega)⟩
      · refine y_iload_n rfl rfl ?_
        refine y_bipush rfl rfl ?_
        refine y_icmp_ne rfl rfl (by unfold rg; omega) (by unfold rg; omega) (fun w250 => ?_) (fun w251 => ?_)
        · refine y_iload_n rfl rfl ?_
          refine y_bipush rfl rfl ?_
          refine y_icmp_ne rfl rfl (by unfold rg; omega) (by unfold rg; omega) (fun w252 => ?_) (fun w253 => ?_)
          · refine y_iconst rfl ?_
            refine y_istore rfl rfl rfl ?_
            refine y_iload rfl rfl ?_
            refine y_bipush rfl rfl ?_
            refine y_ishr8 rfl (by unfold rg; omega) ?_
            refine y_iconst rfl ?_
            refine y_icmp_ne rfl rfl (by unfold rg; omega) (by unfold rg; omega) (fun w255 => ?_) (fun w256 => ?_)
            · refine y_aload_n rfl rfl ?_
              have N152 : ∀ v l : Int, ¬ WHR S row type v l := whr_n (by omega) (by omega) (fun q => by obtain ⟨a, b, c⟩ := q; first | omega | (rw [hm104] at b; omega) | (rw [← e135] at c; omega))
              refine y_gfr rfl rfl rfl rfl rfl (hHU2.r 895 0 876 rfl) ?_
              refine y_iconst rfl ?_
              refine y_iload_n rfl rfl ?_
              have w257 : Xi U2 876 5 = Xi S 876 5 := (show Xi U2 876 5 = Xi U1 876 5 from by rw [eU2]; exact Xi_ne (by omega)).trans ((show Xi U1 876 5 = Xi S 876 5 from by rw [eU1]; exact Xi_ne (by omega)))
              have w258 : Xi U2 876 7 = Xi S 876 7 := (show Xi U2 876 7 = Xi U1 876 7 from by rw [eU2]; exact Xi_ne (by omega)).trans ((show Xi U1 876 7 = Xi S 876 7 from by rw [eU1]; exact Xi_ne (by omega)))
              have w259 : Xi U2 876 8 = Xi S 876 8 := (show Xi U2 876 8 = Xi U1 876 8 from by rw [eU2]; exact Xi_ne (by omega)).trans ((show Xi U1 876 8 = Xi S 876 8 from by rw [eU1]; exact Xi_ne (by omega)))
              have w260 : Xi U2 876 9 = Xi S 876 9 := (show Xi U2 876 9 = Xi U1 876 9 from by rw [eU2]; exact Xi_ne (by omega)).trans ((show Xi U1 876 9 = Xi S 876 9 from by rw [eU1]; exact Xi_ne (by omega)))
              have w261 : Xi U2 895 11 = Xi U1 895 11 := (show Xi U2 895 11 = Xi U1 895 11 from by rw [eU2]; exact Xi_ne (by omega))
              refine y_callV rfl rfl rfl (t_to_wrong__p hHU2 4 row ⟨by omega, by omega⟩ ⟨by omega, by omega⟩ _) ?_
              rintro _ T17 ⟨hHT17, w265, z264, rfl, w264, w262, f158, w263⟩
              have hFT17 : FR md_me_readWhat__p S T17 := FR.tr hFU2 w265 rfl
              show Pl _ _ _ _ _ _ [iv z264] _ _
              have K158 : True := trivial
              have Y158 : Xi S 876 8 = 0 → FTO S T17 4 row := fun q => by have t := f158 (by omega); unfold pc7 at t; rw [(hFU2.cx 878 rfl _).1, hFU2.x 876 7 rfl, hFU2.x 876 5 rfl] at t; exact t
              refine y_ireturn rfl (retI_z (by omega)) ?_
              have w266 : Xi T17 876 5 = Xi S 876 5 := (show Xi T17 876 5 = Xi U2 876 5 from w265.x _ _ rfl).trans ( (show Xi U2 876 5 = Xi U1 876 5 from by rw [eU2]; exact Xi_ne (by omega)).trans ((show Xi U1 876 5 = Xi S 876 5 from by rw [eU1]; exact Xi_ne (by omega))))
              have w267 : Xi T17 876 7 = Xi S 876 7 := (show Xi T17 876 7 = Xi U2 876 7 from w265.x _ _ rfl).trans ( (show Xi U2 876 7 = Xi U1 876 7 from by rw [eU2]; exact Xi_ne (by omega)).trans ((show Xi U1 876 7 = Xi S 876 7 from by rw [eU1]; exact Xi_ne (by omega))))
              have w268 : Xi T17 895 10 = Xi U2 895 10 := (show Xi T17 895 10 = Xi U2 895 10 from w265.x _ _ rfl)
              have w269 : Xi T17 895 11 = Xi U1 895 11 := (show Xi T17 895 11 = Xi U2 895 11 from w265.x _ _ rfl).trans ((show Xi U2 895 11 = Xi U1 895 11 from by rw [eU2]; exact Xi_ne (by omega)))
              exact ⟨hHT17, hFT17, _, rfl, ⟨by omega, by omega⟩, (by first | (have t := K158; exact ⟨fun q => absurd q (by omega), fun _ => ⟨N152, fun q => Y158 q⟩⟩) | (have t := K147; exact ⟨fun _ => Or.inr (Or.inr ⟨by omega, by omega, by omega, m122, e140, by rw [hm104]; omega, by omega⟩), fun q => absurd q (by omega)⟩) | (have t := K68; exact ⟨fun _ => Or.inr (Or.inl ⟨by omega, by omega, by omega, by omega⟩), fun q => absurd q (by omega)⟩) | exact ⟨fun _ => Or.inl ⟨by omega, by omega, by omega, by omega⟩, fun q => absurd q (by omega)⟩), (by first | (intro hz; omega) | (intro _; exact Or.inl (by omega)) | (intro _; exact tx_mk (SRX_FR hFT17 rfl hS) (by omega) (by omega))), (by omega)⟩
            · exfalso; omega
          · refine y_aload_n rfl rfl ?_
            refine y_gfr rfl rfl rfl rfl rfl (hHU2.r 895 1 1 rfl) ?_
            refine y_aload_n rfl rfl ?_
            refine y_gfr rfl rfl rfl rfl rfl (hHU2.r 895 0 876 rfl) ?_
            refine y_gfr rfl rfl rfl rfl rfl (hHU2.r 876 2 879 rfl) ?_
            refine y_iload_n rfl rfl ?_
            refine y_aload_n rfl rfl ?_
            refine y_gfr rfl rfl rfl rfl rfl (hHU2.r 895 0 876 rfl) ?_
            refine y_iload_n rfl rfl ?_
            refine y_iload_n rfl rfl ?_
            refine y_iconst rfl ?_
            refine y_iadd rfl ?_
            refine y_iconst rfl ?_
            refine y_iadd rfl ?_
            have w270 : Xi U2 876 5 = Xi S 876 5 := (show Xi U2 876 5 = Xi U1 876 5 from by rw [eU2]; exact Xi_ne (by omega)).trans ((show Xi U1 876 5 = Xi S 876 5 from by rw [eU1]; exact Xi_ne (by omega)))
            have w271 : Xi U2 876 7 = Xi S 876 7 := (show Xi U2 876 7 = Xi U1 876 7 from by rw [eU2]; exact Xi_ne (by omega)).trans ((show Xi U1 876 7 = Xi S 876 7 from by rw [eU1]; exact Xi_ne (by omega)))
            have w272 : Xi U2 876 8 = Xi S 876 8 := (show Xi U2 876 8 = Xi U1 876 8 from by rw [eU2]; exact Xi_ne (by omega)).trans ((show Xi U1 876 8 = Xi S 876 8 from by rw [eU1]; exact Xi_ne (by omega)))
            have w273 : Xi U2 895 11 = Xi U1 895 11 := (show Xi U2 895 11 = Xi U1 895 11 from by rw [eU2]; exact Xi_ne (by omega))
            refine y_callV rfl rfl rfl (t_to_runEndUpTo__p hHU2 row ((row + 3) + 1) ⟨by omega, by omega⟩ ⟨by omega, by omega⟩ _) ?_
            rintro _ _ ⟨rfl, z275, rfl, w275, v101, w274⟩
            show Pl _ _ _ _ _ _ [iv z275, iv row, .ref 879, .ref 1] _ _
            have e101 : z275 = ruF S row (row + 4) := by have t := v101; rw [ruF_FR hFU2 rfl] at t; rw [show row + 4 = row + 3 + 1 by omega]; exact t
            clear v101
            have w276 : Xi U2 1 3 = Xi S 1 3 := (show Xi U2 1 3 = Xi U1 1 3 from by rw [eU2]; exact Xi_ne (by omega)).trans ((show Xi U1 1 3 = Xi S 1 3 from by rw [eU1]; exact Xi_ne (by omega)))
            refine y_callV rfl rfl rfl (t_vo_meaning__p hHU2 879 5130 row z275 rfl ⟨by omega, by omega⟩ ⟨by omega, by omega⟩ ⟨by omega, by omega⟩ (by first | assumption | omega) (by first | assumption | exact (CEN_FR hFU2 rfl rfl (by assumption : CEN S))) _) ?_
            rintro _ _ ⟨rfl, z281, rfl, w281, f104, n104⟩
            show Pl _ _ _ _ _ _ [iv z281] _ _
            have hm104 : mnV S row (ruF S row (row + 4)) = z281 := by have t := mnV_of f104 n104; rw [mnV_eq (SMV_FR hFU2 rfl rfl), e101] at t; exact t
            clear f104 n104
            have g104 : Hid (_ ∨ _) := mn_rg (a := row) (b := ruF S row (row + 4)) hCE
            refine y_goto rfl rfl ?_
            refine y_istore rfl rfl rfl ?_
            refine y_iload rfl rfl ?_
            refine y_bipush rfl rfl ?_
            refine y_ishr8 rfl (by unfold rg; omega) ?_
            refine y_iconst rfl ?_
            refine y_icmp_ne rfl rfl (by unfold rg; omega) (by unfold rg; omega) (fun w283 => ?_) (fun w284 => ?_)
            · refine y_aload_n rfl rfl ?_
              have N152 : ∀ v l : Int, ¬ WHR S row type v l := whr_n (by omega) (by omega) (fun q => by obtain ⟨a, b, c⟩ := q; first | omega | (rw [hm104] at b; omega) | (rw [← e135] at c; omega))
              refine y_gfr rfl rfl rfl rfl rfl (hHU2.r 895 0 876 rfl) ?_
              refine y_iconst rfl ?_
              refine y_iload_n rfl rfl ?_
              have w288 : Xi U2 876 9 = Xi S 876 9 := (show Xi U2 876 9 = Xi U1 876 9 from by rw [eU2]; exact Xi_ne (by omega)).trans ((show Xi U1 876 9 = Xi S 876 9 from by rw [eU1]; exact Xi_ne (by omega)))
              refine y_callV rfl rfl rfl (t_to_wrong__p hHU2 4 row ⟨by omega, by omega⟩ ⟨by omega, by omega⟩ _) ?_
              rintro _ T18 ⟨hHT18, w293, z292, rfl, w292, w290, f158, w291⟩
              have hFT18 : FR md_me_readWhat__p S T18 := FR.tr hFU2 w293 rfl
              show Pl _ _ _ _ _ _ [iv z292] _ _
              have K158 : True := trivial
              have Y158 : Xi S 876 8 = 0 → FTO S T18 4 row := fun q => by have t := f158 (by omega); unfold pc7 at t; rw [(hFU2.cx 878 rfl _).1, hFU2.x 876 7 rfl, hFU2.x 876 5 rfl] at t; exact t
              refine y_ireturn rfl (retI_z (by omega)) ?_
              have w294 : Xi T18 876 5 = Xi S 876 5 := (show Xi T18 876 5 = Xi U2 876 5 from w293.x _ _ rfl).trans ( (show Xi U2 876 5 = Xi U1 876 5 from by rw [eU2]; exact Xi_ne (by omega)).trans ((show Xi U1 876 5 = Xi S 876 5 from by rw [eU1]; exact Xi_ne (by omega))))
              have w295 : Xi T18 876 7 = Xi S 876 7 := (show Xi T18 876 7 = Xi U2 876 7 from w293.x _ _ rfl).trans ( (show Xi U2 876 7 = Xi U1 876 7 from by rw [eU2]; exact Xi_ne (by omega)).trans ((show Xi U1 876 7 = Xi S 876 7 from by rw [eU1]; exact Xi_ne (by omega))))
              have w296 : Xi T18 895 10 = Xi U2 895 10 := (show Xi T18 895 10 = Xi U2 895 10 from w293.x _ _ rfl)
              have w297 : Xi T18 895 11 = Xi U1 895 11 := (show Xi T18 895 11 = Xi U2 895 11 from w293.x _ _ rfl).trans ((show Xi U2 895 11 = Xi U1 895 11 from by rw [eU2]; exact Xi_ne (by omega)))
              exact ⟨hHT18, hFT18, _, rfl, ⟨by omega, by omega⟩, (by first | (have t := K158; exact ⟨fun q => absurd q (by omega), fun _ => ⟨N152, fun q => Y158 q⟩⟩) | (have t := K147; exact ⟨fun _ => Or.inr (Or.inr ⟨by omega, by omega, by omega, m122, e140, by rw [hm104]; omega, by omega⟩), fun q => absurd q (by omega)⟩) | (have t := K68; exact ⟨fun _ => Or.inr (Or.inl ⟨by omega, by omega, by omega, by omega⟩), fun q => absurd q (by omega)⟩) | exact ⟨fun _ => Or.inl ⟨by omega, by omega, by omega, by omega⟩, fun q => absurd q (by omega)⟩), (by first | (intro hz; omega) | (intro _; exact Or.inl (by omega)) | (intro _; exact tx_mk (SRX_FR hFT18 rfl hS) (by omega) (by omega))), (by omega)⟩
            · refine y_aload_n rfl rfl ?_
              have m122 : mnV S row (ruF S row (row + 4)) / 256 = 4 := by rw [hm104]; omega
              have b122 : 0 ≤ mnV S row (ruF S row (row + 4)) % 256 ∧ mnV S row (ruF S row (row + 4)) % 256 ≤ 63 := by have t := g104.o; rcases t with q | q; (exfalso; omega); omega
              refine y_gfr rfl rfl rfl rfl rfl (hHU2.r 895 1 1 rfl) ?_
              refine y_gfr rfl rfl rfl rfl rfl (hHU2.r 1 7 8 rfl) ?_
              refine y_iload rfl rfl ?_
              refine y_sipush rfl rfl ?_
              refine y_iand255 rfl (by unfold rg; omega) ?_
              refine y_ialoadP (n := 64) rfl rfl (by unfold rg; omega) (fun w299 w300 => ?_)
              have w301 : -2147483648 ≤ (Xi U2 8 (((z281 % 256)).toNat)) ∧ (Xi U2 8 (((z281 % 256)).toNat)) ≤ 2147483647 := Xi_rgI
              have e135 : (Xi U2 8 (((z281 % 256)).toNat)) = Xi S 8 (mnV S row (ruF S row (row + 4)) % 256).toNat := by rw [hm104]; exact (hFU2.cx 8 rfl _).1
              refine y_iload_n rfl rfl ?_
              refine y_icmp_ne rfl rfl (by unfold rg; omega) (by unfold rg; omega) (fun w302 => ?_) (fun w303 => ?_)
              · refine y_aload_n rfl rfl ?_
                have N152 : ∀ v l : Int, ¬ WHR S row type v l := whr_n (by omega) (by omega) (fun q => by obtain ⟨a, b, c⟩ := q; first | omega | (rw [hm104] at b; omega) | (rw [← e135] at c; omega))
                refine y_gfr rfl rfl rfl rfl rfl (hHU2.r 895 0 876 rfl) ?_
                refine y_iconst rfl ?_
                refine y_iload_n rfl rfl ?_
                have w307 : Xi U2 876 9 = Xi S 876 9 := (show Xi U2 876 9 = Xi U1 876 9 from by rw [eU2]; exact Xi_ne (by omega)).trans ((show Xi U1 876 9 = Xi S 876 9 from by rw [eU1]; exact Xi_ne (by omega)))
                refine y_callV rfl rfl rfl (t_to_wrong__p hHU2 4 row ⟨by omega, by omega⟩ ⟨by omega, by omega⟩ _) ?_
                rintro _ T19 ⟨hHT19, w312, z311, rfl, w311, w309, f158, w310⟩
                have hFT19 : FR md_me_readWhat__p S T19 := FR.tr hFU2 w312 rfl
                show Pl _ _ _ _ _ _ [iv z311] _ _
                have K158 : True := trivial
                have Y158 : Xi S 876 8 = 0 → FTO S T19 4 row := fun q => by have t := f158 (by omega); unfold pc7 at t; rw [(hFU2.cx 878 rfl _).1, hFU2.x 876 7 rfl, hFU2.x 876 5 rfl] at t; exact t
                refine y_ireturn rfl (retI_z (by omega)) ?_
                have w313 : Xi T19 876 5 = Xi S 876 5 := (show Xi T19 876 5 = Xi U2 876 5 from w312.x _ _ rfl).trans ( (show Xi U2 876 5 = Xi U1 876 5 from by rw [eU2]; exact Xi_ne (by omega)).trans ((show Xi U1 876 5 = Xi S 876 5 from by rw [eU1]; exact Xi_ne (by omega))))
                have w314 : Xi T19 876 7 = Xi S 876 7 := (show Xi T19 876 7 = Xi U2 876 7 from w312.x _ _ rfl).trans ( (show Xi U2 876 7 = Xi U1 876 7 from by rw [eU2]; exact Xi_ne (by omega)).trans ((show Xi U1 876 7 = Xi S 876 7 from by rw [eU1]; exact Xi_ne (by omega))))
                have w315 : Xi T19 895 10 = Xi U2 895 10 := (show Xi T19 895 10 = Xi U2 895 10 from w312.x _ _ rfl)
                have w316 : Xi T19 895 11 = Xi U1 895 11 := (show Xi T19 895 11 = Xi U2 895 11 from w312.x _ _ rfl).trans ((show Xi U2 895 11 = Xi U1 895 11 from by rw [eU2]; exact Xi_ne (by omega)))
                exact ⟨hHT19, hFT19, _, rfl, ⟨by omega, by omega⟩, (by first | (have t := K158; exact ⟨fun q => absurd q (by omega), fun _ => ⟨N152, fun q => Y158 q⟩⟩) | (have t := K147; exact ⟨fun _ => Or.inr (Or.inr ⟨by omega, by omega, by omega, m122, e140, by rw [hm104]; omega, by omega⟩), fun q => absurd q (by omega)⟩) | (have t := K68; exact ⟨fun _ => Or.inr (Or.inl ⟨by omega, by omega, by omega, by omega⟩), fun q => absurd q (by omega)⟩) | exact ⟨fun _ => Or.inl ⟨by omega, by omega, by omega, by omega⟩, fun q => absurd q (by omega)⟩), (by first | (intro hz; omega) | (intro _; exact Or.inl (by omega)) | (intro _; exact tx_mk (SRX_FR hFT19 rfl hS) (by omega) (by omega))), (by omega)⟩
              · refine y_aload_n rfl rfl ?_
                have e140 : Xi S 8 (mnV S row (ruF S row (row + 4)) % 256).toNat = type := by omega
                refine y_iload rfl rfl ?_
                refine y_sipush rfl rfl ?_
                refine y_iand255 rfl (by unfold rg; omega) ?_
                refine y_pfi rfl rfl rfl rfl ?_
                obtain ⟨U20, eU20⟩ : ∃ T : sS, T = uI U2 895 10 (Int32.ofInt (z281 % 256)) := ⟨_, rfl⟩
                rw [← eU20]
                have hHU20 : RI U20 := by rw [eU20]; exact RI_w hHU2
                have hFU20 : FR md_me_readWhat__p S U20 := by rw [eU20]; exact FR.wI hFU2 (mdf_i (r := (895, 896, 10, 11)) (List.mem_of_getElem? (i := 2) rfl) (inR_i (by omega) (by omega) (by omega) (by omega)))
                have w318 : Xi U20 895 10 = (z281 % 256) := by rw [eU20]; exact Xi_same (by unfold rg; omega)
                have K147 : True := trivial
                refine y_iconst rfl ?_
                refine y_ireturn rfl rfl ?_
                have w319 : Xi U20 876 5 = Xi S 876 5 := (show Xi U20 876 5 = Xi U2 876 5 from by rw [eU20]; exact Xi_ne (by omega)).trans ( (show Xi U2 876 5 = Xi U1 876 5 from by rw [eU2]; exact Xi_ne (by omega)).trans ((show Xi U1 876 5 = Xi S 876 5 from by rw [eU1]; exact Xi_ne (by omega))))
                have w320 : Xi U20 876 7 = Xi S 876 7 := (show Xi U20 876 7 = Xi U2 876 7 from by rw [eU20]; exact Xi_ne (by omega)).trans ( (show Xi U2 876 7 = Xi U1 876 7 from by rw [eU2]; exact Xi_ne (by omega)).trans ((show Xi U1 876 7 = Xi S 876 7 from by rw [eU1]; exact Xi_ne (by omega))))
                have w321 : Xi U20 876 8 = Xi S 876 8 := (show Xi U20 876 8 = Xi U2 876 8 from by rw [eU20]; exact Xi_ne (by omega)).trans ( (show Xi U2 876 8 = Xi U1 876 8 from by rw [eU2]; exact Xi_ne (by omega)).trans ((show Xi U1 876 8 = Xi S 876 8 from by rw [eU1]; exact Xi_ne (by omega))))
                have w322 : Xi U20 895 11 = Xi U1 895 11 := (show Xi U20 895 11 = Xi U2 895 11 from by rw [eU20]; exact Xi_ne (by omega)).trans ((show Xi U2 895 11 = Xi U1 895 11 from by rw [eU2]; exact Xi_ne (by omega)))
                exact ⟨hHU20, hFU20, _, rfl, ⟨by omega, by omega⟩, (by first | (have t := K158; exact ⟨fun q => absurd q (by omega), fun _ => ⟨N152, fun q => Y158 q⟩⟩) | (have t := K147; exact ⟨fun _ => Or.inr (Or.inr ⟨by omega, by omega, by omega, m122, e140, by rw [hm104]; omega, by omega⟩), fun q => absurd q (by omega)⟩) | (have t := K68; exact ⟨fun _ => Or.inr (Or.inl ⟨by omega, by omega, by omega, by omega⟩), fun q => absurd q (by omega)⟩) | exact ⟨fun _ => Or.inl ⟨by omega, by omega, by omega, by omega⟩, fun q => absurd q (by omega)⟩), (by first | (intro hz; omega) | (intro _; exact Or.inl (by omega)) | (intro _; exact tx_mk (SRX_FR hFU20 rfl hS) (by omega) (by omega))), (by omega)⟩
        · refine y_aload_n rfl rfl ?_
          have x49 := v20.o (Or.inr (by omega))
          have y49 := htk (by omega) (by omega) (by omega)
          refine y_aload_n rfl rfl ?_
          refine y_gfi rfl rfl rfl rfl rfl ?_
          refine y_pfi rfl rfl rfl rfl ?_
          obtain ⟨U21, eU21⟩ : ∃ T : sS, T = uI U2 895 11 (Int32.ofInt (Xi U2 895 10)) := ⟨_, rfl⟩
          rw [← eU21]
          have hHU21 : RI U21 := by rw [eU21]; exact RI_w hHU2
          have hFU21 : FR md_me_readWhat__p S U21 := by rw [eU21]; exact FR.wI hFU2 (mdf_i (r := (895, 896, 11, 12)) (List.mem_of_getElem? (i := 3) rfl) (inR_i (by omega) (by omega) (by omega) (by omega)))
          have w323 : Xi U21 895 11 = (Xi U2 895 10) := by rw [eU21]; exact Xi_same (by unfold rg; omega)
          refine y_aload_n rfl rfl ?_
          refine y_aload_n rfl rfl ?_
          refine y_gfr rfl rfl rfl rfl rfl (hHU21.r 895 0 876 rfl) ?_
          refine y_iload_n rfl rfl ?_
          have w324 : Xi U21 876 5 = Xi S 876 5 := (show Xi U21 876 5 = Xi U2 876 5 from by rw [eU21]; exact Xi_ne (by omega)).trans ( (show Xi U2 876 5 = Xi U1 876 5 from by rw [eU2]; exact Xi_ne (by omega)).trans ((show Xi U1 876 5 = Xi S 876 5 from by rw [eU1]; exact Xi_ne (by omega))))
          have w325 : Xi U21 876 7 = Xi S 876 7 := (show Xi U21 876 7 = Xi U2 876 7 from by rw [eU21]; exact Xi_ne (by omega)).trans ( (show Xi U2 876 7 = Xi U1 876 7 from by rw [eU2]; exact Xi_ne (by omega)).trans ((show Xi U1 876 7 = Xi S 876 7 from by rw [eU1]; exact Xi_ne (by omega))))
          have w326 : Xi U21 876 8 = Xi S 876 8 := (show Xi U21 876 8 = Xi U2 876 8 from by rw [eU21]; exact Xi_ne (by omega)).trans ( (show Xi U2 876 8 = Xi U1 876 8 from by rw [eU2]; exact Xi_ne (by omega)).trans ((show Xi U1 876 8 = Xi S 876 8 from by rw [eU1]; exact Xi_ne (by omega))))
          have w327 : Xi U21 895 10 = Xi U2 895 10 := (show Xi U21 895 10 = Xi U2 895 10 from by rw [eU21]; exact Xi_ne (by omega))
          refine y_callV rfl rfl rfl (t_to_placeAt__p hHU21 row ⟨by omega, by omega⟩ _) ?_
          rintro _ _ ⟨rfl, z328, rfl, w328, q63⟩
          show Pl _ _ _ _ _ _ [iv z328, .ref 895] _ _
          have e63 : z328 = pc7 S row := by have t := q63; unfold pc7 at t ⊢; rw [(hFU21.cx 878 rfl _).1, hFU21.x 876 7 rfl, hFU21.x 876 5 rfl] at t; exact t
          clear q63
          have l63 := hpl.o row.toNat
          refine y_iconst rfl ?_
          refine y_iadd rfl ?_
          refine y_pfi rfl rfl rfl rfl ?_
          obtain ⟨U22, eU22⟩ : ∃ T : sS, T = uI U21 895 10 (Int32.ofInt (z328 + 1)) := ⟨_, rfl⟩
          rw [← eU22]
          have hHU22 : RI U22 := by rw [eU22]; exact RI_w hHU21
          have hFU22 : FR md_me_readWhat__p S U22 := by rw [eU22]; exact FR.wI hFU21 (mdf_i (r := (895, 896, 10, 11)) (List.mem_of_getElem? (i := 2) rfl) (inR_i (by omega) (by omega) (by omega) (by omega)))
          have w329 : Xi U22 895 10 = (z328 + 1) := by rw [eU22]; exact Xi_same (by unfold rg; omega)
          have K68 : True := trivial
          refine y_iconst rfl ?_
          refine y_ireturn rfl rfl ?_
          have w330 : Xi U22 876 5 = Xi S 876 5 := (show Xi U22 876 5 = Xi U21 876 5 from by rw [eU22]; exact Xi_ne (by omega)).trans ( (show Xi U21 876 5 = Xi U2 876 5 from by rw [eU21]; exact Xi_ne (by omega)).trans ( (show Xi U2 876 5 = Xi U1 876 5 from by rw [eU2]; exact Xi_ne (by omega)).trans ((show Xi U1 876 5 = Xi S 876 5 from by rw [eU1]; exact Xi_ne (by omega)))))
          have w331 : Xi U22 876 7 = Xi S 876 7 := (show Xi U22 876 7 = Xi U21 876 7 from by rw [eU22]; exact Xi_ne (by omega)).trans ( (show Xi U21 876 7 = Xi U2 876 7 from by rw [eU21]; exact Xi_ne (by omega)).trans ( (show Xi U2 876 7 = Xi U1 876 7 from by rw [eU2]; exact Xi_ne (by omega)).trans ((show Xi U1 876 7 = Xi S 876 7 from by rw [eU1]; exact Xi_ne (by omega)))))
          have w332 : Xi U22 876 8 = Xi S 876 8 := (show Xi U22 876 8 = Xi U21 876 8 from by rw [eU22]; exact Xi_ne (by omega)).trans ( (show Xi U21 876 8 = Xi U2 876 8 from by rw [eU21]; exact Xi_ne (by omega)).trans ( (show Xi U2 876 8 = Xi U1 876 8 from by rw [eU2]; exact Xi_ne (by omega)).trans ((show Xi U1 876 8 = Xi S 876 8 from by rw [eU1]; exact Xi_ne (by omega)))))
          have w333 : Xi U22 895 11 = Xi U21 895 11 := (show Xi U22 895 11 = Xi U21 895 11 from by rw [eU22]; exact Xi_ne (by omega))
          exact ⟨hHU22, hFU22, _, rfl, ⟨by omega, by omega⟩, (by first | (have t := K158; exact ⟨fun q => absurd q (by omega), fun _ => ⟨N152, fun q => Y158 q⟩⟩) | (have t := K147; exact ⟨fun _ => Or.inr (Or.inr ⟨by omega, by omega, by omega, m122, e140, by rw [hm104]; omega, by omega⟩), fun q => absurd q (by omega)⟩) | (have t := K68; exact ⟨fun _ => Or.inr (Or.inl ⟨by omega, by omega, by omega, by omega⟩), fun q => absurd q (by omega)⟩) | exact ⟨fun _ => Or.inl ⟨by omega, by omega, by omega, by omega⟩, fun q => absurd q (by omega)⟩), (by first | (intro hz; omega) | (intro _; exact Or.inl (by omega)) | (intro _; exact tx_mk (SRX_FR hFU22 rfl hS) (by omega) (by omega))), (by omega)⟩
    · refine y_iconst rfl ?_
      have x36 := v20.o (Or.inl (by omega))
      refine y_ireturn rfl rfl ?_
      have w334 : Xi U2 876 5 = Xi S 876 5 := (show Xi U2 876 5 = Xi U1 876 5 from by rw [eU2]; exact Xi_ne (by omega)).trans ((show Xi U1 876 5 = Xi S 876 5 from by rw [eU1]; exact Xi_ne (by omega)))
      have w335 : Xi U2 876 7 = Xi S 876 7 := (show Xi U2 876 7 = Xi U1 876 7 from by rw [eU2]; exact Xi_ne (by omega)).trans ((show Xi U1 876 7 = Xi S 876 7 from by rw [eU1]; exact Xi_ne (by omega)))
      have w336 : Xi U2 876 8 = Xi S 876 8 := (show Xi U2 876 8 = Xi U1 876 8 from by rw [eU2]; exact Xi_ne (by omega)).trans ((show Xi U1 876 8 = Xi S 876 8 from by rw [eU1]; exact Xi_ne (by omega)))
      have w337 : Xi U2 895 11 = Xi U1 895 11 := (show Xi U2 895 11 = Xi U1 895 11 from by rw [eU2]; exact Xi_ne (by omega))
      exact ⟨hHU2, hFU2, _, rfl, ⟨by omega, by omega⟩, (by first | (have t := K158; exact ⟨fun q => absurd q (by omega), fun _ => ⟨N152, fun q => Y158 q⟩⟩) | (have t := K147; exact ⟨fun _ => Or.inr (Or.inr ⟨by omega, by omega, by omega, m122, e140, by rw [hm104]; omega, by omega⟩), fun q => absurd q (by omega)⟩) | (have t := K68; exact ⟨fun _ => Or.inr (Or.inl ⟨by omega, by omega, by omega, by omega⟩), fun q => absurd q (by omega)⟩) | exact ⟨fun _ => Or.inl ⟨by omega, by omega, by omega, by omega⟩, fun q => absurd q (by omega)⟩), (by first | (intro hz; omega) | (intro _; exact Or.inl (by omega)) | (intro _; exact tx_mk (SRX_FR hFU2 rfl hS) (by omega) (by omega))), (by omega)⟩
def md_re_tellProperty__p : List rec := [(66, 106, 0, 100000), (107, 147, 0, 100000), (148, 188, 0, 100000), (876, 877, 8, 9), (876, 877, 9, 10), (895, 896, 10, 11), (895, 896, 11, 12)]
abbrev Q_re_tellProperty__p (S : sS) : pst := fun r S1 => RI S1 ∧ FR md_re_tellProperty__p S S1 ∧ (∃ z : Int, r = some (iv z) ∧ (0 ≤ z ∧ z ≤ 1) ∧ (TPY md_me_readWhat__p S S1 z (re7 (ty7 S) 1) (bA (ty7 S) (re7 (ty7 S) 1 + 1)) (re7 (ty7 S) (bA (ty7 S) (re7 (ty7 S) 1 + 1))) (Xi S 890 3 + 1)))
set_option maxRecDepth 100000 in
theorem t_re_tellProperty__p {S : sS} (hH : RI S) (h13 : 0 ≤ Xi S 1 3 ∧ Xi S 1 3 ≤ 200) (hCE : CEN S) (hT : TOK S) (hS : SRX S) (hnv : Hid (NVL S)) (hr : Xi S 876 7 ≤ 5130) (ht : 0 ≤ Xi S 890 3 ∧ Xi S 890 3 ≤ 5125) (hf : Xi S 876 8 = 0) (hX : TX S) (hpl : Hid (∀ j : Nat, 0 ≤ Xi S 878 j)) (h5 : Xi S 876 5 ≤ 5000) (hmk : Hid (MK15 S)) (d : Nat) : Mp lay0 (d + 3) m_re_tellProperty [.ref 891] S (Q_re_tellProperty__p S) := by
  refine Mp_R rfl rfl (fun fu => ?_)
  have hF : FR md_re_tellProperty__p S S := FR.rf
  have w1 : -2147483648 ≤ Xi S 1 3 ∧ Xi S 1 3 ≤ 2147483647 := Xi_rgI
  have w2 : -2147483648 ≤ Xi S 876 5 ∧ Xi S 876 5 ≤ 2147483647 := Xi_rgI
  have w3 : -2147483648 ≤ Xi S 876 7 ∧ Xi S 876 7 ≤ 2147483647 := Xi_rgI
  have w4 : -2147483648 ≤ Xi S 876 8 ∧ Xi S 876 8 ≤ 2147483647 := Xi_rgI
  have w5 : -2147483648 ≤ Xi S 890 3 ∧ Xi S 890 3 ≤ 2147483647 := Xi_rgI
  refine y_aload_n rfl rfl ?_
  refine y_gfr rfl rfl rfl rfl rfl (hH.r 891 0 876 rfl) ?_
  refine y_iconst rfl ?_
  refine y_callV rfl rfl rfl (t_to_runEnd__p hH 1 ⟨by omega, by omega⟩ _) ?_
  rintro _ _ ⟨rfl, z8, rfl, w8, w6, w7⟩
  show Pl _ _ _ _ _ _ [iv z8] _ _
  have gq5 := w6
  clear w6
  refine y_istore_n rfl rfl rfl ?_
  refine y_aload_n rfl rfl ?_
  refine y_gfr rfl rfl rfl rfl rfl (hH.r 891 0 876 rfl) ?_
  refine y_iload_n rfl rfl ?_
  refine y_iconst rfl ?_
  refine y_iadd rfl ?_
  refine y_callV rfl rfl rfl (t_to_behindArt__p hH (z8 + 1) ⟨by omega, by omega⟩ _) ?_
  rintro _ _ ⟨rfl, z11, rfl, w11, w9, w10⟩
  show Pl _ _ _ _ _ _ [iv z11] _ _
  have gq16 := w9
  clear w9
  refine y_istore_n rfl rfl rfl ?_
  refine y_aload_n rfl rfl ?_
  refine y_gfr rfl rfl rfl rfl rfl (hH.r 891 2 1 rfl) ?_
  refine y_aload_n rfl rfl ?_
  refine y_gfr rfl rfl rfl rfl rfl (hH.r 891 0 876 rfl) ?_
  refine y_gfr rfl rfl rfl rfl rfl (hH.r 876 2 879 rfl) ?_
  refine y_iload_n rfl rfl ?_
  refine y_aload_n rfl rfl ?_
  refine y_gfr rfl rfl rfl rfl rfl (hH.r 891 0 876 rfl) ?_
  refine y_iload_n rfl rfl ?_
  refine y_callV rfl rfl rfl (t_to_runEnd__p hH z11 ⟨by omega, by omega⟩ _) ?_
  rintro _ _ ⟨rfl, z14, rfl, w14, w12, w13⟩
  show Pl _ _ _ _ _ _ [iv z14, iv z11, .ref 879, .ref 1] _ _
  have gq37 := w12
  clear w12
  refine y_callV rfl rfl rfl (t_vo_meaning__p hH 879 5130 z11 z14 rfl ⟨by omega, by omega⟩ ⟨by omega, by omega⟩ ⟨by omega, by omega⟩ (by first | assumption | omega) (by first | assumption | exact (CEN_FR hF rfl rfl (by assumption : CEN S))) _) ?_
  rintro _ _ ⟨rfl, z15, rfl, w15, f40, n40⟩
  show Pl _ _ _ _ _ _ [iv z15] _ _
  have hm40 : mnV S (bA (ty7 S) (re7 (ty7 S) 1 + 1)) (re7 (ty7 S) (bA (ty7 S) (re7 (ty7 S) 1 + 1))) = z15 := by have t := mnV_of f40 n40; rw [← gq37, ← gq16, ← gq5] at t; exact t
  clear f40 n40
  have g40 := hmk.o (bA (ty7 S) (re7 (ty7 S) 1 + 1)) (re7 (ty7 S) (bA (ty7 S) (re7 (ty7 S) 1 + 1)))
  refine y_istore_n rfl rfl rfl ?_
  refine y_iload_n rfl rfl ?_
  refine y_sipush rfl rfl ?_
  refine y_iand255 rfl (by unfold rg; omega) ?_
  refine y_istore rfl rfl rfl ?_
  refine y_iconst rfl ?_
  refine y_istore rfl rfl rfl ?_
  refine y_iconst rfl ?_
  refine y_istore rfl rfl rfl ?_
  refine y_iload_n rfl rfl ?_
  refine y_bipush rfl rfl ?_
  refine y_ishr8 rfl (by unfold rg; omega) ?_
  refine y_iconst rfl ?_
  refine y_icmp_ne rfl rfl (by unfold rg; omega) (by unfold rg; omega) (fun w18 => ?_) (fun w19 => ?_)
  · refine y_iload_n rfl rfl ?_
    refine y_bipush rfl rfl ?_
    refine y_ishr8 rfl (by unfold rg; omega) ?_
    refine y_if_ne rfl rfl (by unfold rg; omega) (fun w21 => ?_) (fun w22 => ?_)
    · refine y_aload_n rfl rfl ?_
      have k102 : (-1) = k9 S (bA (ty7 S) (re7 (ty7 S) 1 + 1)) (re7 (ty7 S) (bA (ty7 S) (re7 (ty7 S) 1 + 1))) := by unfold k9; rw [hm40]; first | (rw [if_pos (by omega)]) | (rw [if_neg (by omega), if_pos (by omega)]) | (rw [if_neg (by omega), if_neg (by omega)])
      have o102 : (-1) = o9 S (bA (ty7 S) (re7 (ty7 S) 1 + 1)) (re7 (ty7 S) (bA (ty7 S) (re7 (ty7 S) 1 + 1))) := by unfold o9; rw [hm40]; first | (rw [if_pos (by omega)]) | (rw [if_neg (by omega), if_pos (by omega)]) | (rw [if_neg (by omega), if_neg (by omega)])
      refine y_gfr rfl rfl rfl rfl rfl (hH.r 891 4 895 rfl) ?_
      refine y_iconst rfl ?_
      refine y_iload_n rfl rfl ?_
      refine y_iload rfl rfl ?_
      refine y_iconst rfl ?_
      refine y_callV rfl rfl rfl (t_me_readProperty__p hH 1 z8 (-1) 0 ⟨by omega, by omega⟩ ⟨by omega, by omega⟩ ⟨by omega, by omega⟩ ⟨by omega, by omega⟩ (by first | assumption | omega) (by first | assumption | exact (CEN_FR hF rfl rfl (by assumption : CEN S))) _) ?_
      rintro _ T1 ⟨hHT1, w24, z23, rfl, w23, o111⟩
      have hFT1 : FR md_re_tellProperty__p S T1 := FR.tr hF w24 rfl
      show Pl _ _ _ _ _ _ [iv z23] _ _
      have O111 : Hid (RPC S T1 z23 1 (re7 (ty7 S) 1) (k9 S (bA (ty7 S) (re7 (ty7 S) 1 + 1)) (re7 (ty7 S) (bA (ty7 S) (re7 (ty7 S) 1 + 1)))) 0) := by have t := o111; rw [k102, ← gq5] at t; exact t
      clear o111
      refine y_istore rfl rfl rfl ?_
      refine y_iload rfl rfl ?_
      refine y_iconst rfl ?_
      refine y_icmp_ne rfl rfl (by unfold rg; omega) (by unfold rg; omega) (fun w25 => ?_) (fun w26 => ?_)
      · refine y_iload rfl rfl ?_
        have Y124 : Hid (pOK S 1 (re7 (ty7 S) 1) (k9 S (bA (ty7 S) (re7 (ty7 S) 1 + 1)) (re7 (ty7 S) (bA (ty7 S) (re7 (ty7 S) 1 + 1)))) 0) := Classical.byContradiction (fun q => by have t := (O111.o.2 q).1; omega)
        have e124 : T1 = S := (O111.o.1 Y124.o).2
        have p124 : z23 = mnV S 1 (re7 (ty7 S) 1) % 256 := (O111.o.1 Y124.o).1
        refine y_iconst rfl ?_
        refine y_icmp_ne rfl rfl (by unfold rg; omega) (by unfold rg; omega) (fun w27 => absurd w27 (by omega)) (fun w28 => ?_)
        · refine y_aload_n rfl rfl ?_
          refine y_gfr rfl rfl rfl rfl rfl (hHT1.r 891 0 876 rfl) ?_
          refine y_iconst rfl ?_
          refine y_iload_n rfl rfl ?_
          refine y_callV rfl rfl rfl (t_to_wrong__p hHT1 4 z11 ⟨by omega, by omega⟩ ⟨by omega, by omega⟩ _) ?_
          rintro _ T2 ⟨hHT2, w36, z35, rfl, w35, w33, f136, w34⟩
          have hFT2 : FR md_re_tellProperty__p S T2 := FR.tr hFT1 w36 rfl
          show Pl _ _ _ _ _ _ [iv z35] _ _
          have K136 : True := trivial
          have O136 : o9 S (bA (ty7 S) (re7 (ty7 S) 1 + 1)) (re7 (ty7 S) (bA (ty7 S) (re7 (ty7 S) 1 + 1))) = -1 := by omega
          have Y136 : FTO S T2 4 (bA (ty7 S) (re7 (ty7 S) 1 + 1)) := by have t := f136 (by rw [e124]; exact hf); rw [e124, ← gq16, ← gq5] at t; exact t
          refine y_ireturn rfl (retI_z (by omega)) ?_
          have w37 : Xi T2 1 3 = Xi S 1 3 := (show Xi T2 1 3 = Xi T1 1 3 from w36.x _ _ rfl).trans ((show Xi T1 1 3 = Xi S 1 3 from w24.x _ _ rfl))
          have w38 : Xi T2 876 5 = Xi S 876 5 := (show Xi T2 876 5 = Xi T1 876 5 from w36.x _ _ rfl).trans ((show Xi T1 876 5 = Xi S 876 5 from w24.x _ _ rfl))
          have w39 : Xi T2 876 7 = Xi S 876 7 := (show Xi T2 876 7 = Xi T1 876 7 from w36.x _ _ rfl).trans ((show Xi T1 876 7 = Xi S 876 7 from w24.x _ _ rfl))
          have w40 : Xi T2 890 3 = Xi S 890 3 := (show Xi T2 890 3 = Xi T1 890 3 from w36.x _ _ rfl).trans ((show Xi T1 890 3 = Xi S 890 3 from w24.x _ _ rfl))
          exact ⟨hHT2, hFT2, _, rfl, ⟨by omega, by omega⟩, (by first | (have t := K203; exact tpy_4 Y124.o O124 R163 F163 o191 (fun q => absurd q (by omega)) (fun _ => ⟨by omega, Y203⟩)) | (have t := K191; exact tpy_4 Y124.o O124 R163 F163 o191 (fun _ => ⟨by omega, rfl, f191⟩) (fun q => absurd (by omega) q)) | (have t := K163; exact tpy_3 Y124.o O124 (W163.o.2 (by omega)).1 (by omega) ((W163.o.2 (by omega)).2 hf)) | (have t := K136; exact tpy_2 Y124.o O136 (by omega) Y136) | exact tpy_1 N122 (by omega) Y122)⟩
      · refine y_iconst rfl ?_
        have N122 : ¬ pOK S 1 (re7 (ty7 S) 1) (k9 S (bA (ty7 S) (re7 (ty7 S) 1 + 1)) (re7 (ty7 S) (bA (ty7 S) (re7 (ty7 S) 1 + 1)))) 0 := fun q => by have t := (O111.o.1 q).1; omega
        have Y122 : FTO S T1 4 1 := (O111.o.2 N122).2 hf
        refine y_ireturn rfl rfl ?_
        have w41 : Xi T1 1 3 = Xi S 1 3 := (show Xi T1 1 3 = Xi S 1 3 from w24.x _ _ rfl)
        have w42 : Xi T1 876 5 = Xi S 876 5 := (show Xi T1 876 5 = Xi S 876 5 from w24.x _ _ rfl)
        have w43 : Xi T1 876 7 = Xi S 876 7 := (show Xi T1 876 7 = Xi S 876 7 from w24.x _ _ rfl)
        have w44 : Xi T1 890 3 = Xi S 890 3 := (show Xi T1 890 3 = Xi S 890 3 from w24.x _ _ rfl)
        exact ⟨hHT1, hFT1, _, rfl, ⟨by omega, by omega⟩, (by first | (have t := K203; exact tpy_4 Y124.o O124 R163 F163 o191 (fun q => absurd q (by omega)) (fun _ => ⟨by omega, Y203⟩)) | (have t := K191; exact tpy_4 Y124.o O124 R163 F163 o191 (fun _ => ⟨by omega, rfl, f191⟩) (fun q => absurd (by omega) q)) | (have t := K163; exact tpy_3 Y124.o O124 (W163.o.2 (by omega)).1 (by omega) ((W163.o.2 (by omega)).2 hf)) | (have t := K136; exact tpy_2 Y124.o O136 (by omega) Y136) | exact tpy_1 N122 (by omega) Y122)⟩
    · refine y_bipush rfl rfl ?_
      refine y_iload rfl rfl ?_
      refine y_iadd rfl ?_
      refine y_istore rfl rfl rfl ?_
      refine y_iload rfl rfl ?_
      refine y_istore rfl rfl rfl ?_
      refine y_aload_n rfl rfl ?_
      have k102 : (z15 % 256) = k9 S (bA (ty7 S) (re7 (ty7 S) 1 + 1)) (re7 (ty7 S) (bA (ty7 S) (re7 (ty7 S) 1 + 1))) := by unfold k9; rw [hm40]; first | (rw [if_pos (by omega)]) | (rw [if_neg (by omega), if_pos (by omega)]) | (rw [if_neg (by omega), if_neg (by omega)])
      have o102 : (24 + (z15 % 256)) = o9 S (bA (ty7 S) (re7 (ty7 S) 1 + 1)) (re7 (ty7 S) (bA (ty7 S) (re7 (ty7 S) 1 + 1))) := by unfold o9; rw [hm40]; first | (rw [if_pos (by omega)]) | (rw [if_neg (by omega), if_pos (by omega)]) | (rw [if_neg (by omega), if_neg (by omega)])
      refine y_gfr rfl rfl rfl rfl rfl (hH.r 891 4 895 rfl) ?_
      refine y_iconst rfl ?_
      refine y_iload_n rfl rfl ?_
      refine y_iload rfl rfl ?_
      refine y_iconst rfl ?_
      refine y_callV rfl rfl rfl (t_me_readProperty__p hH 1 z8 (z15 % 256) 0 ⟨by omega, by omega⟩ ⟨by omega, by omega⟩ ⟨by omega, by omega⟩ ⟨by omega, by omega⟩ (by first | assumption | omega) (by first | assumption | exact (CEN_FR hF rfl rfl (by assumption : CEN S))) _) ?_
      rintro _ T3 ⟨hHT3, w46, z45, rfl, w45, o111⟩
      have hFT3 : FR md_re_tellProperty__p S T3 := FR.tr hF w46 rfl
      show Pl _ _ _ _ _ _ [iv z45] _ _
      have O111 : Hid (RPC S T3 z45 1 (re7 (ty7 S) 1) (k9 S (bA (ty7 S) (re7 (ty7 S) 1 + 1)) (re7 (ty7 S) (bA (ty7 S) (re7 (ty7 S) 1 + 1)))) 0) := by have t := o111; rw [k102, ← gq5] at t; exact t
      clear o111
      refine y_istore rfl rfl rfl ?_
      refine y_iload rfl rfl ?_
      refine y_iconst rfl ?_
      refine y_icmp_ne rfl rfl (by unfold rg; omega) (by unfold rg; omega) (fun w47 => ?_) (fun w48 => ?_)
      · refine y_iload rfl rfl ?_
        have Y124 : Hid (pOK S 1 (re7 (ty7 S) 1) (k9 S (bA (ty7 S) (re7 (ty7 S) 1 + 1)) (re7 (ty7 S) (bA (ty7 S) (re7 (ty7 S) 1 + 1)))) 0) := Classical.byContradiction (fun q => by have t := (O111.o.2 q).1; omega)
        have e124 : T3 = S := (O111.o.1 Y124.o).2
        have p124 : z45 = mnV S 1 (re7 (ty7 S) 1) % 256 := (O111.o.1 Y124.o).1
        refine y_iconst rfl ?_
        refine y_icmp_ne rfl rfl (by unfold rg; omega) (by unfold rg; omega) (fun w49 => ?_) (fun w50 => ?_)
        · refine y_aload_n rfl rfl ?_
          have O124 : o9 S (bA (ty7 S) (re7 (ty7 S) 1 + 1)) (re7 (ty7 S) (bA (ty7 S) (re7 (ty7 S) 1 + 1))) ≠ -1 := by omega
          refine y_gfr rfl rfl rfl rfl rfl (hHT3.r 891 4 895 rfl) ?_
          refine y_aload_n rfl rfl ?_
          refine y_gfr rfl rfl rfl rfl rfl (hHT3.r 891 1 890 rfl) ?_
          refine y_gfi rfl rfl rfl rfl rfl ?_
          have w51 : (Xi T3 890 3) = (Xi S 890 3) := (show Xi T3 890 3 = Xi S 890 3 from w46.x _ _ rfl)
          rw [w51]
          refine y_iconst rfl ?_
          refine y_iadd rfl ?_
          refine y_aload_n rfl rfl ?_
          refine y_gfr rfl rfl rfl rfl rfl (hHT3.r 891 2 1 rfl) ?_
          refine y_gfr rfl rfl rfl rfl rfl (hHT3.r 1 8 9 rfl) ?_
          refine y_iload rfl rfl ?_
          refine y_ialoadP (n := 12) rfl rfl (by unfold rg; omega) (fun w52 w53 => ?_)
          have w54 : -2147483648 ≤ (Xi T3 9 ((z45).toNat)) ∧ (Xi T3 9 ((z45).toNat)) ≤ 2147483647 := Xi_rgI
          have h162 : (Xi T3 9 ((z45).toNat)) = Xi S 9 (mnV S 1 (re7 (ty7 S) 1) % 256).toNat := by rw [e124, p124]
          have w55 : Xi T3 1 3 = Xi S 1 3 := (show Xi T3 1 3 = Xi S 1 3 from w46.x _ _ rfl)
          have w56 : Xi T3 876 5 = Xi S 876 5 := (show Xi T3 876 5 = Xi S 876 5 from w46.x _ _ rfl)
          have w57 : Xi T3 876 7 = Xi S 876 7 := (show Xi T3 876 7 = Xi S 876 7 from w46.x _ _ rfl)
          have w58 : Xi T3 890 3 = Xi S 890 3 := (show Xi T3 890 3 = Xi S 890 3 from w46.x _ _ rfl)
          refine y_callV rfl rfl rfl (t_me_readWhat__p hHT3 ((Xi S 890 3) + 1) (Xi T3 9 ((z45).toNat)) ⟨by omega, by omega⟩ ⟨by omega, by omega⟩ (by first | assumption | omega) (by first | assumption | exact (CEN_FR hFT3 rfl rfl (by assumption : CEN S))) (by first | assumption | exact (TOK_FR hFT3 rfl rfl rfl (by assumption : TOK S))) (by first | assumption | exact (SRX_FR hFT3 rfl (by assumption : SRX S))) (by rw [e124]; exact hnv) (by first | assumption | omega) (by rw [e124]; exact hpl) (by rw [e124]; exact h5) _) ?_
          rintro _ T4 ⟨hHT4, w60, z59, rfl, w59, o163, t163, k163⟩
          have hFT4 : FR md_re_tellProperty__p S T4 := FR.tr hFT3 w60 rfl
          show Pl _ _ _ _ _ _ [iv z59] _ _
          have K163 : True := trivial
          have F163 : FR md_me_readWhat__p S T4 := by have t := (by assumption : FR md_me_readWhat__p T3 T4); rw [e124] at t; exact t
          have W163 : Hid (WHP S T4 z59 (Xi S 890 3 + 1) (Xi S 9 (mnV S 1 (re7 (ty7 S) 1) % 256).toNat)) := by have t := o163; rw [h162, e124] at t; exact t
          clear o163
          refine y_if_eq rfl rfl (by unfold rg; omega) (fun w61 => ?_) (fun w62 => ?_)
          · refine y_iconst rfl ?_
            refine y_ireturn rfl rfl ?_
            have w63 : Xi T4 1 3 = Xi S 1 3 := (show Xi T4 1 3 = Xi T3 1 3 from w60.x _ _ rfl).trans ((show Xi T3 1 3 = Xi S 1 3 from w46.x _ _ rfl))
            have w64 : Xi T4 876 5 = Xi S 876 5 := (show Xi T4 876 5 = Xi T3 876 5 from w60.x _ _ rfl).trans ((show Xi T3 876 5 = Xi S 876 5 from w46.x _ _ rfl))
            have w65 : Xi T4 876 7 = Xi S 876 7 := (show Xi T4 876 7 = Xi T3 876 7 from w60.x _ _ rfl).trans ((show Xi T3 876 7 = Xi S 876 7 from w46.x _ _ rfl))
            have w66 : Xi T4 890 3 = Xi S 890 3 := (show Xi T4 890 3 = Xi T3 890 3 from w60.x _ _ rfl).trans ((show Xi T3 890 3 = Xi S 890 3 from w46.x _ _ rfl))
            exact ⟨hHT4, hFT4, _, rfl, ⟨by omega, by omega⟩, (by first | (have t := K203; exact tpy_4 Y124.o O124 R163 F163 o191 (fun q => absurd q (by omega)) (fun _ => ⟨by omega, Y203⟩)) | (have t := K191; exact tpy_4 Y124.o O124 R163 F163 o191 (fun _ => ⟨by omega, rfl, f191⟩) (fun q => absurd (by omega) q)) | (have t := K163; exact tpy_3 Y124.o O124 (W163.o.2 (by omega)).1 (by omega) ((W163.o.2 (by omega)).2 hf)) | (have t := K136; exact tpy_2 Y124.o O136 (by omega) Y136) | exact tpy_1 N122 (by omega) Y122)⟩
          · refine y_aload_n rfl rfl ?_
            have R163 := W163.o.1 (by omega)
            have x163 : Xi T4 876 8 = 0 := by have t := k163 (by omega); rw [e124] at t; omega
            have t169 : TXT T4 (Xi T4 895 10) (Xi T4 895 11) := t163 (by omega)
            have X169 : TX T4 := TX_FR F163 rfl hX
            refine y_gfr rfl rfl rfl rfl rfl (hHT4.r 891 3 20 rfl) ?_
            refine y_iload rfl rfl ?_
            refine y_iload rfl rfl ?_
            refine y_aload_n rfl rfl ?_
            refine y_gfr rfl rfl rfl rfl rfl (hHT4.r 891 4 895 rfl) ?_
            refine y_gfi rfl rfl rfl rfl rfl ?_
            have w67 : -2147483648 ≤ (Xi T4 895 10) ∧ (Xi T4 895 10) ≤ 2147483647 := Xi_rgI
            refine y_aload_n rfl rfl ?_
            refine y_gfr rfl rfl rfl rfl rfl (hHT4.r 891 4 895 rfl) ?_
            refine y_gfi rfl rfl rfl rfl rfl ?_
            have w68 : -2147483648 ≤ (Xi T4 895 11) ∧ (Xi T4 895 11) ≤ 2147483647 := Xi_rgI
            refine y_callV rfl rfl rfl (t_wo_tellProperty__p hHT4 (24 + (z15 % 256)) z45 (Xi T4 895 10) (Xi T4 895 11) ⟨by omega, by omega⟩ ⟨by omega, by omega⟩ ⟨by omega, by omega⟩ ⟨by omega, by omega⟩ (by first | assumption | exact (TX_FR w60 rfl (TX_FR w46 rfl (by first | assumption | exact (by assumption : WI S).2.1 : TX S)))) (t169) _) ?_
            rintro _ T5 ⟨hHT5, w74, z73, rfl, w73, o191_⟩
            have hFT5 : FR md_re_tellProperty__p S T5 := FR.tr hFT4 w74 rfl
            show Pl _ _ _ _ _ _ [iv z73] _ _
            have K191 : True := trivial
            have o191 : TPC T4 T5 z73 (o9 S (bA (ty7 S) (re7 (ty7 S) 1 + 1)) (re7 (ty7 S) (bA (ty7 S) (re7 (ty7 S) 1 + 1)))) (mnV S 1 (re7 (ty7 S) 1) % 256) (Xi T4 895 10) (Xi T4 895 11) := by have t := o191_; rw [o102, p124] at t; exact t
            clear o191_
            have G191 := (by assumption : FR md_wo_tellProperty__p T4 T5)
            have f191 : Xi T5 876 8 = 0 := (G191.x 876 8 rfl).trans x163
            refine y_if_ne rfl rfl (by unfold rg; omega) (fun w75 => ?_) (fun w76 => ?_)
            · refine y_iconst rfl ?_
              refine y_goto rfl rfl ?_
              refine y_ireturn rfl rfl ?_
              have w77 : Xi T5 1 3 = Xi S 1 3 := (show Xi T5 1 3 = Xi T4 1 3 from w74.x _ _ rfl).trans ( (show Xi T4 1 3 = Xi T3 1 3 from w60.x _ _ rfl).trans ((show Xi T3 1 3 = Xi S 1 3 from w46.x _ _ rfl)))
              have w78 : Xi T5 876 5 = Xi S 876 5 := (show Xi T5 876 5 = Xi T4 876 5 from w74.x _ _ rfl).trans ( (show Xi T4 876 5 = Xi T3 876 5 from w60.x _ _ rfl).trans ((show Xi T3 876 5 = Xi S 876 5 from w46.x _ _ rfl)))
              have w79 : Xi T5 876 7 = Xi S 876 7 := (show Xi T5 876 7 = Xi T4 876 7 from w74.x _ _ rfl).trans ( (show Xi T4 876 7 = Xi T3 876 7 from w60.x _ _ rfl).trans ((show Xi T3 876 7 = Xi S 876 7 from w46.x _ _ rfl)))
              have w80 : Xi T5 876 8 = Xi T4 876 8 := (show Xi T5 876 8 = Xi T4 876 8 from w74.x _ _ rfl)
              have w81 : Xi T5 890 3 = Xi S 890 3 := (show Xi T5 890 3 = Xi T4 890 3 from w74.x _ _ rfl).trans ( (show Xi T4 890 3 = Xi T3 890 3 from w60.x _ _ rfl).trans ((show Xi T3 890 3 = Xi S 890 3 from w46.x _ _ rfl)))
              exact ⟨hHT5, hFT5, _, rfl, ⟨by omega, by omega⟩, (by first | (have t := K203; exact tpy_4 Y124.o O124 R163 F163 o191 (fun q => absurd q (by omega)) (fun _ => ⟨by omega, Y203⟩)) | (have t := K191; exact tpy_4 Y124.o O124 R163 F163 o191 (fun _ => ⟨by omega, rfl, f191⟩) (fun q => absurd (by omega) q)) | (have t := K163; exact tpy_3 Y124.o O124 (W163.o.2 (by omega)).1 (by omega) ((W163.o.2 (by omega)).2 hf)) | (have t := K136; exact tpy_2 Y124.o O136 (by omega) Y136) | exact tpy_1 N122 (by omega) Y122)⟩
            · refine y_aload_n rfl rfl ?_
              refine y_gfr rfl rfl rfl rfl rfl (hHT5.r 891 0 876 rfl) ?_
              refine y_iconst rfl ?_
              refine y_iload_n rfl rfl ?_
              have w85 : Xi T5 876 8 = Xi T4 876 8 := (show Xi T5 876 8 = Xi T4 876 8 from w74.x _ _ rfl)
              have w86 : Xi T5 876 9 = Xi T4 876 9 := (show Xi T5 876 9 = Xi T4 876 9 from w74.x _ _ rfl)
              refine y_callV rfl rfl rfl (t_to_wrong__p hHT5 5 z11 ⟨by omega, by omega⟩ ⟨by omega, by omega⟩ _) ?_
              rintro _ T6 ⟨hHT6, w91, z90, rfl, w90, w88, f203, w89⟩
              have hFT6 : FR md_re_tellProperty__p S T6 := FR.tr hFT5 w91 rfl
              show Pl _ _ _ _ _ _ [iv z90] _ _
              have K203 : True := trivial
              have Y203 : FTO S T6 5 (bA (ty7 S) (re7 (ty7 S) 1 + 1)) := by have t := f203 f191; rw [pc7_FR G191 rfl rfl rfl, pc7_FR F163 rfl rfl rfl, ← gq16, ← gq5] at t; exact t
              refine y_if_eq rfl rfl (by unfold rg; omega) (fun w92 => ?_) (fun w93 => ?_)
              · refine y_iconst rfl ?_
                refine y_ireturn rfl rfl ?_
                have w94 : Xi T6 1 3 = Xi S 1 3 := (show Xi T6 1 3 = Xi T5 1 3 from w91.x _ _ rfl).trans ( (show Xi T5 1 3 = Xi T4 1 3 from w74.x _ _ rfl).trans ( (show Xi T4 1 3 = Xi T3 1 3 from w60.x _ _ rfl).trans ((show Xi T3 1 3 = Xi S 1 3 from w46.x _ _ rfl))))
                have w95 : Xi T6 876 5 = Xi S 876 5 := (show Xi T6 876 5 = Xi T5 876 5 from w91.x _ _ rfl).trans ( (show Xi T5 876 5 = Xi T4 876 5 from w74.x _ _ rfl).trans ( (show Xi T4 876 5 = Xi T3 876 5 from w60.x _ _ rfl).trans ((show Xi T3 876 5 = Xi S 876 5 from w46.x _ _ rfl))))
                have w96 : Xi T6 876 7 = Xi S 876 7 := (show Xi T6 876 7 = Xi T5 876 7 from w91.x _ _ rfl).trans ( (show Xi T5 876 7 = Xi T4 876 7 from w74.x _ _ rfl).trans ( (show Xi T4 876 7 = Xi T3 876 7 from w60.x _ _ rfl).trans ((show Xi T3 876 7 = Xi S 876 7 from w46.x _ _ rfl))))
                have w97 : Xi T6 890 3 = Xi S 890 3 := (show Xi T6 890 3 = Xi T5 890 3 from w91.x _ _ rfl).trans ( (show Xi T5 890 3 = Xi T4 890 3 from w74.x _ _ rfl).trans ( (show Xi T4 890 3 = Xi T3 890 3 from w60.x _ _ rfl).trans ((show Xi T3 890 3 = Xi S 890 3 from w46.x _ _ rfl))))
                exact ⟨hHT6, hFT6, _, rfl, ⟨by omega, by omega⟩, (by first | (have t := K203; exact tpy_4 Y124.o O124 R163 F163 o191 (fun q => absurd q (by omega)) (fun _ => ⟨by omega, Y203⟩)) | (have t := K191; exact tpy_4 Y124.o O124 R163 F163 o191 (fun _ => ⟨by omega, rfl, f191⟩) (fun q => absurd (by omega) q)) | (have t := K163; exact tpy_3 Y124.o O124 (W163.o.2 (by omega)).1 (by omega) ((W163.o.2 (by omega)).2 hf)) | (have t := K136; exact tpy_2 Y124.o O136 (by omega) Y136) | exact tpy_1 N122 (by omega) Y122)⟩
              · refine y_iconst rfl ?_
                refine y_goto rfl rfl ?_
                refine y_ireturn rfl rfl ?_
                have w98 : Xi T6 1 3 = Xi S 1 3 := (show Xi T6 1 3 = Xi T5 1 3 from w91.x _ _ rfl).trans ( (show Xi T5 1 3 = Xi T4 1 3 from w74.x _ _ rfl).trans ( (show Xi T4 1 3 = Xi T3 1 3 from w60.x _ _ rfl).trans ((show Xi T3 1 3 = Xi S 1 3 from w46.x _ _ rfl))))
                have w99 : Xi T6 876 5 = Xi S 876 5 := (show Xi T6 876 5 = Xi T5 876 5 from w91.x _ _ rfl).trans ( (show Xi T5 876 5 = Xi T4 876 5 from w74.x _ _ rfl).trans ( (show Xi T4 876 5 = Xi T3 876 5 from w60.x _ _ rfl).trans ((show Xi T3 876 5 = Xi S 876 5 from w46.x _ _ rfl))))
                have w100 : Xi T6 876 7 = Xi S 876 7 := (show Xi T6 876 7 = Xi T5 876 7 from w91.x _ _ rfl).trans ( (show Xi T5 876 7 = Xi T4 876 7 from w74.x _ _ rfl).trans ( (show Xi T4 876 7 = Xi T3 876 7 from w60.x _ _ rfl).trans ((show Xi T3 876 7 = Xi S 876 7 from w46.x _ _ rfl))))
                have w101 : Xi T6 890 3 = Xi S 890 3 := (show Xi T6 890 3 = Xi T5 890 3 from w91.x _ _ rfl).trans ( (show Xi T5 890 3 = Xi T4 890 3 from w74.x _ _ rfl).trans ( (show Xi T4 890 3 = Xi T3 890 3 from w60.x _ _ rfl).trans ((show Xi T3 890 3 = Xi S 890 3 from w46.x _ _ rfl))))
                exact ⟨hHT6, hFT6, _, rfl, ⟨by omega, by omega⟩, (by first | (have t := K203; exact tpy_4 Y124.o O124 R163 F163 o191 (fun q => absurd q (by omega)) (fun _ => ⟨by omega, Y203⟩)) | (have t := K191; exact tpy_4 Y124.o O124 R163 F163 o191 (fun _ => ⟨by omega, rfl, f191⟩) (fun q => absurd (by omega) q)) | (have t := K163; exact tpy_3 Y124.o O124 (W163.o.2 (by omega)).1 (by omega) ((W163.o.2 (by omega)).2 hf)) | (have t := K136; exact tpy_2 Y124.o O136 (by omega) Y136) | exact tpy_1 N122 (by omega) Y122)⟩
        · exfalso; omega
      · refine y_iconst rfl ?_
        have N122 : ¬ pOK S 1 (re7 (ty7 S) 1) (k9 S (bA (ty7 S) (re7 (ty7 S) 1 + 1)) (re7 (ty7 S) (bA (ty7 S) (re7 (ty7 S) 1 + 1)))) 0 := fun q => by have t := (O111.o.1 q).1; omega
        have Y122 : FTO S T3 4 1 := (O111.o.2 N122).2 hf
        refine y_ireturn rfl rfl ?_
        have w102 : Xi T3 1 3 = Xi S 1 3 := (show Xi T3 1 3 = Xi S 1 3 from w46.x _ _ rfl)
        have w103 : Xi T3 876 5 = Xi S 876 5 := (show Xi T3 876 5 = Xi S 876 5 from w46.x _ _ rfl)
        have w104 : Xi T3 876 7 = Xi S 876 7 := (show Xi T3 876 7 = Xi S 876 7 from w46.x _ _ rfl)
        have w105 : Xi T3 890 3 = Xi S 890 3 := (show Xi T3 890 3 = Xi S 890 3 from w46.x _ _ rfl)
        exact ⟨hHT3, hFT3, _, rfl, ⟨by omega, by omega⟩, (by first | (have t := K203; exact tpy_4 Y124.o O124 R163 F163 o191 (fun q => absurd q (by omega)) (fun _ => ⟨by omega, Y203⟩)) | (have t := K191; exact tpy_4 Y124.o O124 R163 F163 o191 (fun _ => ⟨by omega, rfl, f191⟩) (fun q => absurd (by omega) q)) | (have t := K163; exact tpy_3 Y124.o O124 (W163.o.2 (by omega)).1 (by omega) ((W163.o.2 (by omega)).2 hf)) | (have t := K136; exact tpy_2 Y124.o O136 (by omega) Y136) | exact tpy_1 N122 (by omega) Y122)⟩
  · refine y_iload rfl rfl ?_
    refine y_istore rfl rfl rfl ?_
    refine y_aload_n rfl rfl ?_
    refine y_gfr rfl rfl rfl rfl rfl (hH.r 891 3 20 rfl) ?_
    refine y_gfr rfl rfl rfl rfl rfl (hH.r 20 2 21 rfl) ?_
    refine y_iload rfl rfl ?_
    refine y_ialoadP (n := 24) rfl rfl (by unfold rg; omega) (fun w106 w107 => ?_)
    have w108 : -2147483648 ≤ (Xi S 21 (((z15 % 256)).toNat)) ∧ (Xi S 21 (((z15 % 256)).toNat)) ≤ 2147483647 := Xi_rgI
    have h78 : (Xi S 21 (((z15 % 256)).toNat)) = Xi S 21 (mnV S (bA (ty7 S) (re7 (ty7 S) 1 + 1)) (re7 (ty7 S) (bA (ty7 S) (re7 (ty7 S) 1 + 1))) % 256).toNat := by rw [hm40]
    refine y_istore rfl rfl rfl ?_
    refine y_goto rfl rfl ?_
    refine y_aload_n rfl rfl ?_
    have k102 : (Xi S 21 (((z15 % 256)).toNat)) = k9 S (bA (ty7 S) (re7 (ty7 S) 1 + 1)) (re7 (ty7 S) (bA (ty7 S) (re7 (ty7 S) 1 + 1))) := by unfold k9; rw [hm40]; first | (rw [if_pos (by omega)]) | (rw [if_neg (by omega), if_pos (by omega)]) | (rw [if_neg (by omega), if_neg (by omega)])
    have o102 : (z15 % 256) = o9 S (bA (ty7 S) (re7 (ty7 S) 1 + 1)) (re7 (ty7 S) (bA (ty7 S) (re7 (ty7 S) 1 + 1))) := by unfold o9; rw [hm40]; first | (rw [if_pos (by omega)]) | (rw [if_neg (by omega), if_pos (by omega)]) | (rw [if_neg (by omega), if_neg (by omega)])
    refine y_gfr rfl rfl rfl rfl rfl (hH.r 891 4 895 rfl) ?_
    refine y_iconst rfl ?_
    refine y_iload_n rfl rfl ?_
    refine y_iload rfl rfl ?_
    refine y_iconst rfl ?_
    refine y_callV rfl rfl rfl (t_me_readProperty__p hH 1 z8 (Xi S 21 (((z15 % 256)).toNat)) 0 ⟨by omega, by omega⟩ ⟨by omega, by omega⟩ ⟨by omega, by omega⟩ ⟨by omega, by omega⟩ (by first | assumption | omega) (by first | assumption | exact (CEN_FR hF rfl rfl (by assumption : CEN S))) _) ?_
    rintro _ T7 ⟨hHT7, w110, z109, rfl, w109, o111⟩
    have hFT7 : FR md_re_tellProperty__p S T7 := FR.tr hF w110 rfl
    show Pl _ _ _ _ _ _ [iv z109] _ _
    have O111 : Hid (RPC S T7 z109 1 (re7 (ty7 S) 1) (k9 S (bA (ty7 S) (re7 (ty7 S) 1 + 1)) (re7 (ty7 S) (bA (ty7 S) (re7 (ty7 S) 1 + 1)))) 0) := by have t := o111; rw [k102, ← gq5] at t; exact t
    clear o111
    refine y_istore rfl rfl rfl ?_
    refine y_iload rfl rfl ?_
    refine y_iconst rfl ?_
    refine y_icmp_ne rfl rfl (by unfold rg; omega) (by unfold rg; omega) (fun w111 => ?_) (fun w112 => ?_)
    · refine y_iload rfl rfl ?_
      have Y124 : Hid (pOK S 1 (re7 (ty7 S) 1) (k9 S (bA (ty7 S) (re7 (ty7 S) 1 + 1)) (re7 (ty7 S) (bA (ty7 S) (re7 (ty7 S) 1 + 1)))) 0) := Classical.byContradiction (fun q => by have t := (O111.o.2 q).1; omega)
      have e124 : T7 = S := (O111.o.1 Y124.o).2
      have p124 : z109 = mnV S 1 (re7 (ty7 S) 1) % 256 := (O111.o.1 Y124.o).1
      refine y_iconst rfl ?_
      refine y_icmp_ne rfl rfl (by unfold rg; omega) (by unfold rg; omega) (fun w113 => ?_) (fun w114 => ?_)
      · refine y_aload_n rfl rfl ?_
        have O124 : o9 S (bA (ty7 S) (re7 (ty7 S) 1 + 1)) (re7 (ty7 S) (bA (ty7 S) (re7 (ty7 S) 1 + 1))) ≠ -1 := by omega
        refine y_gfr rfl rfl rfl rfl rfl (hHT7.r 891 4 895 rfl) ?_
        refine y_aload_n rfl rfl ?_
        refine y_gfr rfl rfl rfl rfl rfl (hHT7.r 891 1 890 rfl) ?_
        refine y_gfi rfl rfl rfl rfl rfl ?_
        have w115 : (Xi T7 890 3) = (Xi S 890 3) := (show Xi T7 890 3 = Xi S 890 3 from w110.x _ _ rfl)
        rw [w115]
        refine y_iconst rfl ?_
        refine y_iadd rfl ?_
        refine y_aload_n rfl rfl ?_
        refine y_gfr rfl rfl rfl rfl rfl (hHT7.r 891 2 1 rfl) ?_
        refine y_gfr rfl rfl rfl rfl rfl (hHT7.r 1 8 9 rfl) ?_
        refine y_iload rfl rfl ?_
        refine y_ialoadP (n := 12) rfl rfl (by unfold rg; omega) (fun w116 w117 => ?_)
        have w118 : -2147483648 ≤ (Xi T7 9 ((z109).toNat)) ∧ (Xi T7 9 ((z109).toNat)) ≤ 2147483647 := Xi_rgI
        have h162 : (Xi T7 9 ((z109).toNat)) = Xi S 9 (mnV S 1 (re7 (ty7 S) 1) % 256).toNat := by rw [e124, p124]
        have w119 : Xi T7 1 3 = Xi S 1 3 := (show Xi T7 1 3 = Xi S 1 3 from w110.x _ _ rfl)
        have w120 : Xi T7 876 5 = Xi S 876 5 := (show Xi T7 876 5 = Xi S 876 5 from w110.x _ _ rfl)
        have w121 : Xi T7 876 7 = Xi S 876 7 := (show Xi T7 876 7 = Xi S 876 7 from w110.x _ _ rfl)
        have w122 : Xi T7 890 3 = Xi S 890 3 := (show Xi T7 890 3 = Xi S 890 3 from w110.x _ _ rfl)
        refine y_callV rfl rfl rfl (t_me_readWhat__p hHT7 ((Xi S 890 3) + 1) (Xi T7 9 ((z109).toNat)) ⟨by omega, by omega⟩ ⟨by omega, by omega⟩ (by first | assumption | omega) (by first | assumption | exact (CEN_FR hFT7 rfl rfl (by assumption : CEN S))) (by first | assumption | exact (TOK_FR hFT7 rfl rfl rfl (by assumption : TOK S))) (by first | assumption | exact (SRX_FR hFT7 rfl (by assumption : SRX S))) (by rw [e124]; exact hnv) (by first | assumption | omega) (by rw [e124]; exact hpl) (by rw [e124]; exact h5) _) ?_
        rintro _ T8 ⟨hHT8, w124, z123, rfl, w123, o163, t163, k163⟩
        have hFT8 : FR md_re_tellProperty__p S T8 := FR.tr hFT7 w124 rfl
        show Pl _ _ _ _ _ _ [iv z123] _ _
        have K163 : True := trivial
        have F163 : FR md_me_readWhat__p S T8 := by have t := (by assumption : FR md_me_readWhat__p T7 T8); rw [e124] at t; exact t
        have W163 : Hid (WHP S T8 z123 (Xi S 890 3 + 1) (Xi S 9 (mnV S 1 (re7 (ty7 S) 1) % 256).toNat)) := by have t := o163; rw [h162, e124] at t; exact t
        clear o163
        refine y_if_eq rfl rfl (by unfold rg; omega) (fun w125 => ?_) (fun w126 => ?_)
        · refine y_iconst rfl ?_
          refine y_ireturn rfl rfl ?_
          have w127 : Xi T8 1 3 = Xi S 1 3 := (show Xi T8 1 3 = Xi T7 1 3 from w124.x _ _ rfl).trans ((show Xi T7 1 3 = Xi S 1 3 from w110.x _ _ rfl))
          have w128 : Xi T8 876 5 = Xi S 876 5 := (show Xi T8 876 5 = Xi T7 876 5 from w124.x _ _ rfl).trans ((show Xi T7 876 5 = Xi S 876 5 from w110.x _ _ rfl))
          have w129 : Xi T8 876 7 = Xi S 876 7 := (show Xi T8 876 7 = Xi T7 876 7 from w124.x _ _ rfl).trans ((show Xi T7 876 7 = Xi S 876 7 from w110.x _ _ rfl))
          have w130 : Xi T8 890 3 = Xi S 890 3 := (show Xi T8 890 3 = Xi T7 890 3 from w124.x _ _ rfl).trans ((show Xi T7 890 3 = Xi S 890 3 from w110.x _ _ rfl))
          exact ⟨hHT8, hFT8, _, rfl, ⟨by omega, by omega⟩, (by first | (have t := K203; exact tpy_4 Y124.o O124 R163 F163 o191 (fun q => absurd q (by omega)) (fun _ => ⟨by omega, Y203⟩)) | (have t := K191; exact tpy_4 Y124.o O124 R163 F163 o191 (fun _ => ⟨by omega, rfl, f191⟩) (fun q => absurd (by omega) q)) | (have t := K163; exact tpy_3 Y124.o O124 (W163.o.2 (by omega)).1 (by omega) ((W163.o.2 (by omega)).2 hf)) | (have t := K136; exact tpy_2 Y124.o O136 (by omega) Y136) | exact tpy_1 N122 (by omega) Y122)⟩
        · refine y_aload_n rfl rfl ?_
          have R163 := W163.o.1 (by omega)
          have x163 : Xi T8 876 8 = 0 := by have t := k163 (by omega); rw [e124] at t; omega
          have t169 : TXT T8 (Xi T8 895 10) (Xi T8 895 11) := t163 (by omega)
          have X169 : TX T8 := TX_FR F163 rfl hX
          refine y_gfr rfl rfl rfl rfl rfl (hHT8.r 891 3 20 rfl) ?_
          refine y_iload rfl rfl ?_
          refine y_iload rfl rfl ?_
          refine y_aload_n rfl rfl ?_
          refine y_gfr rfl rfl rfl rfl rfl (hHT8.r 891 4 895 rfl) ?_
          refine y_gfi rfl rfl rfl rfl rfl ?_
          have w131 : -2147483648 ≤ (Xi T8 895 10) ∧ (Xi T8 895 10) ≤ 2147483647 := Xi_rgI
          refine y_aload_n rfl rfl ?_
          refine y_gfr rfl rfl rfl rfl rfl (hHT8.r 891 4 895 rfl) ?_
          refine y_gfi rfl rfl rfl rfl rfl ?_
          have w132 : -2147483648 ≤ (Xi T8 895 11) ∧ (Xi T8 895 11) ≤ 2147483647 := Xi_rgI
          refine y_callV rfl rfl rfl (t_wo_tellProperty__p hHT8 (z15 % 256) z109 (Xi T8 895 10) (Xi T8 895 11) ⟨by omega, by omega⟩ ⟨by omega, by omega⟩ ⟨by omega, by omega⟩ ⟨by omega, by omega⟩ (by first | assumption | exact (TX_FR w124 rfl (TX_FR w110 rfl (by first | assumption | exact (by assumption : WI S).2.1 : TX S)))) (t169) _) ?_
          rintro _ T9 ⟨hHT9, w138, z137, rfl, w137, o191_⟩
          have hFT9 : FR md_re_tellProperty__p S T9 := FR.tr hFT8 w138 rfl
          show Pl _ _ _ _ _ _ [iv z137] _ _
          have K191 : True := trivial
          have o191 : TPC T8 T9 z137 (o9 S (bA (ty7 S) (re7 (ty7 S) 1 + 1)) (re7 (ty7 S) (bA (ty7 S) (re7 (ty7 S) 1 + 1)))) (mnV S 1 (re7 (ty7 S) 1) % 256) (Xi T8 895 10) (Xi T8 895 11) := by have t := o191_; rw [o102, p124] at t; exact t
          clear o191_
          have G191 := (by assumption : FR md_wo_tellProperty__p T8 T9)
          have f191 : Xi T9 876 8 = 0 := (G191.x 876 8 rfl).trans x163
          refine y_if_ne rfl rfl (by unfold rg; omega) (fun w139 => ?_) (fun w140 => ?_)
          · refine y_iconst rfl ?_
            refine y_goto rfl rfl ?_
            refine y_ireturn rfl rfl ?_
            have w141 : Xi T9 1 3 = Xi S 1 3 := (show Xi T9 1 3 = Xi T8 1 3 from w138.x _ _ rfl).trans ( (show Xi T8 1 3 = Xi T7 1 3 from w124.x _ _ rfl).trans ((show Xi T7 1 3 = Xi S 1 3 from w110.x _ _ rfl)))
            have w142 : Xi T9 876 5 = Xi S 876 5 := (show Xi T9 876 5 = Xi T8 876 5 from w138.x _ _ rfl).trans ( (show Xi T8 876 5 = Xi T7 876 5 from w124.x _ _ rfl).trans ((show Xi T7 876 5 = Xi S 876 5 from w110.x _ _ rfl)))
            have w143 : Xi T9 876 7 = Xi S 876 7 := (show Xi T9 876 7 = Xi T8 876 7 from w138.x _ _ rfl).trans ( (show Xi T8 876 7 = Xi T7 876 7 from w124.x _ _ rfl).trans ((show Xi T7 876 7 = Xi S 876 7 from w110.x _ _ rfl)))
            have w144 : Xi T9 876 8 = Xi T8 876 8 := (show Xi T9 876 8 = Xi T8 876 8 from w138.x _ _ rfl)
            have w145 : Xi T9 890 3 = Xi S 890 3 := (show Xi T9 890 3 = Xi T8 890 3 from w138.x _ _ rfl).trans ( (show Xi T8 890 3 = Xi T7 890 3 from w124.x _ _ rfl).trans ((show Xi T7 890 3 = Xi S 890 3 from w110.x _ _ rfl)))
            exact ⟨hHT9, hFT9, _, rfl, ⟨by omega, by omega⟩, (by first | (have t := K203; exact tpy_4 Y124.o O124 R163 F163 o191 (fun q => absurd q (by omega)) (fun _ => ⟨by omega, Y203⟩)) | (have t := K191; exact tpy_4 Y124.o O124 R163 F163 o191 (fun _ => ⟨by omega, rfl, f191⟩) (fun q => absurd (by omega) q)) | (have t := K163; exact tpy_3 Y124.o O124 (W163.o.2 (by omega)).1 (by omega) ((W163.o.2 (by omega)).2 hf)) | (have t := K136; exact tpy_2 Y124.o O136 (by omega) Y136) | exact tpy_1 N122 (by omega) Y122)⟩
          · refine y_aload_n rfl rfl ?_
            refine y_gfr rfl rfl rfl rfl rfl (hHT9.r 891 0 876 rfl) ?_
            refine y_iconst rfl ?_
            refine y_iload_n rfl rfl ?_
            have w149 : Xi T9 876 8 = Xi T8 876 8 := (show Xi T9 876 8 = Xi T8 876 8 from w138.x _ _ rfl)
            have w150 : Xi T9 876 9 = Xi T8 876 9 := (show Xi T9 876 9 = Xi T8 876 9 from w138.x _ _ rfl)
            refine y_callV rfl rfl rfl (t_to_wrong__p hHT9 5 z11 ⟨by omega, by omega⟩ ⟨by omega, by omega⟩ _) ?_
            rintro _ T10 ⟨hHT10, w155, z154, rfl, w154, w152, f203, w153⟩
            have hFT10 : FR md_re_tellProperty__p S T10 := FR.tr hFT9 w155 rfl
            show Pl _ _ _ _ _ _ [iv z154] _ _
            have K203 : True := trivial
            have Y203 : FTO S T10 5 (bA (ty7 S) (re7 (ty7 S) 1 + 1)) := by have t := f203 f191; rw [pc7_FR G191 rfl rfl rfl, pc7_FR F163 rfl rfl rfl, ← gq16, ← gq5] at t; exact t
            refine y_if_eq rfl rfl (by unfold rg; omega) (fun w156 => ?_) (fun w157 => ?_)
            · refine y_iconst rfl ?_
              refine y_ireturn rfl rfl ?_
              have w158 : Xi T10 1 3 = Xi S 1 3 := (show Xi T10 1 3 = Xi T9 1 3 from w155.x _ _ rfl).trans ( (show Xi T9 1 3 = Xi T8 1 3 from w138.x _ _ rfl).trans ( (show Xi T8 1 3 = Xi T7 1 3 from w124.x _ _ rfl).trans ((show Xi T7 1 3 = Xi S 1 3 from w110.x _ _ rfl))))
              have w159 : Xi T10 876 5 = Xi S 876 5 := (show Xi T10 876 5 = Xi T9 876 5 from w155.x _ _ rfl).trans ( (show Xi T9 876 5 = Xi T8 876 5 from w138.x _ _ rfl).trans ( (show Xi T8 876 5 = Xi T7 876 5 from w124.x _ _ rfl).trans ((show Xi T7 876 5 = Xi S 876 5 from w110.x _ _ rfl))))
              have w160 : Xi T10 876 7 = Xi S 876 7 := (show Xi T10 876 7 = Xi T9 876 7 from w155.x _ _ rfl).trans ( (show Xi T9 876 7 = Xi T8 876 7 from w138.x _ _ rfl).trans ( (show Xi T8 876 7 = Xi T7 876 7 from w124.x _ _ rfl).trans ((show Xi T7 876 7 = Xi S 876 7 from w110.x _ _ rfl))))
              have w161 : Xi T10 890 3 = Xi S 890 3 := (show Xi T10 890 3 = Xi T9 890 3 from w155.x _ _ rfl).trans ( (show Xi T9 890 3 = Xi T8 890 3 from w138.x _ _ rfl).trans ( (show Xi T8 890 3 = Xi T7 890 3 from w124.x _ _ rfl).trans ((show Xi T7 890 3 = Xi S 890 3 from w110.x _ _ rfl))))
              exact ⟨hHT10, hFT10, _, rfl, ⟨by omega, by omega⟩, (by first | (have t := K203; exact tpy_4 Y124.o O124 R163 F163 o191 (fun q => absurd q (by omega)) (fun _ => ⟨by omega, Y203⟩)) | (have t := K191; exact tpy_4 Y124.o O124 R163 F163 o191 (fun _ => ⟨by omega, rfl, f191⟩) (fun q => absurd (by omega) q)) | (have t := K163; exact tpy_3 Y124.o O124 (W163.o.2 (by omega)).1 (by omega) ((W163.o.2 (by omega)).2 hf)) | (have t := K136; exact tpy_2 Y124.o O136 (by omega) Y136) | exact tpy_1 N122 (by omega) Y122)⟩
            · refine y_iconst rfl ?_
              refine y_goto rfl rfl ?_
              refine y_ireturn rfl rfl ?_
              have w162 : Xi T10 1 3 = Xi S 1 3 := (show Xi T10 1 3 = Xi T9 1 3 from w155.x _ _ rfl).trans ( (show Xi T9 1 3 = Xi T8 1 3 from w138.x _ _ rfl).trans ( (show Xi T8 1 3 = Xi T7 1 3 from w124.x _ _ rfl).trans ((show Xi T7 1 3 = Xi S 1 3 from w110.x _ _ rfl))))
              have w163 : Xi T10 876 5 = Xi S 876 5 := (show Xi T10 876 5 = Xi T9 876 5 from w155.x _ _ rfl).trans ( (show Xi T9 876 5 = Xi T8 876 5 from w138.x _ _ rfl).trans ( (show Xi T8 876 5 = Xi T7 876 5 from w124.x _ _ rfl).trans ((show Xi T7 876 5 = Xi S 876 5 from w110.x _ _ rfl))))
              have w164 : Xi T10 876 7 = Xi S 876 7 := (show Xi T10 876 7 = Xi T9 876 7 from w155.x _ _ rfl).trans ( (show Xi T9 876 7 = Xi T8 876 7 from w138.x _ _ rfl).trans ( (show Xi T8 876 7 = Xi T7 876 7 from w124.x _ _ rfl).trans ((show Xi T7 876 7 = Xi S 876 7 from w110.x _ _ rfl))))
              have w165 : Xi T10 890 3 = Xi S 890 3 := (show Xi T10 890 3 = Xi T9 890 3 from w155.x _ _ rfl).trans ( (show Xi T9 890 3 = Xi T8 890 3 from w138.x _ _ rfl).trans ( (show Xi T8 890 3 = Xi T7 890 3 from w124.x _ _ rfl).trans ((show Xi T7 890 3 = Xi S 890 3 from w110.x _ _ rfl))))
              exact ⟨hHT10, hFT10, _, rfl, ⟨by omega, by omega⟩, (by first | (have t := K203; exact tpy_4 Y124.o O124 R163 F163 o191 (fun q => absurd q (by omega)) (fun _ => ⟨by omega, Y203⟩)) | (have t := K191; exact tpy_4 Y124.o O124 R163 F163 o191 (fun _ => ⟨by omega, rfl, f191⟩) (fun q => absurd (by omega) q)) | (have t := K163; exact tpy_3 Y124.o O124 (W163.o.2 (by omega)).1 (by omega) ((W163.o.2 (by omega)).2 hf)) | (have t := K136; exact tpy_2 Y124.o O136 (by omega) Y136) | exact tpy_1 N122 (by omega) Y122)⟩
      · exfalso; omega
    · refine y_iconst rfl ?_
      have N122 : ¬ pOK S 1 (re7 (ty7 S) 1) (k9 S (bA (ty7 S) (re7 (ty7 S) 1 + 1)) (re7 (ty7 S) (bA (ty7 S) (re7 (ty7 S) 1 + 1)))) 0 := fun q => by have t := (O111.o.1 q).1; omega
      have Y122 : FTO S T7 4 1 := (O111.o.2 N122).2 hf
      refine y_ireturn rfl rfl ?_
      have w166 : Xi T7 1 3 = Xi S 1 3 := (show Xi T7 1 3 = Xi S 1 3 from w110.x _ _ rfl)
      have w167 : Xi T7 876 5 = Xi S 876 5 := (show Xi T7 876 5 = Xi S 876 5 from w110.x _ _ rfl)
      have w168 : Xi T7 876 7 = Xi S 876 7 := (show Xi T7 876 7 = Xi S 876 7 from w110.x _ _ rfl)
      have w169 : Xi T7 890 3 = Xi S 890 3 := (show Xi T7 890 3 = Xi S 890 3 from w110.x _ _ rfl)
      exact ⟨hHT7, hFT7, _, rfl, ⟨by omega, by omega⟩, (by first | (have t := K203; exact tpy_4 Y124.o O124 R163 F163 o191 (fun q => absurd q (by omega)) (fun _ => ⟨by omega, Y203⟩)) | (have t := K191; exact tpy_4 Y124.o O124 R163 F163 o191 (fun _ => ⟨by omega, rfl, f191⟩) (fun q => absurd (by omega) q)) | (have t := K163; exact tpy_3 Y124.o O124 (W163.o.2 (by omega)).1 (by omega) ((W163.o.2 (by omega)).2 hf)) | (have t := K136; exact tpy_2 Y124.o O136 (by omega) Y136) | exact tpy_1 N122 (by omega) Y122)⟩
end
