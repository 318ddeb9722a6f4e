section
/-! properties told (class) -/
def TPC (S S1 : sS) (z r p v l : Int) : Prop :=
  (Xi S (66 + r.toNat) p.toNat = 0 → z = 1 ∧ S1 = stP S r p v l) ∧
  (Xi S (66 + r.toNat) p.toNat ≠ 0 → Xi S 9 p.toNat = 1 → z = smT S (Xi S (107 + r.toNat) p.toNat) (Xi S (148 + r.toNat) p.toNat) v l ∧ S1 = S) ∧
  (Xi S (66 + r.toNat) p.toNat ≠ 0 → Xi S 9 p.toNat ≠ 1 → z = (if Xi S (107 + r.toNat) p.toNat = v then 1 else 0) ∧ S1 = S)
def T1C (S S1 : sS) (z r a p h : Int) : Prop := (p = -1 → TADC S S1 z r a h) ∧ (p ≠ -1 → TPC S S1 z r p a 0)
theorem TXT_st {S T : sS} {v n : Int} (h : TXT S v n) (e : T.2.2 20 1 = S.2.2 20 1) : TXT T v n := TXT_eq e h
theorem tx_p {S : sS} {r p v l : Int} (h : TX S) (t : TXT S v l) (hr : 0 ≤ r ∧ r ≤ 39) (hp : 0 ≤ p ∧ p ≤ 11) (rv : rg v) (rl : rg l) : TX (stP S r p v l) := by
  intro i j hi hj hk
  by_cases q : i = r.toNat ∧ j = p.toNat
  · obtain ⟨q1, q2⟩ := q
    subst q1; subst q2
    have e1 : Xi (stP S r p v l) (107 + r.toNat) p.toNat = v := by unfold stP; rw [Xi_ne (by omega)]; exact Xi_same rv
    have e2 : Xi (stP S r p v l) (148 + r.toNat) p.toNat = l := by unfold stP; exact Xi_same rl
    rw [e1, e2]
    exact TXT_st t rfl
  · have e0 : Xi (stP S r p v l) (66 + i) j = Xi S (66 + i) j := by unfold stP; rw [Xi_ne (by omega), Xi_ne (by omega), Xi_ne (by omega)]
    have e1 : Xi (stP S r p v l) (107 + i) j = Xi S (107 + i) j := by unfold stP; rw [Xi_ne (by omega), Xi_ne (by omega), Xi_ne (by omega)]
    have e2 : Xi (stP S r p v l) (148 + i) j = Xi S (148 + i) j := by unfold stP; rw [Xi_ne (by omega), Xi_ne (by omega), Xi_ne (by omega)]
    rw [e0] at hk
    rw [e1, e2]
    exact TXT_st (h i j hi hj hk) rfl
theorem tx_a {S : sS} {r a x : Int} (h : TX S) (hr : 0 ≤ r ∧ r ≤ 39) : TX (stAd S r a x) := by
  have key : ∀ T : sS, (∀ k j : Nat, 66 ≤ k → Xi T k j = Xi S k j) → T.2.2 20 1 = S.2.2 20 1 → TX T := fun T e e2 i j hi hj hk => by
    rw [e _ _ (by omega)] at hk
    rw [e _ _ (by omega), e _ _ (by omega)]
    exact TXT_st (h i j hi hj hk) e2
  refine key _ (fun k j hk => ?_) ?_
  · unfold stAd stA0
    split
    · rw [Xi_ne (by omega)]
    · rw [Xi_ne (by omega), Xi_ne (by omega)]
  · unfold stAd stA0
    split <;> rfl
theorem tpc_tx {S S1 : sS} {z r p v l : Int} (c : TPC S S1 z r p v l) (h : TX S) (t : TXT S v l) (hr : 0 ≤ r ∧ r ≤ 39) (hp : 0 ≤ p ∧ p ≤ 11) (rv : rg v) (rl : rg l) : TX S1 := by
  obtain ⟨a, b, d⟩ := c
  by_cases q : Xi S (66 + r.toNat) p.toNat = 0
  · rw [(a q).2]; exact tx_p h t hr hp rv rl
  · by_cases w : Xi S 9 p.toNat = 1
    · rw [(b q w).2]; exact h
    · rw [(d q w).2]; exact h
theorem tadc_tx {S S1 : sS} {z r a x : Int} (c : TADC S S1 z r a x) (h : TX S) (hr : 0 ≤ r ∧ r ≤ 39) : TX S1 := by
  obtain ⟨p, q⟩ := c
  by_cases w : Xi S (25 + r.toNat) a.toNat = (if x = 0 then 1 else -1)
  · rw [(p w).2]; exact h
  · rw [(q w).2]; exact tx_a h hr
/-- adjectives told one after the other -/
def ADC (S : sS) (o : Int) : Nat → sS → Prop
  | 0, V => V = S
  | n + 1, V => ∃ W : sS, ADC S o n W ∧ T1C W V 1 o (Xi S 896 n) (Xi S 897 n) 1
def TAC (S S1 : sS) (z o : Int) : Prop := (z = 1 → ADC S o (Xi S 895 14).toNat S1) ∧ (z = 0 → ∃ (i : Nat) (W : sS), (i : Int) < Xi S 895 14 ∧ ADC S o i W ∧ T1C W S1 0 o (Xi S 896 i) (Xi S 897 i) 1)

abbrev Q_wo_sameText__p (S : sS) (a : Int) (la : Int) (b : Int) (lb : Int) : pst := fun r S1 => S = S1 ∧ (∃ z : Int, r = some (iv z) ∧ (0 ≤ z ∧ z ≤ 1) ∧ (z = smT S a la b lb))
set_option maxRecDepth 100000 in
theorem t_wo_sameText__p {S : sS} (hH : RI S) (a : Int) (la : Int) (b : Int) (lb : Int) (ha : -2147483648 ≤ a ∧ a ≤ 2147483647) (hla : -2147483648 ≤ la ∧ la ≤ 2147483647) (hb : -2147483648 ≤ b ∧ b ≤ 2147483647) (hlb : -2147483648 ≤ lb ∧ lb ≤ 2147483647) (ha : TXT S a la) (hb : TXT S b lb) (d : Nat) : Mp lay0 (d + 1) m_wo_sameText [.ref 20, iv a, iv la, iv b, iv lb] S (Q_wo_sameText__p S a la b lb) := by
  refine Mp_R rfl rfl (fun fu => ?_)
  have hab : 0 < la → 0 ≤ a ∧ a + la ≤ 5000 := ha.b
  have hbb : 0 < lb → 0 ≤ b ∧ b + lb ≤ 5000 := hb.b
  have C11 : ∀ (n11 : Nat) (_ : n11 ≤ fu) (v5 : Int), (0 ≤ v5 ∧ v5 ≤ 5000) → (la = lb) → (smT S a la b lb = smn S (txr S) a b (la - v5).toNat v5) → Pl n11 lay0 (d + 0) m_wo_sameText 11 [(0, .ref 20), (1, iv a), (2, iv la), (3, iv b), (5, iv v5)] [] S (Q_wo_sameText__p S a la b lb) := by
    intro n11
    induction n11 with
    | zero => intros; exact Pl_0
    | succ n11 ih11 =>
      intro hm11 v5 w1 w2 hq
      refine ys_iload rfl rfl ?_
      refine y_iload_n rfl rfl ?_
      refine y_icmp_ge rfl rfl (by unfold rg; omega) (by unfold rg; omega) (fun w3 => ?_) (fun w4 => ?_)
      · refine y_iconst rfl ?_
        refine y_ireturn rfl rfl ?_
        exact ⟨rfl, _, rfl, ⟨by omega, by omega⟩, (by first | exact smT_n (by omega) | exact (hq.trans (smn_e (by omega))).symm | exact (hq.trans (smn_f (by omega) (by omega))).symm)⟩
      · refine y_aload_n rfl rfl ?_
        have w5 := txe (S := S) ha (by omega)
        have w5b : tp (txr S) := w5.2
        refine y_gfr rfl rfl rfl rfl rfl w5.1 ?_
        refine y_iload_n rfl rfl ?_
        refine y_iload rfl rfl ?_
        refine y_iadd rfl ?_
        refine y_baloadP (n := 5000) rfl (tp_sv (by assumption)) (lay_tp (by assumption)) (by decide) (by unfold rg; omega) (fun w6 w7 => ?_)
        have w8 : -2147483648 ≤ (Xi S (txr S) (((a + v5)).toNat)) ∧ (Xi S (txr S) (((a + v5)).toNat)) ≤ 2147483647 := Xi_rgI
        refine y_aload_n rfl rfl ?_
        have w9 := txe (S := S) ha (by omega)
        have w9b : tp (txr S) := w9.2
        refine y_gfr rfl rfl rfl rfl rfl w9.1 ?_
        refine y_iload_n rfl rfl ?_
        refine y_iload rfl rfl ?_
        refine y_iadd rfl ?_
        refine y_baloadP (n := 5000) rfl (tp_sv (by assumption)) (lay_tp (by assumption)) (by decide) (by unfold rg; omega) (fun w10 w11 => ?_)
        have w12 : -2147483648 ≤ (Xi S (txr S) (((b + v5)).toNat)) ∧ (Xi S (txr S) (((b + v5)).toNat)) ≤ 2147483647 := Xi_rgI
        refine y_icmp_eq rfl rfl (by unfold rg; omega) (by unfold rg; omega) (fun w13 => ?_) (fun w14 => ?_)
        · refine y_iinc rfl rfl rfl rfl ?_
          refine y_goto rfl rfl ?_
          exact Pl_weak (ih11 (by omega) ((v5 + 1)) (by omega) (by omega) (by first | exact smT_0 (by omega) | exact hq.trans (smn_s (by omega) (by omega)))) (by omega) (And.intro rfl (And.intro rfl (And.intro rfl (And.intro rfl (And.intro rfl (True.intro))))))
        · refine y_iconst rfl ?_
          refine y_ireturn rfl rfl ?_
          exact ⟨rfl, _, rfl, ⟨by omega, by omega⟩, (by first | exact smT_n (by omega) | exact (hq.trans (smn_e (by omega))).symm | exact (hq.trans (smn_f (by omega) (by omega))).symm)⟩
  refine y_iload_n rfl rfl ?_
  refine y_iload rfl rfl ?_
  refine y_icmp_eq rfl rfl (by unfold rg; omega) (by unfold rg; omega) (fun w15 => ?_) (fun w16 => ?_)
  · refine y_iconst rfl ?_
    refine y_istore rfl rfl rfl ?_
    exact Pl_weak (C11 fu (by omega) (0) (by omega) (by omega) (by first | exact smT_0 (by omega) | exact hq.trans (smn_s (by omega) (by omega)))) (by omega) (And.intro rfl (And.intro rfl (And.intro rfl (And.intro rfl (And.intro rfl (True.intro))))))
  · refine y_iconst rfl ?_
    refine y_ireturn rfl rfl ?_
    exact ⟨rfl, _, rfl, ⟨by omega, by omega⟩, (by first | exact smT_n (by omega) | exact (hq.trans (smn_e (by omega))).symm | exact (hq.trans (smn_f (by omega) (by omega))).symm)⟩
def md_wo_tellProperty__p : List rec := [(66, 106, 0, 100000), (107, 147, 0, 100000), (148, 188, 0, 100000)]
abbrev Q_wo_tellProperty__p (S : sS) (row : Int) (p : Int) (value : Int) (length : Int) : pst := fun r S1 => RI S1 ∧ FR md_wo_tellProperty__p S S1 ∧ (∃ z : Int, r = some (iv z) ∧ (0 ≤ z ∧ z ≤ 1) ∧ (TPC S S1 z row p value length))
set_option maxRecDepth 100000 in
theorem t_wo_tellProperty__p {S : sS} (hH : RI S) (row : Int) (p : Int) (value : Int) (length : Int) (hrow : 0 ≤ row ∧ row ≤ 39) (hp : 0 ≤ p ∧ p ≤ 11) (hvalue : -2147483648 ≤ value ∧ value ≤ 2147483647) (hlength : -2147483648 ≤ length ∧ length ≤ 2147483647) (hX : TX S) (ht : TXT S value length) (d : Nat) : Mp lay0 (d + 2) m_wo_tellProperty [.ref 20, iv row, iv p, iv value, iv length] S (Q_wo_tellProperty__p S row p value length) := by
  refine Mp_R rfl rfl (fun fu => ?_)
  have hF : FR md_wo_tellProperty__p S S := FR.rf
  refine y_aload_n rfl rfl ?_
  refine y_gfr rfl rfl rfl rfl rfl (hH.r 20 6 65 rfl) ?_
  refine y_iload_n rfl rfl ?_
  refine y_aaload (n := 40) (a := 66 + (row).toNat) rfl rfl (by decide) (by omega) (by omega) (by unfold rg; omega) (hH.rw 65 66 40 _ (by decide) (by omega)) ?_
  refine y_iload_n rfl rfl ?_
  refine y_ialoadP (n := 12) rfl (lay_66 (by omega)) (by unfold rg; omega) (fun w1 w2 => ?_)
  have w3 : -2147483648 ≤ (Xi S (66 + (row).toNat) ((p).toNat)) ∧ (Xi S (66 + (row).toNat) ((p).toNat)) ≤ 2147483647 := Xi_rgI
  refine y_if_eq rfl rfl (by unfold rg; omega) (fun w4 => ?_) (fun w5 => ?_)
  · refine y_aload_n rfl rfl ?_
    refine y_iload_n rfl rfl ?_
    refine y_iload_n rfl rfl ?_
    refine y_iload_n rfl rfl ?_
    refine y_iload rfl rfl ?_
    refine y_callV rfl rfl rfl (t_wo_setProperty__p hH row p value length ⟨by omega, by omega⟩ ⟨by omega, by omega⟩ ⟨by omega, by omega⟩ ⟨by omega, by omega⟩ _) ?_
    rintro _ T1 ⟨hHT1, w7, rfl, e74⟩
    have hFT1 : FR md_wo_tellProperty__p S T1 := FR.tr hF w7 rfl
    show Pl _ _ _ _ _ _ [] _ _
    have K74 : True := trivial
    refine y_iconst rfl ?_
    refine y_ireturn rfl rfl ?_
    exact ⟨hHT1, hFT1, _, rfl, ⟨by omega, by omega⟩, (by first | (have t := K74; exact ⟨fun _ => ⟨rfl, e74⟩, fun q => absurd (by omega) q, fun q => absurd (by omega) q⟩) | (have t := K44; exact ⟨fun q => absurd q (by omega), fun _ _ => ⟨q44, rfl⟩, fun _ q => absurd (by omega) q⟩) | exact ⟨fun q => absurd q (by omega), fun _ q => absurd q (by omega), fun _ _ => ⟨by first | (rw [if_pos (by omega)]) | (rw [if_neg (by omega)]), rfl⟩⟩)⟩
  · refine y_aload_n rfl rfl ?_
    refine y_gfr rfl rfl rfl rfl rfl (hH.r 20 0 1 rfl) ?_
    refine y_gfr rfl rfl rfl rfl rfl (hH.r 1 8 9 rfl) ?_
    refine y_iload_n rfl rfl ?_
    refine y_ialoadP (n := 12) rfl rfl (by unfold rg; omega) (fun w8 w9 => ?_)
    have w10 : -2147483648 ≤ (Xi S 9 ((p).toNat)) ∧ (Xi S 9 ((p).toNat)) ≤ 2147483647 := Xi_rgI
    refine y_iconst rfl ?_
    refine y_icmp_ne rfl rfl (by unfold rg; omega) (by unfold rg; omega) (fun w11 => ?_) (fun w12 => ?_)
    · refine y_aload_n rfl rfl ?_
      refine y_gfr rfl rfl rfl rfl rfl (hH.r 20 7 106 rfl) ?_
      refine y_iload_n rfl rfl ?_
      refine y_aaload (n := 40) (a := 107 + (row).toNat) rfl rfl (by decide) (by omega) (by omega) (by unfold rg; omega) (hH.rw 106 107 40 _ (by decide) (by omega)) ?_
      refine y_iload_n rfl rfl ?_
      refine y_ialoadP (n := 12) rfl (lay_107 (by omega)) (by unfold rg; omega) (fun w13 w14 => ?_)
      have w15 : -2147483648 ≤ (Xi S (107 + (row).toNat) ((p).toNat)) ∧ (Xi S (107 + (row).toNat) ((p).toNat)) ≤ 2147483647 := Xi_rgI
      refine y_iload_n rfl rfl ?_
      refine y_icmp_ne rfl rfl (by unfold rg; omega) (by unfold rg; omega) (fun w16 => ?_) (fun w17 => ?_)
      · refine y_iconst rfl ?_
        refine y_ireturn rfl rfl ?_
        exact ⟨hH, hF, _, rfl, ⟨by omega, by omega⟩, (by first | (have t := K74; exact ⟨fun _ => ⟨rfl, e74⟩, fun q => absurd (by omega) q, fun q => absurd (by omega) q⟩) | (have t := K44; exact ⟨fun q => absurd q (by omega), fun _ _ => ⟨q44, rfl⟩, fun _ q => absurd (by omega) q⟩) | exact ⟨fun q => absurd q (by omega), fun _ q => absurd q (by omega), fun _ _ => ⟨by first | (rw [if_pos (by omega)]) | (rw [if_neg (by omega)]), rfl⟩⟩)⟩
      · refine y_iconst rfl ?_
        refine y_goto rfl rfl ?_
        refine y_ireturn rfl rfl ?_
        exact ⟨hH, hF, _, rfl, ⟨by omega, by omega⟩, (by first | (have t := K74; exact ⟨fun _ => ⟨rfl, e74⟩, fun q => absurd (by omega) q, fun q => absurd (by omega) q⟩) | (have t := K44; exact ⟨fun q => absurd q (by omega), fun _ _ => ⟨q44, rfl⟩, fun _ q => absurd (by omega) q⟩) | exact ⟨fun q => absurd q (by omega), fun _ q => absurd q (by omega), fun _ _ => ⟨by first | (rw [if_pos (by omega)]) | (rw [if_neg (by omega)]), rfl⟩⟩)⟩
    · refine y_aload_n rfl rfl ?_
      refine y_aload_n rfl rfl ?_
      refine y_gfr rfl rfl rfl rfl rfl (hH.r 20 7 106 rfl) ?_
      refine y_iload_n rfl rfl ?_
      refine y_aaload (n := 40) (a := 107 + (row).toNat) rfl rfl (by decide) (by omega) (by omega) (by unfold rg; omega) (hH.rw 106 107 40 _ (by decide) (by omega)) ?_
      refine y_iload_n rfl rfl ?_
      refine y_ialoadP (n := 12) rfl (lay_107 (by omega)) (by unfold rg; omega) (fun w18 w19 => ?_)
      have w20 : -2147483648 ≤ (Xi S (107 + (row).toNat) ((p).toNat)) ∧ (Xi S (107 + (row).toNat) ((p).toNat)) ≤ 2147483647 := Xi_rgI
      refine y_aload_n rfl rfl ?_
      refine y_gfr rfl rfl rfl rfl rfl (hH.r 20 8 147 rfl) ?_
      refine y_iload_n rfl rfl ?_
      refine y_aaload (n := 40) (a := 148 + (row).toNat) rfl rfl (by decide) (by omega) (by omega) (by unfold rg; omega) (hH.rw 147 148 40 _ (by decide) (by omega)) ?_
      refine y_iload_n rfl rfl ?_
      refine y_ialoadP (n := 12) rfl (lay_148 (by omega)) (by unfold rg; omega) (fun w21 w22 => ?_)
      have w23 : -2147483648 ≤ (Xi S (148 + (row).toNat) ((p).toNat)) ∧ (Xi S (148 + (row).toNat) ((p).toNat)) ≤ 2147483647 := Xi_rgI
      refine y_iload_n rfl rfl ?_
      refine y_iload rfl rfl ?_
      refine y_callV rfl rfl rfl (t_wo_sameText__p hH (Xi S (107 + (row).toNat) ((p).toNat)) (Xi S (148 + (row).toNat) ((p).toNat)) value length ⟨by omega, by omega⟩ ⟨by omega, by omega⟩ ⟨by omega, by omega⟩ ⟨by omega, by omega⟩ (hX row.toNat p.toNat (by omega) (by omega) (by omega)) (ht) _) ?_
      rintro _ _ ⟨rfl, z24, rfl, w24, q44⟩
      show Pl _ _ _ _ _ _ [iv z24] _ _
      have K44 : True := trivial
      refine y_goto rfl rfl ?_
      refine y_ireturn rfl (retI_z (by omega)) ?_
      exact ⟨hH, hF, _, rfl, ⟨by omega, by omega⟩, (by first | (have t := K74; exact ⟨fun _ => ⟨rfl, e74⟩, fun q => absurd (by omega) q, fun q => absurd (by omega) q⟩) | (have t := K44; exact ⟨fun q => absurd q (by omega), fun _ _ => ⟨q44, rfl⟩, fun _ q => absurd (by omega) q⟩) | exact ⟨fun q => absurd q (by omega), fun _ q => absurd q (by omega), fun _ _ => ⟨by first | (rw [if_pos (by omega)]) | (rw [if_neg (by omega)]), rfl⟩⟩)⟩
def md_re_tellOne__p : List rec := [(25, 65, 0, 100000), (66, 106, 0, 100000), (107, 147, 0, 100000), (148, 188, 0, 100000)]
abbrev Q_re_tellOne__p (S : sS) (row : Int) (met : Int) (property : Int) (holds : Int) : pst := fun r S1 => RI S1 ∧ FR md_re_tellOne__p S S1 ∧ (∃ z : Int, r = some (iv z) ∧ (0 ≤ z ∧ z ≤ 1) ∧ (T1C S S1 z row met property holds) ∧ (TX S1))
set_option maxRecDepth 100000 in
theorem t_re_tellOne__p {S : sS} (hH : RI S) (row : Int) (met : Int) (property : Int) (holds : Int) (hrow : 0 ≤ row ∧ row ≤ 39) (hmet : -2147483648 ≤ met ∧ met ≤ 2147483647) (hproperty : -1 ≤ property ∧ property ≤ 11) (hholds : 0 ≤ holds ∧ holds ≤ 1) (hX : TX S) (d : Nat) : Mp lay0 (d + 3) m_re_tellOne [.ref 891, iv row, iv met, iv property, iv holds] S (Q_re_tellOne__p S row met property holds) := by
  refine Mp_R rfl rfl (fun fu => ?_)
  have hF : FR md_re_tellOne__p S S := FR.rf
  refine y_iload_n rfl rfl ?_
  refine y_iconst rfl ?_
  refine y_icmp_ne rfl rfl (by unfold rg; omega) (by unfold rg; omega) (fun w1 => ?_) (fun w2 => ?_)
  · refine y_aload_n rfl rfl ?_
    refine y_gfr rfl rfl rfl rfl rfl (hH.r 891 3 20 rfl) ?_
    refine y_iload_n rfl rfl ?_
    refine y_iload_n rfl rfl ?_
    refine y_iload_n rfl rfl ?_
    refine y_iconst rfl ?_
    refine y_callV rfl rfl rfl (t_wo_tellProperty__p hH row property met 0 ⟨by omega, by omega⟩ ⟨by omega, by omega⟩ ⟨by omega, by omega⟩ ⟨by omega, by omega⟩ (by first | assumption | exact (by first | assumption | exact (by assumption : WI S).2.1 : TX S)) (Or.inl (by omega)) _) ?_
    rintro _ T1 ⟨hHT1, w4, z3, rfl, w3, o27⟩
    have hFT1 : FR md_re_tellOne__p S T1 := FR.tr hF w4 rfl
    show Pl _ _ _ _ _ _ [iv z3] _ _
    refine y_ireturn rfl (retI_z (by omega)) ?_
    exact ⟨hHT1, hFT1, _, rfl, ⟨by omega, by omega⟩, (by first | (have t := K13; exact ⟨fun _ => e13, fun q => absurd (by omega) q⟩) | exact ⟨fun q => absurd q (by omega), fun _ => o27⟩), (by first | (have t := K13; exact tadc_tx e13 hX (by omega)) | exact tpc_tx o27 hX (Or.inl (by omega)) (by omega) (by omega) (by unfold rg; omega) (by unfold rg; omega))⟩
  · refine y_aload_n rfl rfl ?_
    refine y_gfr rfl rfl rfl rfl rfl (hH.r 891 3 20 rfl) ?_
    refine y_iload_n rfl rfl ?_
    refine y_iload_n rfl rfl ?_
    refine y_iload rfl rfl ?_
    refine y_callV rfl rfl rfl (t_wo_tellAdjective__p hH row met holds ⟨by omega, by omega⟩ ⟨by omega, by omega⟩ ⟨by omega, by omega⟩ _) ?_
    rintro _ T2 ⟨hHT2, w6, z5, rfl, w5, e13⟩
    have hFT2 : FR md_re_tellOne__p S T2 := FR.tr hF w6 rfl
    show Pl _ _ _ _ _ _ [iv z5] _ _
    have K13 : True := trivial
    refine y_goto rfl rfl ?_
    refine y_ireturn rfl (retI_z (by omega)) ?_
    exact ⟨hHT2, hFT2, _, rfl, ⟨by omega, by omega⟩, (by first | (have t := K13; exact ⟨fun _ => e13, fun q => absurd (by omega) q⟩) | exact ⟨fun q => absurd q (by omega), fun _ => o27⟩), (by first | (have t := K13; exact tadc_tx e13 hX (by omega)) | exact tpc_tx o27 hX (Or.inl (by omega)) (by omega) (by omega) (by unfold rg; omega) (by unfold rg; omega))⟩
def md_re_tellAdjectives__p : List rec := [(25, 65, 0, 100000), (66, 106, 0, 100000), (107, 147, 0, 100000), (148, 188, 0, 100000)]
abbrev Q_re_tellAdjectives__p (S : sS) (o : Int) : pst := fun r S1 => RI S1 ∧ FR md_re_tellAdjectives__p S S1 ∧ (∃ z : Int, r = some (iv z) ∧ (0 ≤ z ∧ z ≤ 1) ∧ (TAC S S1 z o) ∧ (TX S1))
set_option maxRecDepth 100000 in
theorem t_re_tellAdjectives__p {S : sS} (hH : RI S) (o : Int) (ho : 0 ≤ o ∧ o ≤ 39) (hX : TX S) (hn : 0 ≤ Xi S 895 14 ∧ Xi S 895 14 ≤ 6) (hpr : Hid (∀ i : Nat, (i : Int) < Xi S 895 14 → -1 ≤ Xi S 897 i ∧ Xi S 897 i ≤ 11)) (d : Nat) : Mp lay0 (d + 4) m_re_tellAdjectives [.ref 891, iv o] S (Q_re_tellAdjectives__p S o) := by
  refine Mp_R rfl rfl (fun fu => ?_)
  have hF : FR md_re_tellAdjectives__p S S := FR.rf
  have w1 : -2147483648 ≤ Xi S 895 14 ∧ Xi S 895 14 ≤ 2147483647 := Xi_rgI
  have C2 : ∀ (n2 : Nat) (_ : n2 ≤ fu) (T1 : sS) (_ : RI T1) (_ : FR md_re_tellAdjectives__p S T1) (v2 : Int), (0 ≤ v2 ∧ v2 ≤ 6) → (0 ≤ v2 ∧ v2 ≤ Xi S 895 14) → (Hid (ADC S o (v2).toNat T1)) → (TX T1) → (Xi T1 895 14 = Xi S 895 14) → Pl n2 lay0 (d + 3) m_re_tellAdjectives 2 [(0, .ref 891), (1, iv o), (2, iv v2)] [] T1 (Q_re_tellAdjectives__p S o) := by
    intro n2
    induction n2 with
    | zero => intros; exact Pl_0
    | succ n2 ih2 =>
      intro hm2 T1 hHT1 hFT1 v2 w2 w3 A2 X2 w4
      have w5 : Xi T1 895 14 = Xi S 895 14 := hFT1.x _ _ rfl
      have w6 : -2147483648 ≤ Xi T1 895 14 ∧ Xi T1 895 14 ≤ 2147483647 := Xi_rgI
      refine ys_iload_n rfl rfl ?_
      refine y_aload_n rfl rfl ?_
      refine y_gfr rfl rfl rfl rfl rfl (hHT1.r 891 4 895 rfl) ?_
      refine y_gfi rfl rfl rfl rfl rfl ?_
      refine y_icmp_ge rfl rfl (by unfold rg; omega) (by unfold rg; omega) (fun w7 => ?_) (fun w8 => ?_)
      · refine y_iconst rfl ?_
        refine y_ireturn rfl rfl ?_
        exact ⟨hHT1, hFT1, _, rfl, ⟨by omega, by omega⟩, (by first | (have t := K40; exact ⟨fun q => absurd q (by omega), fun _ => ⟨v2.toNat, _, by omega, A2.o, R40⟩⟩) | exact ⟨fun _ => by have t := A2.o; rw [show (v2).toNat = (Xi S 895 14).toNat by omega] at t; exact t, fun q => absurd q (by omega)⟩), (by first | (have t := K40; exact x34) | exact X2)⟩
      · refine y_aload_n rfl rfl ?_
        have p13 := hpr.o v2.toNat (by omega)
        have f13 : Xi T1 896 v2.toNat = Xi S 896 v2.toNat ∧ Xi T1 897 v2.toNat = Xi S 897 v2.toNat := ⟨(hFT1.cx 896 rfl _).1, (hFT1.cx 897 rfl _).1⟩
        refine y_iload_n rfl rfl ?_
        refine y_aload_n rfl rfl ?_
        refine y_gfr rfl rfl rfl rfl rfl (hHT1.r 891 4 895 rfl) ?_
        refine y_gfr rfl rfl rfl rfl rfl (hHT1.r 895 15 896 rfl) ?_
        refine y_iload_n rfl rfl ?_
        refine y_ialoadP (n := 5) rfl rfl (by unfold rg; omega) (fun w9 w10 => ?_)
        have w11 : -2147483648 ≤ (Xi T1 896 ((v2).toNat)) ∧ (Xi T1 896 ((v2).toNat)) ≤ 2147483647 := Xi_rgI
        refine y_aload_n rfl rfl ?_
        refine y_gfr rfl rfl rfl rfl rfl (hHT1.r 891 4 895 rfl) ?_
        refine y_gfr rfl rfl rfl rfl rfl (hHT1.r 895 16 897 rfl) ?_
        refine y_iload_n rfl rfl ?_
        refine y_ialoadP (n := 5) rfl rfl (by unfold rg; omega) (fun w12 w13 => ?_)
        have w14 : -2147483648 ≤ (Xi T1 897 ((v2).toNat)) ∧ (Xi T1 897 ((v2).toNat)) ≤ 2147483647 := Xi_rgI
        refine y_iconst rfl ?_
        refine y_callV rfl rfl rfl (t_re_tellOne__p hHT1 o (Xi T1 896 ((v2).toNat)) (Xi T1 897 ((v2).toNat)) 1 ⟨by omega, by omega⟩ ⟨by omega, by omega⟩ ⟨by omega, by omega⟩ ⟨by omega, by omega⟩ (by first | assumption | exact (by first | assumption | exact (by assumption : WI T1).2.1 : TX T1)) _) ?_
        rintro _ T2 ⟨hHT2, w16, z15, rfl, w15, o34, x34⟩
        have hFT2 : FR md_re_tellAdjectives__p S T2 := FR.tr hFT1 w16 rfl
        show Pl _ _ _ _ _ _ [iv z15] _ _
        have K34 : True := trivial
        have O34 : Hid (T1C T1 T2 z15 o (Xi S 896 v2.toNat) (Xi S 897 v2.toNat) 1) := by have t := o34; rw [f13.1, f13.2] at t; exact t
        clear o34
        obtain ⟨zz, hzz⟩ : ∃ w : Int, w = z15 := ⟨_, rfl⟩
        refine y_if_ne rfl rfl (by unfold rg; omega) (fun w17 => ?_) (fun w18 => ?_)
        · refine y_iinc rfl rfl rfl rfl ?_
          have A42 : Hid (ADC S o (v2.toNat + 1) T2) := ⟨_, A2.o, by have t := O34.o; rw [← hzz, show zz = 1 by omega] at t; exact t⟩
          refine y_goto rfl rfl ?_
          have w19 : Xi T2 895 14 = Xi T1 895 14 := (show Xi T2 895 14 = Xi T1 895 14 from w16.x _ _ rfl)
          exact Pl_weak (ih2 (by omega) T2 hHT2 hFT2 ((v2 + 1)) (by omega) (by omega) (by first | (have t := K34; rw [show (v2 + 1).toNat = v2.toNat + 1 by omega]; exact A42) | rfl) (by first | (have t := K34; exact x34) | exact hX) (by omega)) (by omega) (And.intro rfl (And.intro rfl (And.intro rfl (True.intro))))
        · refine y_iconst rfl ?_
          have K40 : True := trivial
          have R40 : T1C T1 T2 0 o (Xi S 896 v2.toNat) (Xi S 897 v2.toNat) 1 := by have t := O34.o; rw [← hzz, show zz = 0 by omega] at t; exact t
          refine y_ireturn rfl rfl ?_
          have w20 : Xi T2 895 14 = Xi T1 895 14 := (show Xi T2 895 14 = Xi T1 895 14 from w16.x _ _ rfl)
          exact ⟨hHT2, hFT2, _, rfl, ⟨by omega, by omega⟩, (by first | (have t := K40; exact ⟨fun q => absurd q (by omega), fun _ => ⟨v2.toNat, _, by omega, A2.o, R40⟩⟩) | exact ⟨fun _ => by have t := A2.o; rw [show (v2).toNat = (Xi S 895 14).toNat by omega] at t; exact t, fun q => absurd q (by omega)⟩), (by first | (have t := K40; exact x34) | exact X2)⟩
  refine y_iconst rfl ?_
  refine y_istore_n rfl rfl rfl ?_
  exact Pl_weak (C2 fu (by omega) S hH hF (0) (by omega) (by omega) (by first | (have t := K34; rw [show (v2 + 1).toNat = v2.toNat + 1 by omega]; exact A42) | rfl) (by first | (have t := K34; exact x34) | exact hX) (by omega)) (by omega) (And.intro rfl (And.intro rfl (And.intro rfl (True.intro))))
end
section
/-! LISTS of objects, or new ones (class) -/
def mI (S : sS) (i : Nat) : Int := mnV S (kr7 (ty7 S) i) (re7 (ty7 S) (kr7 (ty7 S) i))
def nwn (S : sS) : Nat → Nat
  | 0 => 0
  | n + 1 => nwn S n + (if mI S n = -1 then 1 else 0)
def NWI (S : sS) (i : Nat) : Prop := mI S i = -1 ∧ re7 (ty7 S) (kr7 (ty7 S) i) - kr7 (ty7 S) i ≤ 3 ∧ ∀ j : Nat, j < i → mI S j = -1 → ¬ alC S (kr7 (ty7 S) j) (re7 (ty7 S) (kr7 (ty7 S) j)) (kr7 (ty7 S) i) (re7 (ty7 S) (kr7 (ty7 S) i))
def fI (S : sS) (i : Nat) : Int := fnd S 2 (kr7 (ty7 S) i) (re7 (ty7 S) (kr7 (ty7 S) i))
def OKI (S : sS) (i : Nat) : Prop := (mI S i ≠ -1 ∧ fI S i ≠ -1) ∨ (NWI S i ∧ Xi S 5 2 + nwn S i < 24)
def LOO (S : sS) (n : Nat) : Prop := ∀ i : Nat, i < n → OKI S i
def LNO (S U : sS) (n : Nat) : Prop := Xi U 891 9 = nwn S n ∧ ∀ i : Nat, i < n → mI S i = -1 → Xi U 892 (nwn S i) = kr7 (ty7 S) i ∧ Xi U 893 (nwn S i) = re7 (ty7 S) (kr7 (ty7 S) i)
def TLO (S S1 : sS) (z : Int) (N : Nat) : Prop := ∀ k : Nat, k < N → LOO S k → (mI S k ≠ -1 → fI S k = -1 → z = 0 ∧ FTO S S1 4 (kr7 (ty7 S) k)) ∧ (mI S k = -1 → ¬ NWI S k → z = 0 ∧ FTO S S1 3 (kr7 (ty7 S) k)) ∧ (NWI S k → 24 ≤ Xi S 5 2 + nwn S k → z = 0 ∧ FTO S S1 9 (kr7 (ty7 S) k))
theorem nwn_m {S : sS} {a b : Nat} (h : a ≤ b) : nwn S a ≤ nwn S b := by
  induction b with
  | zero => rw [show a = 0 by omega]; exact Nat.le_refl _
  | succ b ih =>
    by_cases q : a ≤ b
    · exact Nat.le_trans (ih q) (Nat.le_add_right _ _)
    · rw [show a = b + 1 by omega]; exact Nat.le_refl _
theorem nwn_y {S : sS} {n : Nat} (h : mI S n = -1) : nwn S (n + 1) = nwn S n + 1 := by show nwn S n + (if mI S n = -1 then 1 else 0) = _; rw [if_pos h]
theorem nwn_n {S : sS} {n : Nat} (h : mI S n ≠ -1) : nwn S (n + 1) = nwn S n := by show nwn S n + (if mI S n = -1 then 1 else 0) = _; rw [if_neg h]; rfl
theorem nwn_i {S : sS} : ∀ (n k : Nat), k < nwn S n → ∃ j : Nat, j < n ∧ mI S j = -1 ∧ nwn S j = k
  | 0, k, h => absurd h (Nat.not_lt_zero _)
  | n + 1, k, h => by
    by_cases q : mI S n = -1
    · rw [nwn_y q] at h
      by_cases w : k < nwn S n
      · obtain ⟨j, a, b⟩ := nwn_i n k w
        exact ⟨j, by omega, b⟩
      · exact ⟨n, by omega, q, by omega⟩
    · rw [nwn_n q] at h
      obtain ⟨j, a, b⟩ := nwn_i n k h
      exact ⟨j, by omega, b⟩
theorem nwi_of {S U : sS} {n : Nat} {a b : Int} (h : SMV S U) (l : LNO S U n) (ha : a = kr7 (ty7 S) n) (hb : b = re7 (ty7 S) (kr7 (ty7 S) n)) : nwC U a b ↔ NWI S n := by
  unfold nwC NWI WNC
  rw [mnV_eq h, l.1, ha, hb]
  constructor
  · rintro ⟨h1, h2, h3⟩
    refine ⟨h1, h2, fun j hj mj w => h3 ⟨nwn S j, ?_, ?_⟩⟩
    · have t := nwn_m (S := S) (a := j + 1) (b := n) (by omega)
      rw [nwn_y mj] at t
      omega
    · rw [(l.2 j hj mj).1, (l.2 j hj mj).2, alC_eq h]
      exact w
  · rintro ⟨h1, h2, h3⟩
    refine ⟨h1, h2, fun ⟨k, hk, w⟩ => ?_⟩
    obtain ⟨j, j1, j2, j3⟩ := nwn_i (S := S) n k (by omega)
    rw [← j3, (l.2 j j1 j2).1, (l.2 j j1 j2).2, alC_eq h] at w
    exact h3 j j1 j2 w
theorem lno_y {S U V : sS} {n : Nat} {a b : Int} (l : LNO S U n) (m : mI S n = -1) (ha : a = kr7 (ty7 S) n) (hb : b = re7 (ty7 S) (kr7 (ty7 S) n)) (r : Xi V 891 9 = Xi U 891 9 + 1 ∧ Xi V 892 (Xi U 891 9).toNat = a ∧ Xi V 893 (Xi U 891 9).toNat = b ∧ ∀ j : Nat, (j : Int) < Xi U 891 9 → Xi V 892 j = Xi U 892 j ∧ Xi V 893 j = Xi U 893 j) : LNO S V (n + 1) := by
  obtain ⟨r1, r2, r3, r4⟩ := r
  rw [l.1] at r1 r2 r3 r4
  rw [show ((nwn S n : Nat) : Int).toNat = nwn S n by omega] at r2 r3
  refine ⟨by rw [r1, nwn_y m]; omega, fun i hi mi => ?_⟩
  by_cases q : i = n
  · rw [q]; exact ⟨r2.trans ha, r3.trans hb⟩
  · have t := nwn_m (S := S) (a := i + 1) (b := n) (by omega)
    rw [nwn_y mi] at t
    obtain ⟨w1, w2⟩ := r4 (nwn S i) (by omega)
    rw [w1, w2]
    exact l.2 i (by omega) mi
theorem lno_n {S U : sS} {n : Nat} (l : LNO S U n) (m : mI S n ≠ -1) : LNO S U (n + 1) := ⟨by rw [nwn_n m]; exact l.1, fun i hi mi => l.2 i (by by_cases q : i = n; (rw [q] at mi; exact absurd mi m); omega) mi⟩
def LSO (S U : sS) (n : Nat) : Prop := LNO S U n ∧ NRB U ∧ Xi U 876 8 = 0 ∧ (∀ k j : Nat, k < 876 → Xi U k j = Xi S k j) ∧ (∀ k j : Nat, (k < 876 ∨ (877 ≤ k ∧ k < 890)) → Xj U k j = Xj S k j) ∧ (Xi U 876 7 = Xi S 876 7 ∧ Xi U 876 5 = Xi S 876 5 ∧ Xi U 890 3 = Xi S 890 3) ∧ ∀ k j : Nat, 877 ≤ k → k < 890 → Xi U k j = Xi S k j
theorem lso_0 {S : sS} (h9 : Xi S 891 9 = 0) (hb : NRB S) (hf : Xi S 876 8 = 0) : LSO S S 0 :=
  ⟨⟨h9, fun i hi => by omega⟩, hb, hf, fun _ _ _ => rfl, fun _ _ _ => rfl, ⟨rfl, rfl, rfl⟩, fun _ _ _ _ => rfl⟩
theorem LSO.v {S U : sS} {n : Nat} (h : LSO S U n) : SMV S U := ⟨h.2.2.2.1 1 3 (by omega), fun j => h.2.2.2.2.1 2 j (by omega), fun j => h.2.2.2.1 3 j (by omega), fun j => h.2.2.2.1 4 j (by omega), fun j => h.2.2.2.2.1 879 j (by omega)⟩
theorem LSO.t {S U : sS} {n : Nat} (h : LSO S U n) : ty7 U = ty7 S := funext fun i => by
  unfold ty7
  rw [h.2.2.2.2.2.1.1, h.2.2.2.2.2.2 877 _ (by omega) (by omega)]
theorem LSO.p {S U : sS} {n : Nat} (h : LSO S U n) (r : Int) : pc7 U r = pc7 S r := by
  unfold pc7
  rw [h.2.2.2.2.2.1.1, h.2.2.2.2.2.1.2.1, h.2.2.2.2.2.2 878 _ (by omega) (by omega)]
theorem LSO.c {S U : sS} {n : Nat} (h : LSO S U n) (c : CEN S) : CEN U := fun i hi => by
  rw [h.2.2.2.1 1 3 (by omega)] at hi
  rw [h.2.2.2.1 3 i (by omega), h.2.2.2.1 4 i (by omega)]
  exact c i hi
theorem lso_n {S U : sS} {v : Int} (g : LSO S U (cR (ty7 S) v.toNat)) (l : LOO S (cR (ty7 S) v.toNat)) (hb : ¬ bg7 (ty7 U) v) (hv : 0 ≤ v) : LSO S U (cR (ty7 S) (v + 1).toNat) ∧ LOO S (cR (ty7 S) (v + 1).toNat) := by
  rw [g.t] at hb
  rw [cR_n hv hb]
  exact ⟨g, l⟩
theorem loo_s {S : sS} {n : Nat} (l : LOO S n) (h : OKI S n) : LOO S (n + 1) := fun i hi => by
  by_cases q : i = n
  · rw [q]; exact h
  · exact l i (by omega)
/-- one name more -/
theorem lso_t {S U V : sS} {v z : Int} {l1 : List rec} {N : Nat} (g : LSO S U (cR (ty7 S) v.toNat)) (l : LOO S (cR (ty7 S) v.toNat)) (hb : bg7 (ty7 U) v) (hv : 0 ≤ v ∧ v ≤ 5130) (hr : Xi S 876 7 ≤ 5130) (F : FR l1 U V) (o : TON U V z v (re7 (ty7 U) v) (-1)) (nb : z = 1 → NRB V) (hz : z = 0 ∨ z = 1) (a1 : kdis l1 [(0, 876), (877, 891), (894, 904)] = true := by rfl) (a2 : mdf l1 876 7 = false := by rfl) (a3 : mdf l1 876 5 = false := by rfl) : (z = 1 → LSO S V (cR (ty7 S) (v + 1).toNat) ∧ LOO S (cR (ty7 S) (v + 1).toNat)) ∧ (z = 0 → TLO S V 0 N ∧ (cR (ty7 S) v.toNat < N → ¬ LOO S N)) := by
  rw [g.t] at hb o
  have k := cR_b (ty_nf hr) (by omega) hv.1 (by omega) hb
  have w := nwi_of g.v g.1 k.symm (by rw [k])
  have em : mnV U v (re7 (ty7 S) v) = mI S (cR (ty7 S) v.toNat) := by unfold mI; rw [k, mnV_eq g.v]
  have ef : fnd U 2 v (re7 (ty7 S) v) = fI S (cR (ty7 S) v.toNat) := by unfold fI; rw [k, fnd_eq g.v]
  have e5 : Xi U 5 2 = Xi S 5 2 := g.2.2.2.1 5 2 (by omega)
  have n9 : Xi U 891 9 = nwn S (cR (ty7 S) v.toNat) := g.1.1
  have ok : OKA U v (re7 (ty7 S) v) (-1) ↔ fI S (cR (ty7 S) v.toNat) ≠ -1 := by unfold OKA; rw [ef]; exact ⟨fun q => q.1, fun q => ⟨q, Or.inl rfl⟩⟩
  obtain ⟨o1, o2, o3, o4, o5⟩ := o
  rw [em] at o1 o2 o3 o4 o5
  rw [w, e5, n9] at o2 o3
  rw [w] at o1
  rw [ok] at o4 o5
  have mm := F.smk a1
  refine ⟨fun hz1 => ?_, fun hz0 => ?_⟩
  · rw [cR_y hv.1 hb]
    by_cases q : mI S (cR (ty7 S) v.toNat) = -1
    · by_cases x : NWI S (cR (ty7 S) v.toNat)
      · by_cases y : 24 ≤ Xi S 5 2 + nwn S (cR (ty7 S) v.toNat)
        · have t := (o2 q x y).1; omega
        · have r := (o3 q x (by omega)).2
          obtain ⟨g1, g2, g3, g4, g5, g6, g7⟩ := g
          refine ⟨⟨lno_y g1 q k.symm (by rw [k]) r.2, nb hz1, r.1, fun i j hi => (mm.x i (ink_a hi) j).trans (g4 i j hi), fun i j hi => ?_, ⟨(F.x 876 7 a2).trans g6.1, (F.x 876 5 a3).trans g6.2.1, (mm.x 890 (ink_b (by omega) (by omega)) 3).trans g6.2.2⟩, fun i j h1 h2 => (mm.x i (ink_b h1 (by omega)) j).trans (g7 i j h1 h2)⟩, loo_s l (Or.inr ⟨x, by omega⟩)⟩
          rcases hi with u | u
          · exact (mm.xj i (ink_a u) j).trans (g5 i j (Or.inl u))
          · exact (mm.xj i (ink_b u.1 (by omega)) j).trans (g5 i j (Or.inr u))
      · have t := (o1 q x).1; omega
    · by_cases x : fI S (cR (ty7 S) v.toNat) = -1
      · have t := (o5 q (fun y => y x)).1; omega
      · have e := (o4 q x).2
        subst e
        obtain ⟨g1, g2⟩ := g
        exact ⟨⟨lno_n g1 q, g2⟩, loo_s l (Or.inl ⟨q, x⟩)⟩
  · have nk : ¬ OKI S (cR (ty7 S) v.toNat) := fun q => by
      rcases q with ⟨q1, q2⟩ | ⟨q1, q2⟩
      · have t := (o4 q1 q2).1; omega
      · have t := (o3 q1.1 q1 q2).1; omega
    refine ⟨fun i hi li => ?_, fun hN q => nk (q _ hN)⟩
    by_cases q : i < cR (ty7 S) v.toNat
    · rcases l i q with ⟨x1, x2⟩ | ⟨x1, x2⟩
      · exact ⟨fun _ y => absurd y x2, fun y => absurd y x1, fun y => absurd y.1 x1⟩
      · exact ⟨fun y => absurd x1.1 y, fun _ y => absurd x1 y, fun _ y => by omega⟩
    · by_cases e : i = cR (ty7 S) v.toNat
      · rw [e, k]
        refine ⟨fun x y => ⟨rfl, fto_p (o5 x (fun z => z y)).2 g.p⟩, fun x y => ⟨rfl, fto_p (o1 x y).2 g.p⟩, fun x y => ⟨rfl, fto_p (o2 x.1 x (by omega)).2 g.p⟩⟩
      · exact absurd (li _ (by omega)) nk
theorem tlo_y {S S1 : sS} {z : Int} {N : Nat} (l : LOO S N) : TLO S S1 z N := fun i hi _ => by
  rcases l i hi with ⟨x1, x2⟩ | ⟨x1, x2⟩
  · exact ⟨fun _ y => absurd y x2, fun y => absurd y x1, fun y => absurd y.1 x1⟩
  · exact ⟨fun y => absurd x1.1 y, fun _ y => absurd x1 y, fun _ y => by omega⟩
def TOB (S S1 : sS) (z : Int) : Prop := TLO S S1 z (nL S) ∧ (LOO S (nL S) → z = 1 ∧ LSO S S1 (nL S)) ∧ (z = 1 → LOO S (nL S))
theorem loo_b {S : sS} {n : Nat} (l : LOO S n) : (nwn S n : Int) ≤ 24 - Xi S 5 2 ∨ nwn S n = 0 := by
  induction n with
  | zero => exact Or.inr rfl
  | succ n ih =>
    have i := ih (fun j hj => l j (by omega))
    by_cases q : mI S n = -1
    · rw [nwn_y q]
      rcases l n (by omega) with ⟨x1, x2⟩ | ⟨x1, x2⟩
      · exact absurd q x1
      · left; omega
    · rw [nwn_n q]; exact i

def md_re_takeObjects__p : List rec := [(876, 877, 8, 9), (876, 877, 9, 10), (891, 892, 9, 10), (892, 893, 0, 100000), (893, 894, 0, 100000)]
abbrev Q_re_takeObjects__p (S : sS) : pst := fun r S1 => RI S1 ∧ FR md_re_takeObjects__p S S1 ∧ (∃ z : Int, r = some (iv z) ∧ (0 ≤ z ∧ z ≤ 1) ∧ (TOB S S1 z))
set_option maxRecDepth 100000 in
theorem t_re_takeObjects__p {S : sS} (hH : RI S) (h13 : 0 ≤ Xi S 1 3 ∧ Xi S 1 3 ≤ 200) (hCE : CEN S) (hNB : NRB S) (hf : Xi S 876 8 = 0) (hr : Xi S 876 7 ≤ 5130) (ht : 0 ≤ Xi S 890 3 ∧ Xi S 890 3 ≤ 5125) (hn0 : Xi S 891 9 = 0) (hc : 0 ≤ Xi S 5 2 ∧ Xi S 5 2 ≤ 24) (d : Nat) : Mp lay0 (d + 4) m_re_takeObjects [.ref 891] S (Q_re_takeObjects__p S) := by
  refine Mp_R rfl rfl (fun fu => ?_)
  have hF : FR md_re_takeObjects__p S S := FR.rf
  have w1 : -2147483648 ≤ Xi S 1 3 ∧ Xi S 1 3 ≤ 2147483647 := Xi_rgI
  have w2 : -2147483648 ≤ Xi S 5 2 ∧ Xi S 5 2 ≤ 2147483647 := Xi_rgI
  have w3 : -2147483648 ≤ Xi S 876 7 ∧ Xi S 876 7 ≤ 2147483647 := Xi_rgI
  have w4 : -2147483648 ≤ Xi S 876 8 ∧ Xi S 876 8 ≤ 2147483647 := Xi_rgI
  have w5 : -2147483648 ≤ Xi S 890 3 ∧ Xi S 890 3 ≤ 2147483647 := Xi_rgI
  have w6 : -2147483648 ≤ Xi S 891 9 ∧ Xi S 891 9 ≤ 2147483647 := Xi_rgI
  have C2 : ∀ (n2 : Nat) (_ : n2 ≤ fu) (T1 : sS) (_ : RI T1) (_ : FR md_re_takeObjects__p S T1) (v1 : Int), (0 ≤ v1 ∧ v1 ≤ 5125) → (0 ≤ v1 ∧ v1 ≤ Xi S 890 3) → (Hid (LSO S T1 (cR (ty7 S) (v1).toNat))) → (Hid (LOO S (cR (ty7 S) (v1).toNat))) → (Xi T1 876 8 = 0) → (Xi T1 5 2 = Xi S 5 2) → (Xi T1 890 3 = Xi S 890 3) → (Xi T1 876 7 = Xi S 876 7) → (Xi T1 1 3 = Xi S 1 3) → (0 ≤ Xi T1 891 9 ∧ Xi T1 891 9 ≤ 24) → Pl n2 lay0 (d + 3) m_re_takeObjects 2 [(0, .ref 891), (1, iv v1)] [] T1 (Q_re_takeObjects__p S) := by
    intro n2
    induction n2 with
    | zero => intros; exact Pl_0
    | succ n2 ih2 =>
      intro hm2 T1 hHT1 hFT1 v1 w7 w8 G2 L2 w9 w10 w11 w12 w13 w14
      have w15 : Xi T1 1 3 = Xi S 1 3 := hFT1.x _ _ rfl
      have w16 : Xi T1 5 2 = Xi S 5 2 := hFT1.x _ _ rfl
      have w17 : Xi T1 876 7 = Xi S 876 7 := hFT1.x _ _ rfl
      have w18 : Xi T1 890 3 = Xi S 890 3 := hFT1.x _ _ rfl
      have w19 : -2147483648 ≤ Xi T1 1 3 ∧ Xi T1 1 3 ≤ 2147483647 := Xi_rgI
      have w20 : -2147483648 ≤ Xi T1 5 2 ∧ Xi T1 5 2 ≤ 2147483647 := Xi_rgI
      have w21 : -2147483648 ≤ Xi T1 876 7 ∧ Xi T1 876 7 ≤ 2147483647 := Xi_rgI
      have w22 : -2147483648 ≤ Xi T1 876 8 ∧ Xi T1 876 8 ≤ 2147483647 := Xi_rgI
      have w23 : -2147483648 ≤ Xi T1 890 3 ∧ Xi T1 890 3 ≤ 2147483647 := Xi_rgI
      have w24 : -2147483648 ≤ Xi T1 891 9 ∧ Xi T1 891 9 ≤ 2147483647 := Xi_rgI
      refine ys_iload_n rfl rfl ?_
      refine y_aload_n rfl rfl ?_
      refine y_gfr rfl rfl rfl rfl rfl (hHT1.r 891 1 890 rfl) ?_
      refine y_gfi rfl rfl rfl rfl rfl ?_
      refine y_icmp_ge rfl rfl (by unfold rg; omega) (by unfold rg; omega) (fun w25 => ?_) (fun w26 => ?_)
      · refine y_iconst rfl ?_
        refine y_ireturn rfl rfl ?_
        exact ⟨hHT1, hFT1, _, rfl, ⟨by omega, by omega⟩, (by first | (have t := K30; exact ⟨F30.o.1, fun q => absurd q (F30.o.2 (cR_l (by omega) (by omega) (by have t := B15.o; rw [G2.o.t] at t; exact t))), fun q => absurd q (by omega)⟩) | (have b : v1 = Xi S 890 3 := (by omega); have g := G2.o; have l := L2.o; rw [b] at g l; exact ⟨tlo_y l, fun _ => ⟨rfl, g⟩, fun _ => l⟩))⟩
      · refine y_aload_n rfl rfl ?_
        refine y_iload_n rfl rfl ?_
        refine y_callV rfl rfl rfl (t_re_beginsName__p hHT1 v1 ⟨by omega, by omega⟩ _) ?_
        rintro _ _ ⟨rfl, z27, rfl, w27, v15⟩
        show Pl _ _ _ _ _ _ [iv z27] _ _
        have K15 : True := trivial
        refine y_if_eq rfl rfl (by unfold rg; omega) (fun w28 => ?_) (fun w29 => ?_)
        · refine y_iinc rfl rfl rfl rfl ?_
          have K32 : True := trivial
          have G32 : Hid (LSO S T1 (cR (ty7 S) (v1 + 1).toNat) ∧ LOO S (cR (ty7 S) (v1 + 1).toNat)) := by first | (have t := K24; exact T24.o.1 (by omega)) | exact lso_n G2.o L2.o (v15.2 (by omega) (by omega)) (by omega)
          have x32 : Xi T1 876 8 = 0 := G32.o.1.2.2.1
          have y32 : 0 ≤ Xi T1 891 9 ∧ Xi T1 891 9 ≤ 24 := by have a := G32.o.1.1.1; have b := loo_b G32.o.2; omega
          refine y_goto rfl rfl ?_
          exact Pl_weak (ih2 (by omega) T1 hHT1 hFT1 ((v1 + 1)) (by omega) (by omega) (by first | (have t := K32; exact G32.o.1) | exact lso_0 hn0 hNB hf) (by first | (have t := K32; exact G32.o.2) | exact (fun i hi => absurd hi (Nat.not_lt_zero _))) (by omega) (by omega) (by omega) (by omega) (by omega) (by omega)) (by omega) (And.intro rfl (And.intro rfl (True.intro)))
        · refine y_aload_n rfl rfl ?_
          have B15 : Hid (bg7 (ty7 T1) v1) := (v15.1 (by omega)).1
          refine y_iload_n rfl rfl ?_
          refine y_iconst rfl ?_
          refine y_callV rfl rfl rfl (t_re_takeObjectOrNew__p hHT1 v1 (-1) ⟨by omega, by omega⟩ ⟨by omega, by omega⟩ (by first | assumption | omega) (LSO.c G2.o hCE) (G2.o.2.1) (by first | assumption | omega) (by first | assumption | omega) (by first | assumption | omega) (by first | assumption | omega) (by first | assumption | omega) _) ?_
          rintro _ T2 ⟨hHT2, w31, z30, rfl, w30, o24, nb24⟩
          have hFT2 : FR md_re_takeObjects__p S T2 := FR.tr hFT1 w31 rfl
          show Pl _ _ _ _ _ _ [iv z30] _ _
          have K24 : True := trivial
          have F24 := (by assumption : FR md_re_takeObjectOrNew__p T1 T2)
          have T24 := Hid.i (lso_t (N := nL S) G2.o L2.o B15.o (by omega) hr F24 o24 nb24 (by omega))
          clear o24 nb24
          obtain ⟨zz, hzz⟩ : ∃ w : Int, w = z30 := ⟨_, rfl⟩
          refine y_if_ne rfl rfl (by unfold rg; omega) (fun w32 => ?_) (fun w33 => ?_)
          · refine y_iinc rfl rfl rfl rfl ?_
            have K32 : True := trivial
            have G32 : Hid (LSO S T2 (cR (ty7 S) (v1 + 1).toNat) ∧ LOO S (cR (ty7 S) (v1 + 1).toNat)) := by first | (have t := K24; exact T24.o.1 (by omega)) | exact lso_n G2.o L2.o (v15.2 (by omega) (by omega)) (by omega)
            have x32 : Xi T2 876 8 = 0 := G32.o.1.2.2.1
            have y32 : 0 ≤ Xi T2 891 9 ∧ Xi T2 891 9 ≤ 24 := by have a := G32.o.1.1.1; have b := loo_b G32.o.2; omega
            refine y_goto rfl rfl ?_
            have w34 : Xi T2 1 3 = Xi T1 1 3 := (show Xi T2 1 3 = Xi T1 1 3 from w31.x _ _ rfl)
            have w35 : Xi T2 5 2 = Xi T1 5 2 := (show Xi T2 5 2 = Xi T1 5 2 from w31.x _ _ rfl)
            have w36 : Xi T2 876 7 = Xi T1 876 7 := (show Xi T2 876 7 = Xi T1 876 7 from w31.x _ _ rfl)
            have w37 : Xi T2 890 3 = Xi T1 890 3 := (show Xi T2 890 3 = Xi T1 890 3 from w31.x _ _ rfl)
            exact Pl_weak (ih2 (by omega) T2 hHT2 hFT2 ((v1 + 1)) (by omega) (by omega) (by first | (have t := K32; exact G32.o.1) | exact lso_0 hn0 hNB hf) (by first | (have t := K32; exact G32.o.2) | exact (fun i hi => absurd hi (Nat.not_lt_zero _))) (by omega) (by omega) (by omega) (by omega) (by omega) (by omega)) (by omega) (And.intro rfl (And.intro rfl (True.intro)))
          · refine y_iconst rfl ?_
            have K30 : True := trivial
            have F30 := Hid.i (T24.o.2 (by omega))
            refine y_ireturn rfl rfl ?_
            have w38 : Xi T2 1 3 = Xi T1 1 3 := (show Xi T2 1 3 = Xi T1 1 3 from w31.x _ _ rfl)
            have w39 : Xi T2 5 2 = Xi T1 5 2 := (show Xi T2 5 2 = Xi T1 5 2 from w31.x _ _ rfl)
            have w40 : Xi T2 876 7 = Xi T1 876 7 := (show Xi T2 876 7 = Xi T1 876 7 from w31.x _ _ rfl)
            have w41 : Xi T2 890 3 = Xi T1 890 3 := (show Xi T2 890 3 = Xi T1 890 3 from w31.x _ _ rfl)
            exact ⟨hHT2, hFT2, _, rfl, ⟨by omega, by omega⟩, (by first | (have t := K30; exact ⟨F30.o.1, fun q => absurd q (F30.o.2 (cR_l (by omega) (by omega) (by have t := B15.o; rw [G2.o.t] at t; exact t))), fun q => absurd q (by omega)⟩) | (have b : v1 = Xi S 890 3 := (by omega); have g := G2.o; have l := L2.o; rw [b] at g l; exact ⟨tlo_y l, fun _ => ⟨rfl, g⟩, fun _ => l⟩))⟩
  refine y_iconst rfl ?_
  refine y_istore_n rfl rfl rfl ?_
  exact Pl_weak (C2 fu (by omega) S hH hF (0) (by omega) (by omega) (by first | (have t := K32; exact G32.o.1) | exact lso_0 hn0 hNB hf) (by first | (have t := K32; exact G32.o.2) | exact (fun i hi => absurd hi (Nat.not_lt_zero _))) (by omega) (by omega) (by omega) (by omega) (by omega) (by omega)) (by omega) (And.intro rfl (And.intro rfl (True.intro)))
/-! places (class) -/
def wyC (k : Int) : Int := if k = 8 then 1 else if k = 9 then 2 else if k = 29 then 3 else if k = 30 then 4 else 5
def chC (S : sS) (o h : Int) : Int := if h = 1 then (if isK S (Xi S 21 o.toNat) 2 ≠ 0 ∨ isK S (Xi S 21 o.toNat) 1 ≠ 0 then 1 else 0) else if h = 2 then isK S (Xi S 21 o.toNat) 3 else if h = 3 then isK S (Xi S 21 o.toNat) 0 else isK S (Xi S 21 o.toNat) 4
def rPl (S : sS) (a : Int) : Int := bA (ty7 S) (if ty7 S a = 8 ∨ ty7 S a = 9 then a + 1 else a + 2)
def hPl (S : sS) (a : Int) : Int := fnd S 2 (rPl S a) (re7 (ty7 S) (rPl S a))
def TPLA (S S1 : sS) (z a : Int) : Prop := ((hPl S a ≠ -1 ∧ chC S (hPl S a) (wyC (ty7 S a)) ≠ 0) → z = 1 ∧ S1 = uI (uI S 891 11 (Int32.ofInt (wyC (ty7 S a)))) 891 12 (Int32.ofInt (hPl S a))) ∧ (¬ (hPl S a ≠ -1 ∧ chC S (hPl S a) (wyC (ty7 S a)) ≠ 0) → z = 0 ∧ FTO S S1 4 (rPl S a))
theorem wy_rg {k : Int} : 1 ≤ wyC k ∧ wyC k ≤ 5 := by
  unfold wyC
  split
  · omega
  · split
    · omega
    · split
      · omega
      · split <;> omega
theorem isKn_s7 {S T : sS} (h : ∀ j, Xi T 6 j = Xi S 6 j) {a b : Int} : isK T a b = isK S a b := isKn_fr h 16 a
theorem chC_eq {S T : sS} {o h : Int} (e : ∀ j, Xi T 6 j = Xi S 6 j) (e2 : ∀ j, Xi T 21 j = Xi S 21 j) : chC T o h = chC S o h := by
  unfold chC
  rw [isKn_s7 e, isKn_s7 e, isKn_s7 e, isKn_s7 e, isKn_s7 e, e2]
theorem pl_w {S A B : sS} {w h : Int} (e1 : A = uI S 891 11 (Int32.ofInt w)) (e2 : B = uI A 891 12 (Int32.ofInt h)) : (∀ r, pc7 B r = pc7 S r) ∧ ty7 B = ty7 S ∧ SMV S B ∧ (∀ k j : Nat, k ≠ 891 → Xi B k j = Xi S k j) := by
  have x : ∀ k j : Nat, k ≠ 891 → Xi B k j = Xi S k j := fun k j hk => by rw [e2, Xi_ne (by omega), e1, Xi_ne (by omega)]
  refine ⟨fun r => ?_, funext fun i => ?_, ?_, x⟩
  · unfold pc7; rw [x _ _ (by omega), x _ _ (by omega), x _ _ (by omega)]
  · unfold ty7; rw [x _ _ (by omega), x _ _ (by omega)]
  · exact SMV_w (SMV_w SMV.rf e1 (by omega) (by omega) (by omega)) e2 (by omega) (by omega) (by omega)
/-- a description is taken -/
def TDS (S S1 : sS) (z a t pl : Int) : Prop :=
  ((6 < t - a ∨ ccT S a t pl 0 (-1) 4 = 0) → z = 0 ∧ FTO S S1 4 a) ∧
  (t - a ≤ 6 → 1 < ccT S a t pl 0 (-1) 4 → z = 0 ∧ FTO S S1 7 a) ∧
  (t - a ≤ 6 → ccT S a t pl 0 (-1) 4 = 1 → z = 1 ∧ Xi S1 876 8 = Xi S 876 8 ∧ ∃ m : Int, (1 ≤ m ∧ m ≤ 3 ∧ m ≤ t - a) ∧ ccC S a t pl 0 (-1) m = 1 ∧ Xi S1 895 12 = ckC S t pl m ∧ Xi S1 895 13 = t - m ∧ KPC S1 (fA S (ckC S t pl m) a 0) (g1C S a) (g2C S (ckC S t pl m) a) (t - m - a))
theorem ccT_1 {S : sS} {a t pl d al m : Int} (h : ccT S a t pl d al 4 = 1) (hm : 1 ≤ m ∧ m ≤ 3) (hn : m ≤ t - a) (hp : 0 < ccC S a t pl d al m) : ccC S a t pl d al m = 1 := by
  unfold ccT at h
  have u1 := ccC_nn (S := S) (a := a) (t := t) (pl := pl) (d := d) (al := al) (m := 1)
  have u2 := ccC_nn (S := S) (a := a) (t := t) (pl := pl) (d := d) (al := al) (m := 2)
  have u3 := ccC_nn (S := S) (a := a) (t := t) (pl := pl) (d := d) (al := al) (m := 3)
  rcases (by omega : m = 1 ∨ m = 2 ∨ m = 3) with q | q | q <;> subst q
  · rw [if_pos (show (1 : Int) < 4 ∧ 1 ≤ t - a by omega)] at h
    split at h <;> split at h <;> omega
  · rw [if_pos (show (1 : Int) < 4 ∧ 1 ≤ t - a by omega), if_pos (show (2 : Int) < 4 ∧ 2 ≤ t - a by omega)] at h
    split at h <;> omega
  · rw [if_pos (show (1 : Int) < 4 ∧ 1 ≤ t - a by omega), if_pos (show (2 : Int) < 4 ∧ 2 ≤ t - a by omega), if_pos (show (3 : Int) < 4 ∧ 3 ≤ t - a by omega)] at h
    omega
theorem ccp {S : sS} {a t pl d al m : Int} (h : 0 < ccC S a t pl d al m) : cokC S t pl al m := by
  by_cases q : cokC S t pl al m
  · exact q
  · rw [ccc_n q] at h; omega
theorem g1C_FR {l : List rec} {S T : sS} (h : FR l S T) (e : (kdis l kA && !(mdf l 1 3)) = true) {a : Int} : g1C T a = g1C S a := by
  funext x y
  unfold g1C
  rw [mnV_FR h e]
theorem g2C_FR {l : List rec} {S T : sS} (h : FR l S T) (e : (kdis l kA && !(mdf l 1 3)) = true) {k a : Int} : g2C T k a = g2C S k a := by
  funext x y
  exact rlF_eq h e

abbrev Q_rr_wayOf__p (S : sS) (key : Int) : pst := fun r S1 => S = S1 ∧ (∃ z : Int, r = some (iv z) ∧ (-2147483648 ≤ z ∧ z ≤ 2147483647) ∧ (z = wyC key))
set_option maxRecDepth 100000 in
theorem t_rr_wayOf__p {S : sS} (hH : RI S) (key : Int) (hkey : -2147483648 ≤ key ∧ key ≤ 2147483647) (d : Nat) : Mp lay0 (d + 1) m_rr_wayOf [iv key] S (Q_rr_wayOf__p S key) := by
  refine Mp_R rfl rfl (fun fu => ?_)
  refine y_iload_n rfl rfl ?_
  refine y_lsw rfl rfl (by unfold rg; omega) ?_
  refine And.intro (fun w1 => ⟨_, rfl, ?_⟩) (fun w2 => ?_)
  · refine y_iconst rfl ?_
    refine y_ireturn rfl rfl ?_
    exact ⟨rfl, _, rfl, ⟨by omega, by omega⟩, (by unfold wyC; first | (rw [if_pos (by omega)]) | (rw [if_neg (by omega), if_pos (by omega)]) | (rw [if_neg (by omega), if_neg (by omega), if_pos (by omega)]) | (rw [if_neg (by omega), if_neg (by omega), if_neg (by omega), if_pos (by omega)]) | (rw [if_neg (by omega), if_neg (by omega), if_neg (by omega), if_neg (by omega)]))⟩
  refine And.intro (fun w3 => ⟨_, rfl, ?_⟩) (fun w4 => ?_)
  · refine y_iconst rfl ?_
    refine y_ireturn rfl rfl ?_
    exact ⟨rfl, _, rfl, ⟨by omega, by omega⟩, (by unfold wyC; first | (rw [if_pos (by omega)]) | (rw [if_neg (by omega), if_pos (by omega)]) | (rw [if_neg (by omega), if_neg (by omega), if_pos (by omega)]) | (rw [if_neg (by omega), if_neg (by omega), if_neg (by omega), if_pos (by omega)]) | (rw [if_neg (by omega), if_neg (by omega), if_neg (by omega), if_neg (by omega)]))⟩
  refine And.intro (fun w5 => ⟨_, rfl, ?_⟩) (fun w6 => ?_)
  · refine y_iconst rfl ?_
    refine y_ireturn rfl rfl ?_
    exact ⟨rfl, _, rfl, ⟨by omega, by omega⟩, (by unfold wyC; first | (rw [if_pos (by omega)]) | (rw [if_neg (by omega), if_pos (by omega)]) | (rw [if_neg (by omega), if_neg (by omega), if_pos (by omega)]) | (rw [if_neg (by omega), if_neg (by omega), if_neg (by omega), if_pos (by omega)]) | (rw [if_neg (by omega), if_neg (by omega), if_neg (by omega), if_neg (by omega)]))⟩
  refine And.intro (fun w7 => ⟨_, rfl, ?_⟩) (fun w8 => ?_)
  · refine y_iconst rfl ?_
    refine y_ireturn rfl rfl ?_
    exact ⟨rfl, _, rfl, ⟨by omega, by omega⟩, (by unfold wyC; first | (rw [if_pos (by omega)]) | (rw [if_neg (by omega), if_pos (by omega)]) | (rw [if_neg (by omega), if_neg (by omega), if_pos (by omega)]) | (rw [if_neg (by omega), if_neg (by omega), if_neg (by omega), if_pos (by omega)]) | (rw [if_neg (by omega), if_neg (by omega), if_neg (by omega), if_neg (by omega)]))⟩
  refine ⟨_, rfl, ?_⟩
  refine y_iconst rfl ?_
  refine y_ireturn rfl rfl ?_
  exact ⟨rfl, _, rfl, ⟨by omega, by omega⟩, (by unfold wyC; first | (rw [if_pos (by omega)]) | (rw [if_neg (by omega), if_pos (by omega)]) | (rw [if_neg (by omega), if_neg (by omega), if_pos (by omega)]) | (rw [if_neg (by omega), if_neg (by omega), if_neg (by omega), if_pos (by omega)]) | (rw [if_neg (by omega), if_neg (by omega), if_neg (by omega), if_neg (by omega)]))⟩
abbrev Q_re_canHold__p (S : sS) (o : Int) (how : Int) : pst := fun r S1 => S = S1 ∧ (∃ z : Int, r = some (iv z) ∧ (0 ≤ z ∧ z ≤ 1) ∧ (z = chC S o how))
set_option maxRecDepth 100000 in
theorem t_re_canHold__p {S : sS} (hH : RI S) (o : Int) (how : Int) (ho : -2147483648 ≤ o ∧ o ≤ 2147483647) (hhow : -2147483648 ≤ how ∧ how ≤ 2147483647) (d : Nat) : Mp lay0 (d + 3) m_re_canHold [.ref 891, iv o, iv how] S (Q_re_canHold__p S o how) := by
  refine Mp_R rfl rfl (fun fu => ?_)
  refine y_iload_n rfl rfl ?_
  refine y_tsw rfl rfl rfl rfl (by unfold rg; omega) (fun w1 => ?_) (fun ii tt hii w1 => ?_)
  · refine y_aload_n rfl rfl ?_
    refine y_gfr rfl rfl rfl rfl rfl (hH.r 891 3 20 rfl) ?_
    refine y_iload_n rfl rfl ?_
    refine y_iconst rfl ?_
    refine y_callV rfl rfl rfl (t_wo_isA__p hH o 4 ⟨by omega, by omega⟩ ⟨by omega, by omega⟩ _) ?_
    rintro _ _ ⟨rfl, z3, rfl, w3, w2⟩
    show Pl _ _ _ _ _ _ [iv z3] _ _
    refine y_ireturn rfl (retI_z (by omega)) ?_
    exact ⟨rfl, _, rfl, ⟨by omega, by omega⟩, (by unfold chC; first | (rw [if_pos (by omega)]; first | (rw [if_pos (by omega)]) | (rw [if_neg (by omega)])) | (rw [if_neg (by omega), if_pos (by omega)]; assumption) | (rw [if_neg (by omega), if_neg (by omega), if_pos (by omega)]; assumption) | (rw [if_neg (by omega), if_neg (by omega), if_neg (by omega)]; assumption))⟩
  · match ii, hii with
    | 0, hii =>
      cases hii
      have w4 : how = 1 := by simpa using w1
      refine y_aload_n rfl rfl ?_
      refine y_gfr rfl rfl rfl rfl rfl (hH.r 891 3 20 rfl) ?_
      refine y_iload_n rfl rfl ?_
      refine y_iconst rfl ?_
      refine y_callV rfl rfl rfl (t_wo_isA__p hH o 2 ⟨by omega, by omega⟩ ⟨by omega, by omega⟩ _) ?_
      rintro _ _ ⟨rfl, z6, rfl, w6, w5⟩
      show Pl _ _ _ _ _ _ [iv z6] _ _
      refine y_if_ne rfl rfl (by unfold rg; omega) (fun w7 => ?_) (fun w8 => ?_)
      · refine y_iconst rfl ?_
        refine y_goto rfl rfl ?_
        refine y_ireturn rfl rfl ?_
        exact ⟨rfl, _, rfl, ⟨by omega, by omega⟩, (by unfold chC; first | (rw [if_pos (by omega)]; first | (rw [if_pos (by omega)]) | (rw [if_neg (by omega)])) | (rw [if_neg (by omega), if_pos (by omega)]; assumption) | (rw [if_neg (by omega), if_neg (by omega), if_pos (by omega)]; assumption) | (rw [if_neg (by omega), if_neg (by omega), if_neg (by omega)]; assumption))⟩
      · refine y_aload_n rfl rfl ?_
        refine y_gfr rfl rfl rfl rfl rfl (hH.r 891 3 20 rfl) ?_
        refine y_iload_n rfl rfl ?_
        refine y_iconst rfl ?_
        refine y_callV rfl rfl rfl (t_wo_isA__p hH o 1 ⟨by omega, by omega⟩ ⟨by omega, by omega⟩ _) ?_
        rintro _ _ ⟨rfl, z10, rfl, w10, w9⟩
        show Pl _ _ _ _ _ _ [iv z10] _ _
        refine y_if_eq rfl rfl (by unfold rg; omega) (fun w11 => ?_) (fun w12 => ?_)
        · refine y_iconst rfl ?_
          refine y_ireturn rfl rfl ?_
          exact ⟨rfl, _, rfl, ⟨by omega, by omega⟩, (by unfold chC; first | (rw [if_pos (by omega)]; first | (rw [if_pos (by omega)]) | (rw [if_neg (by omega)])) | (rw [if_neg (by omega), if_pos (by omega)]; assumption) | (rw [if_neg (by omega), if_neg (by omega), if_pos (by omega)]; assumption) | (rw [if_neg (by omega), if_neg (by omega), if_neg (by omega)]; assumption))⟩
        · refine y_iconst rfl ?_
          refine y_goto rfl rfl ?_
          refine y_ireturn rfl rfl ?_
          exact ⟨rfl, _, rfl, ⟨by omega, by omega⟩, (by unfold chC; first | (rw [if_pos (by omega)]; first | (rw [if_pos (by omega)]) | (rw [if_neg (by omega)])) | (rw [if_neg (by omega), if_pos (by omega)]; assumption) | (rw [if_neg (by omega), if_neg (by omega), if_pos (by omega)]; assumption) | (rw [if_neg (by omega), if_neg (by omega), if_neg (by omega)]; assumption))⟩
    | 1, hii =>
      cases hii
      have w13 : how = 2 := by simpa using w1
      refine y_aload_n rfl rfl ?_
      refine y_gfr rfl rfl rfl rfl rfl (hH.r 891 3 20 rfl) ?_
      refine y_iload_n rfl rfl ?_
      refine y_iconst rfl ?_
      refine y_callV rfl rfl rfl (t_wo_isA__p hH o 3 ⟨by omega, by omega⟩ ⟨by omega, by omega⟩ _) ?_
      rintro _ _ ⟨rfl, z15, rfl, w15, w14⟩
      show Pl _ _ _ _ _ _ [iv z15] _ _
      refine y_ireturn rfl (retI_z (by omega)) ?_
      exact ⟨rfl, _, rfl, ⟨by omega, by omega⟩, (by unfold chC; first | (rw [if_pos (by omega)]; first | (rw [if_pos (by omega)]) | (rw [if_neg (by omega)])) | (rw [if_neg (by omega), if_pos (by omega)]; assumption) | (rw [if_neg (by omega), if_neg (by omega), if_pos (by omega)]; assumption) | (rw [if_neg (by omega), if_neg (by omega), if_neg (by omega)]; assumption))⟩
    | 2, hii =>
      cases hii
      have w16 : how = 3 := by simpa using w1
      refine y_aload_n rfl rfl ?_
      refine y_gfr rfl rfl rfl rfl rfl (hH.r 891 3 20 rfl) ?_
      refine y_iload_n rfl rfl ?_
      refine y_iconst rfl ?_
      refine y_callV rfl rfl rfl (t_wo_isA__p hH o 0 ⟨by omega, by omega⟩ ⟨by omega, by omega⟩ _) ?_
      rintro _ _ ⟨rfl, z18, rfl, w18, w17⟩
      show Pl _ _ _ _ _ _ [iv z18] _ _
      refine y_ireturn rfl (retI_z (by omega)) ?_
      exact ⟨rfl, _, rfl, ⟨by omega, by omega⟩, (by unfold chC; first | (rw [if_pos (by omega)]; first | (rw [if_pos (by omega)]) | (rw [if_neg (by omega)])) | (rw [if_neg (by omega), if_pos (by omega)]; assumption) | (rw [if_neg (by omega), if_neg (by omega), if_pos (by omega)]; assumption) | (rw [if_neg (by omega), if_neg (by omega), if_neg (by omega)]; assumption))⟩
    | n + 3, hii => exact absurd hii (by simp)
def md_re_takePlace__p : List rec := [(876, 877, 8, 9), (876, 877, 9, 10), (891, 892, 11, 12), (891, 892, 12, 13)]
abbrev Q_re_takePlace__p (S : sS) (aa : Int) : pst := fun r S1 => RI S1 ∧ FR md_re_takePlace__p S S1 ∧ (∃ z : Int, r = some (iv z) ∧ (0 ≤ z ∧ z ≤ 1) ∧ (TPLA S S1 z aa))
set_option maxRecDepth 100000 in
theorem t_re_takePlace__p {S : sS} (hH : RI S) (aa : Int) (haa : 0 ≤ aa ∧ aa ≤ 5140) (h13 : 0 ≤ Xi S 1 3 ∧ Xi S 1 3 ≤ 200) (hCE : CEN S) (hf : Xi S 876 8 = 0) (hr : Xi S 876 7 ≤ 5130) (d : Nat) : Mp lay0 (d + 4) m_re_takePlace [.ref 891, iv aa] S (Q_re_takePlace__p S aa) := by
  refine Mp_R rfl rfl (fun fu => ?_)
  have hF : FR md_re_takePlace__p S S := FR.rf
  have w1 : -2147483648 ≤ Xi S 1 3 ∧ Xi S 1 3 ≤ 2147483647 := Xi_rgI
  have w2 : -2147483648 ≤ Xi S 876 7 ∧ Xi S 876 7 ≤ 2147483647 := Xi_rgI
  have w3 : -2147483648 ≤ Xi S 876 8 ∧ Xi S 876 8 ≤ 2147483647 := Xi_rgI
  have w4 : -2147483648 ≤ Xi S 891 11 ∧ Xi S 891 11 ≤ 2147483647 := Xi_rgI
  have w5 : -2147483648 ≤ Xi S 891 12 ∧ Xi S 891 12 ≤ 2147483647 := Xi_rgI
  refine y_aload_n rfl rfl ?_
  refine y_gfr rfl rfl rfl rfl rfl (hH.r 891 0 876 rfl) ?_
  refine y_iload_n rfl rfl ?_
  refine y_callV rfl rfl rfl (t_to_typeAt__p hH aa ⟨by omega, by omega⟩ _) ?_
  rintro _ _ ⟨rfl, z8, rfl, w8, w6, w7⟩
  show Pl _ _ _ _ _ _ [iv z8] _ _
  have gq5 := w6
  clear w6
  have q5 : ty7 S aa = z8 := gq5
  refine y_istore_n rfl rfl rfl ?_
  refine y_aload_n rfl rfl ?_
  refine y_gfr rfl rfl rfl rfl rfl (hH.r 891 0 876 rfl) ?_
  refine y_iload_n rfl rfl ?_
  refine y_bipush rfl rfl ?_
  refine y_icmp_eq rfl rfl (by unfold rg; omega) (by unfold rg; omega) (fun w9 => ?_) (fun w10 => ?_)
  · refine y_iload_n rfl rfl ?_
    refine y_iconst rfl ?_
    refine y_iadd rfl ?_
    refine y_goto rfl rfl ?_
    refine y_callV rfl rfl rfl (t_to_behindArt__p hH (aa + 1) ⟨by omega, by omega⟩ _) ?_
    rintro _ _ ⟨rfl, z13, rfl, w13, w11, w12⟩
    show Pl _ _ _ _ _ _ [iv z13] _ _
    have gq34 := w11
    clear w11
    have q34 : rPl S aa = z13 := by unfold rPl; first | (rw [if_pos (by omega)]; exact gq34) | (rw [if_neg (by omega)]; exact gq34)
    refine y_istore_n rfl rfl rfl ?_
    refine y_aload_n rfl rfl ?_
    refine y_iload_n rfl rfl ?_
    refine y_callS rfl rfl (by decide) rfl (t_rr_wayOf__p hH z8 ⟨by omega, by omega⟩ _) ?_
    rintro _ _ ⟨rfl, z14, rfl, w14, w40⟩
    show Pl _ _ _ _ _ _ [iv z14, .ref 891] _ _
    have K40 : z14 = wyC (ty7 S aa) := by rw [q5]; exact w40
    have b40 := wy_rg (k := ty7 S aa)
    clear w40
    refine y_pfi rfl rfl rfl rfl ?_
    obtain ⟨U1, eU1⟩ : ∃ T : sS, T = uI S 891 11 (Int32.ofInt z14) := ⟨_, rfl⟩
    rw [← eU1]
    have hHU1 : RI U1 := by rw [eU1]; exact RI_w hH
    have hFU1 : FR md_re_takePlace__p S U1 := by rw [eU1]; exact FR.wI hF (mdf_i (r := (891, 892, 11, 12)) (List.mem_of_getElem? (i := 2) rfl) (inR_i (by omega) (by omega) (by omega) (by omega)))
    have w15 : Xi U1 891 11 = z14 := by rw [eU1]; exact Xi_same (by unfold rg; omega)
    have ee43 := eU1
    have g43 : Xi U1 891 11 = wyC (ty7 S aa) := by rw [eU1, ← K40]; exact Xi_same (by unfold rg; omega)
    refine y_aload_n rfl rfl ?_
    refine y_aload_n rfl rfl ?_
    refine y_gfr rfl rfl rfl rfl rfl (hHU1.r 891 4 895 rfl) ?_
    refine y_iconst rfl ?_
    refine y_iload_n rfl rfl ?_
    refine y_aload_n rfl rfl ?_
    refine y_gfr rfl rfl rfl rfl rfl (hHU1.r 891 0 876 rfl) ?_
    refine y_iload_n rfl rfl ?_
    have w16 : Xi U1 876 7 = Xi S 876 7 := (show Xi U1 876 7 = Xi S 876 7 from by rw [eU1]; exact Xi_ne (by omega))
    have w17 : Xi U1 876 8 = Xi S 876 8 := (show Xi U1 876 8 = Xi S 876 8 from by rw [eU1]; exact Xi_ne (by omega))
    have w18 : Xi U1 891 12 = Xi S 891 12 := (show Xi U1 891 12 = Xi S 891 12 from by rw [eU1]; exact Xi_ne (by omega))
    refine y_callV rfl rfl rfl (t_to_runEnd__p hHU1 z13 ⟨by omega, by omega⟩ _) ?_
    rintro _ _ ⟨rfl, z21, rfl, w21, w19, w20⟩
    show Pl _ _ _ _ _ _ [iv z21, iv z13, iv 2, .ref 895, .ref 891] _ _
    have gq58 := w19
    rw [FRT hFU1 rfl rfl] at gq58
    try rw [show Xi U1 890 1 = Xi S 890 1 by omega] at gq58
    clear w19
    have w22 : Xi U1 1 3 = Xi S 1 3 := (show Xi U1 1 3 = Xi S 1 3 from by rw [eU1]; exact Xi_ne (by omega))
    refine y_callV rfl rfl rfl (t_me_find__p hHU1 2 z13 z21 ⟨by omega, by omega⟩ ⟨by omega, by omega⟩ ⟨by omega, by omega⟩ (by first | assumption | omega) (by first | assumption | exact (CEN_FR hFU1 rfl rfl (by assumption : CEN S))) _) ?_
    rintro _ _ ⟨rfl, z25, rfl, w25, v61⟩
    show Pl _ _ _ _ _ _ [iv z25, .ref 891] _ _
    have K61 : z25 = hPl S aa := by unfold hPl; have t := v61; rw [fnd_eq (SMV_w SMV.rf ee43 (by omega) (by omega) (by omega)), ← gq58, ← q34] at t; exact t
    clear v61
    refine y_pfi rfl rfl rfl rfl ?_
    obtain ⟨U2, eU2⟩ : ∃ T : sS, T = uI U1 891 12 (Int32.ofInt z25) := ⟨_, rfl⟩
    rw [← eU2]
    have hHU2 : RI U2 := by rw [eU2]; exact RI_w hHU1
    have hFU2 : FR md_re_takePlace__p S U2 := by rw [eU2]; exact FR.wI hFU1 (mdf_i (r := (891, 892, 12, 13)) (List.mem_of_getElem? (i := 3) rfl) (inR_i (by omega) (by omega) (by omega) (by omega)))
    have w26 : Xi U2 891 12 = z25 := by rw [eU2]; exact Xi_same (by unfold rg; omega)
    have R64 : U2 = uI (uI S 891 11 (Int32.ofInt (wyC (ty7 S aa)))) 891 12 (Int32.ofInt (hPl S aa)) := by rw [eU2, ee43, K40, K61]
    have W64 := pl_w ee43 eU2
    have f64 : Xi U2 876 8 = 0 := by rw [W64.2.2.2 _ _ (by omega)]; exact hf
    have h64 : Xi U2 891 12 = hPl S aa := by rw [eU2, ← K61]; exact Xi_same (by unfold rg; omega)
    have g64 : Xi U2 891 11 = wyC (ty7 S aa) := by rw [eU2, Xi_ne (by omega), ee43, ← K40]; exact Xi_same (by unfold rg; omega)
    refine y_aload_n rfl rfl ?_
    refine y_gfi rfl rfl rfl rfl rfl ?_
    refine y_iconst rfl ?_
    refine y_icmp_eq rfl rfl (by unfold rg; omega) (by unfold rg; omega) (fun w27 => ?_) (fun w28 => ?_)
    · refine y_aload_n rfl rfl ?_
      have N90 : Hid (¬ (hPl S aa ≠ -1 ∧ chC S (hPl S aa) (wyC (ty7 S aa)) ≠ 0)) := fun q => by first | (have t := K84; have u := q.2; omega) | (have u := q.1; omega)
      refine y_gfr rfl rfl rfl rfl rfl (hHU2.r 891 0 876 rfl) ?_
      refine y_iconst rfl ?_
      refine y_iload_n rfl rfl ?_
      have w29 : Xi U2 876 8 = Xi S 876 8 := (show Xi U2 876 8 = Xi U1 876 8 from by rw [eU2]; exact Xi_ne (by omega)).trans ((show Xi U1 876 8 = Xi S 876 8 from by rw [eU1]; exact Xi_ne (by omega)))
      have w30 : Xi U2 876 9 = Xi S 876 9 := (show Xi U2 876 9 = Xi U1 876 9 from by rw [eU2]; exact Xi_ne (by omega)).trans ((show Xi U1 876 9 = Xi S 876 9 from by rw [eU1]; exact Xi_ne (by omega)))
      have w31 : Xi U2 891 11 = Xi U1 891 11 := (show Xi U2 891 11 = Xi U1 891 11 from by rw [eU2]; exact Xi_ne (by omega))
      refine y_callV rfl rfl rfl (t_to_wrong__p hHU2 4 z13 ⟨by omega, by omega⟩ ⟨by omega, by omega⟩ _) ?_
      rintro _ T3 ⟨hHT3, w35, z34, rfl, w34, w32, f96, w33⟩
      have hFT3 : FR md_re_takePlace__p S T3 := FR.tr hFU2 w35 rfl
      show Pl _ _ _ _ _ _ [iv z34] _ _
      have K96 : True := trivial
      have Y96 : FTO S T3 4 (rPl S aa) := fto_p (by rw [q34]; exact f96 f64) W64.1
      refine y_if_eq rfl rfl (by unfold rg; omega) (fun w36 => ?_) (fun w37 => ?_)
      · refine y_iconst rfl ?_
        refine y_ireturn rfl rfl ?_
        exact ⟨hHT3, hFT3, _, rfl, ⟨by omega, by omega⟩, (by first | (have t := K96; exact ⟨fun q => absurd q N90.o, fun _ => ⟨by omega, Y96⟩⟩) | exact ⟨fun _ => ⟨rfl, R64⟩, fun q => absurd Y102.o q⟩)⟩
      · exfalso; omega
    · refine y_aload_n rfl rfl ?_
      refine y_aload_n rfl rfl ?_
      refine y_gfi rfl rfl rfl rfl rfl ?_
      refine y_aload_n rfl rfl ?_
      refine y_gfi rfl rfl rfl rfl rfl ?_
      have w40 : (Xi U2 891 11) = (Xi U1 891 11) := (show Xi U2 891 11 = Xi U1 891 11 from by rw [eU2]; exact Xi_ne (by omega))
      rw [w40]
      have w41 : Xi U2 876 8 = Xi S 876 8 := (show Xi U2 876 8 = Xi U1 876 8 from by rw [eU2]; exact Xi_ne (by omega)).trans ((show Xi U1 876 8 = Xi S 876 8 from by rw [eU1]; exact Xi_ne (by omega)))
      have w42 : Xi U2 891 11 = Xi U1 891 11 := (show Xi U2 891 11 = Xi U1 891 11 from by rw [eU2]; exact Xi_ne (by omega))
      refine y_callV rfl rfl rfl (t_re_canHold__p hHU2 (Xi U2 891 12) (Xi U1 891 11) ⟨by omega, by omega⟩ ⟨by omega, by omega⟩ _) ?_
      rintro _ _ ⟨rfl, z43, rfl, w43, w84⟩
      show Pl _ _ _ _ _ _ [iv z43] _ _
      have K84 : z43 = chC S (hPl S aa) (wyC (ty7 S aa)) := by have t := w84; rw [chC_eq (fun j => W64.2.2.2 6 j (by omega)) (fun j => W64.2.2.2 21 j (by omega)), h64] at t; first | (rw [g43] at t; exact t) | (rw [g64] at t; exact t)
      clear w84
      refine y_if_ne rfl rfl (by unfold rg; omega) (fun w44 => ?_) (fun w45 => ?_)
      · refine y_iconst rfl ?_
        have Y102 : Hid (hPl S aa ≠ -1 ∧ chC S (hPl S aa) (wyC (ty7 S aa)) ≠ 0) := ⟨by omega, by omega⟩
        refine y_goto rfl rfl ?_
        refine y_ireturn rfl rfl ?_
        exact ⟨hHU2, hFU2, _, rfl, ⟨by omega, by omega⟩, (by first | (have t := K96; exact ⟨fun q => absurd q N90.o, fun _ => ⟨by omega, Y96⟩⟩) | exact ⟨fun _ => ⟨rfl, R64⟩, fun q => absurd Y102.o q⟩)⟩
      · refine y_aload_n rfl rfl ?_
        have N90 : Hid (¬ (hPl S aa ≠ -1 ∧ chC S (hPl S aa) (wyC (ty7 S aa)) ≠ 0)) := fun q => by first | (have t := K84; have u := q.2; omega) | (have u := q.1; omega)
        refine y_gfr rfl rfl rfl rfl rfl (hHU2.r 891 0 876 rfl) ?_
        refine y_iconst rfl ?_
        refine y_iload_n rfl rfl ?_
        have w49 : Xi U2 876 9 = Xi S 876 9 := (show Xi U2 876 9 = Xi U1 876 9 from by rw [eU2]; exact Xi_ne (by omega)).trans ((show Xi U1 876 9 = Xi S 876 9 from by rw [eU1]; exact Xi_ne (by omega)))
        refine y_callV rfl rfl rfl (t_to_wrong__p hHU2 4 z13 ⟨by omega, by omega⟩ ⟨by omega, by omega⟩ _) ?_
        rintro _ T4 ⟨hHT4, w54, z53, rfl, w53, w51, f96, w52⟩
        have hFT4 : FR md_re_takePlace__p S T4 := FR.tr hFU2 w54 rfl
        show Pl _ _ _ _ _ _ [iv z53] _ _
        have K96 : True := trivial
        have Y96 : FTO S T4 4 (rPl S aa) := fto_p (by rw [q34]; exact f96 f64) W64.1
        refine y_if_eq rfl rfl (by unfold rg; omega) (fun w55 => ?_) (fun w56 => ?_)
        · refine y_iconst rfl ?_
          refine y_ireturn rfl rfl ?_
          exact ⟨hHT4, hFT4, _, rfl, ⟨by omega, by omega⟩, (by first | (have t := K96; exact ⟨fun q => absurd q N90.o, fun _ => ⟨by omega, Y96⟩⟩) | exact ⟨fun _ => ⟨rfl, R64⟩, fun q => absurd Y102.o q⟩)⟩
        · exfalso; omega
  · refine y_iload_n rfl rfl ?_
    refine y_bipush rfl rfl ?_
    refine y_icmp_ne rfl rfl (by unfold rg; omega) (by unfold rg; omega) (fun w59 => ?_) (fun w60 => ?_)
    · refine y_iload_n rfl rfl ?_
      refine y_iconst rfl ?_
      refine y_iadd rfl ?_
      refine y_callV rfl rfl rfl (t_to_behindArt__p hH (aa + 2) ⟨by omega, by omega⟩ _) ?_
      rintro _ _ ⟨rfl, z63, rfl, w63, w61, w62⟩
      show Pl _ _ _ _ _ _ [iv z63] _ _
      have gq34 := w61
      clear w61
      have q34 : rPl S aa = z63 := by unfold rPl; first | (rw [if_pos (by omega)]; exact gq34) | (rw [if_neg (by omega)]; exact gq34)
      refine y_istore_n rfl rfl rfl ?_
      refine y_aload_n rfl rfl ?_
      refine y_iload_n rfl rfl ?_
      refine y_callS rfl rfl (by decide) rfl (t_rr_wayOf__p hH z8 ⟨by omega, by omega⟩ _) ?_
      rintro _ _ ⟨rfl, z64, rfl, w64, w40⟩
      show Pl _ _ _ _ _ _ [iv z64, .ref 891] _ _
      have K40 : z64 = wyC (ty7 S aa) := by rw [q5]; exact w40
      have b40 := wy_rg (k := ty7 S aa)
      clear w40
      refine y_pfi rfl rfl rfl rfl ?_
      obtain ⟨U5, eU5⟩ : ∃ T : sS, T = uI S 891 11 (Int32.ofInt z64) := ⟨_, rfl⟩
      rw [← eU5]
      have hHU5 : RI U5 := by rw [eU5]; exact RI_w hH
      have hFU5 : FR md_re_takePlace__p S U5 := by rw [eU5]; exact FR.wI hF (mdf_i (r := (891, 892, 11, 12)) (List.mem_of_getElem? (i := 2) rfl) (inR_i (by omega) (by omega) (by omega) (by omega)))
      have w65 : Xi U5 891 11 = z64 := by rw [eU5]; exact Xi_same (by unfold rg; omega)
      have ee43 := eU5
      have g43 : Xi U5 891 11 = wyC (ty7 S aa) := by rw [eU5, ← K40]; exact Xi_same (by unfold rg; omega)
      refine y_aload_n rfl rfl ?_
      refine y_aload_n rfl rfl ?_
      refine y_gfr rfl rfl rfl rfl rfl (hHU5.r 891 4 895 rfl) ?_
      refine y_iconst rfl ?_
      refine y_iload_n rfl rfl ?_
      refine y_aload_n rfl rfl ?_
      refine y_gfr rfl rfl rfl rfl rfl (hHU5.r 891 0 876 rfl) ?_
      refine y_iload_n rfl rfl ?_
      have w66 : Xi U5 876 7 = Xi S 876 7 := (show Xi U5 876 7 = Xi S 876 7 from by rw [eU5]; exact Xi_ne (by omega))
      have w67 : Xi U5 876 8 = Xi S 876 8 := (show Xi U5 876 8 = Xi S 876 8 from by rw [eU5]; exact Xi_ne (by omega))
      have w68 : Xi U5 891 12 = Xi S 891 12 := (show Xi U5 891 12 = Xi S 891 12 from by rw [eU5]; exact Xi_ne (by omega))
      refine y_callV rfl rfl rfl (t_to_runEnd__p hHU5 z63 ⟨by omega, by omega⟩ _) ?_
      rintro _ _ ⟨rfl, z71, rfl, w71, w69, w70⟩
      show Pl _ _ _ _ _ _ [iv z71, iv z63, iv 2, .ref 895, .ref 891] _ _
      have gq58 := w69
      rw [FRT hFU5 rfl rfl] at gq58
      try rw [show Xi U5 890 1 = Xi S 890 1 by omega] at gq58
      clear w69
      have w72 : Xi U5 1 3 = Xi S 1 3 := (show Xi U5 1 3 = Xi S 1 3 from by rw [eU5]; exact Xi_ne (by omega))
      refine y_callV rfl rfl rfl (t_me_find__p hHU5 2 z63 z71 ⟨by omega, by omega⟩ ⟨by omega, by omega⟩ ⟨by omega, by omega⟩ (by first | assumption | omega) (by first | assumption | exact (CEN_FR hFU5 rfl rfl (by assumption : CEN S))) _) ?_
      rintro _ _ ⟨rfl, z75, rfl, w75, v61⟩
      show Pl _ _ _ _ _ _ [iv z75, .ref 891] _ _
      have K61 : z75 = hPl S aa := by unfold hPl; have t := v61; rw [fnd_eq (SMV_w SMV.rf ee43 (by omega) (by omega) (by omega)), ← gq58, ← q34] at t; exact t
      clear v61
      refine y_pfi rfl rfl rfl rfl ?_
      obtain ⟨U6, eU6⟩ : ∃ T : sS, T = uI U5 891 12 (Int32.ofInt z75) := ⟨_, rfl⟩
      rw [← eU6]
      have hHU6 : RI U6 := by rw [eU6]; exact RI_w hHU5
      have hFU6 : FR md_re_takePlace__p S U6 := by rw [eU6]; exact FR.wI hFU5 (mdf_i (r := (891, 892, 12, 13)) (List.mem_of_getElem? (i := 3) rfl) (inR_i (by omega) (by omega) (by omega) (by omega)))
      have w76 : Xi U6 891 12 = z75 := by rw [eU6]; exact Xi_same (by unfold rg; omega)
      have R64 : U6 = uI (uI S 891 11 (Int32.ofInt (wyC (ty7 S aa)))) 891 12 (Int32.ofInt (hPl S aa)) := by rw [eU6, ee43, K40, K61]
      have W64 := pl_w ee43 eU6
      have f64 : Xi U6 876 8 = 0 := by rw [W64.2.2.2 _ _ (by omega)]; exact hf
      have h64 : Xi U6 891 12 = hPl S aa := by rw [eU6, ← K61]; exact Xi_same (by unfold rg; omega)
      have g64 : Xi U6 891 11 = wyC (ty7 S aa) := by rw [eU6, Xi_ne (by omega), ee43, ← K40]; exact Xi_same (by unfold rg; omega)
      refine y_aload_n rfl rfl ?_
      refine y_gfi rfl rfl rfl rfl rfl ?_
      refine y_iconst rfl ?_
      refine y_icmp_eq rfl rfl (by unfold rg; omega) (by unfold rg; omega) (fun w77 => ?_) (fun w78 => ?_)
      · refine y_aload_n rfl rfl ?_
        have N90 : Hid (¬ (hPl S aa ≠ -1 ∧ chC S (hPl S aa) (wyC (ty7 S aa)) ≠ 0)) := fun q => by first | (have t := K84; have u := q.2; omega) | (have u := q.1; omega)
        refine y_gfr rfl rfl rfl rfl rfl (hHU6.r 891 0 876 rfl) ?_
        refine y_iconst rfl ?_
        refine y_iload_n rfl rfl ?_
        have w79 : Xi U6 876 8 = Xi S 876 8 := (show Xi U6 876 8 = Xi U5 876 8 from by rw [eU6]; exact Xi_ne (by omega)).trans ((show Xi U5 876 8 = Xi S 876 8 from by rw [eU5]; exact Xi_ne (by omega)))
        have w80 : Xi U6 876 9 = Xi S 876 9 := (show Xi U6 876 9 = Xi U5 876 9 from by rw [eU6]; exact Xi_ne (by omega)).trans ((show Xi U5 876 9 = Xi S 876 9 from by rw [eU5]; exact Xi_ne (by omega)))
        have w81 : Xi U6 891 11 = Xi U5 891 11 := (show Xi U6 891 11 = Xi U5 891 11 from by rw [eU6]; exact Xi_ne (by omega))
        refine y_callV rfl rfl rfl (t_to_wrong__p hHU6 4 z63 ⟨by omega, by omega⟩ ⟨by omega, by omega⟩ _) ?_
        rintro _ T7 ⟨hHT7, w85, z84, rfl, w84, w82, f96, w83⟩
        have hFT7 : FR md_re_takePlace__p S T7 := FR.tr hFU6 w85 rfl
        show Pl _ _ _ _ _ _ [iv z84] _ _
        have K96 : True := trivial
        have Y96 : FTO S T7 4 (rPl S aa) := fto_p (by rw [q34]; exact f96 f64) W64.1
        refine y_if_eq rfl rfl (by unfold rg; omega) (fun w86 => ?_) (fun w87 => ?_)
        · refine y_iconst rfl ?_
          refine y_ireturn rfl rfl ?_
          exact ⟨hHT7, hFT7, _, rfl, ⟨by omega, by omega⟩, (by first | (have t := K96; exact ⟨fun q => absurd q N90.o, fun _ => ⟨by omega, Y96⟩⟩) | exact ⟨fun _ => ⟨rfl, R64⟩, fun q => absurd Y102.o q⟩)⟩
        · exfalso; omega
      · refine y_aload_n rfl rfl ?_
        refine y_aload_n rfl rfl ?_
        refine y_gfi rfl rfl rfl rfl rfl ?_
        refine y_aload_n rfl rfl ?_
        refine y_gfi rfl rfl rfl rfl rfl ?_
        have w90 : (Xi U6 891 11) = (Xi U5 891 11) := (show Xi U6 891 11 = Xi U5 891 11 from by rw [eU6]; exact Xi_ne (by omega))
        rw [w90]
        have w91 : Xi U6 876 8 = Xi S 876 8 := (show Xi U6 876 8 = Xi U5 876 8 from by rw [eU6]; exact Xi_ne (by omega)).trans ((show Xi U5 876 8 = Xi S 876 8 from by rw [eU5]; exact Xi_ne (by omega)))
        have w92 : Xi U6 891 11 = Xi U5 891 11 := (show Xi U6 891 11 = Xi U5 891 11 from by rw [eU6]; exact Xi_ne (by omega))
        refine y_callV rfl rfl rfl (t_re_canHold__p hHU6 (Xi U6 891 12) (Xi U5 891 11) ⟨by omega, by omega⟩ ⟨by omega, by omega⟩ _) ?_
        rintro _ _ ⟨rfl, z93, rfl, w93, w84⟩
        show Pl _ _ _ _ _ _ [iv z93] _ _
        have K84 : z93 = chC S (hPl S aa) (wyC (ty7 S aa)) := by have t := w84; rw [chC_eq (fun j => W64.2.2.2 6 j (by omega)) (fun j => W64.2.2.2 21 j (by omega)), h64] at t; first | (rw [g43] at t; exact t) | (rw [g64] at t; exact t)
        clear w84
        refine y_if_ne rfl rfl (by unfold rg; omega) (fun w94 => ?_) (fun w95 => ?_)
        · refine y_iconst rfl ?_
          have Y102 : Hid (hPl S aa ≠ -1 ∧ chC S (hPl S aa) (wyC (ty7 S aa)) ≠ 0) := ⟨by omega, by omega⟩
          refine y_goto rfl rfl ?_
          refine y_ireturn rfl rfl ?_
          exact ⟨hHU6, hFU6, _, rfl, ⟨by omega, by omega⟩, (by first | (have t := K96; exact ⟨fun q => absurd q N90.o, fun _ => ⟨by omega, Y96⟩⟩) | exact ⟨fun _ => ⟨rfl, R64⟩, fun q => absurd Y102.o q⟩)⟩
        · refine y_aload_n rfl rfl ?_
          have N90 : Hid (¬ (hPl S aa ≠ -1 ∧ chC S (hPl S aa) (wyC (ty7 S aa)) ≠ 0)) := fun q => by first | (have t := K84; have u := q.2; omega) | (have u := q.1; omega)
          refine y_gfr rfl rfl rfl rfl rfl (hHU6.r 891 0 876 rfl) ?_
          refine y_iconst rfl ?_
          refine y_iload_n rfl rfl ?_
          have w99 : Xi U6 876 9 = Xi S 876 9 := (show Xi U6 876 9 = Xi U5 876 9 from by rw [eU6]; exact Xi_ne (by omega)).trans ((show Xi U5 876 9 = Xi S 876 9 from by rw [eU5]; exact Xi_ne (by omega)))
          refine y_callV rfl rfl rfl (t_to_wrong__p hHU6 4 z63 ⟨by omega, by omega⟩ ⟨by omega, by omega⟩ _) ?_
          rintro _ T8 ⟨hHT8, w104, z103, rfl, w103, w101, f96, w102⟩
          have hFT8 : FR md_re_takePlace__p S T8 := FR.tr hFU6 w104 rfl
          show Pl _ _ _ _ _ _ [iv z103] _ _
          have K96 : True := trivial
          have Y96 : FTO S T8 4 (rPl S aa) := fto_p (by rw [q34]; exact f96 f64) W64.1
          refine y_if_eq rfl rfl (by unfold rg; omega) (fun w105 => ?_) (fun w106 => ?_)
          · refine y_iconst rfl ?_
            refine y_ireturn rfl rfl ?_
            exact ⟨hHT8, hFT8, _, rfl, ⟨by omega, by omega⟩, (by first | (have t := K96; exact ⟨fun q => absurd q N90.o, fun _ => ⟨by omega, Y96⟩⟩) | exact ⟨fun _ => ⟨rfl, R64⟩, fun q => absurd Y102.o q⟩)⟩
          · exfalso; omega
    · refine y_iload_n rfl rfl ?_
      refine y_iconst rfl ?_
      refine y_iadd rfl ?_
      refine y_goto rfl rfl ?_
      refine y_callV rfl rfl rfl (t_to_behindArt__p hH (aa + 1) ⟨by omega, by omega⟩ _) ?_
      rintro _ _ ⟨rfl, z111, rfl, w111, w109, w110⟩
      show Pl _ _ _ _ _ _ [iv z111] _ _
      have gq34 := w109
      clear w109
      have q34 : rPl S aa = z111 := by unfold rPl; first | (rw [if_pos (by omega)]; exact gq34) | (rw [if_neg (by omega)]; exact gq34)
      refine y_istore_n rfl rfl rfl ?_
      refine y_aload_n rfl rfl ?_
      refine y_iload_n rfl rfl ?_
      refine y_callS rfl rfl (by decide) rfl (t_rr_wayOf__p hH z8 ⟨by omega, by omega⟩ _) ?_
      rintro _ _ ⟨rfl, z112, rfl, w112, w40⟩
      show Pl _ _ _ _ _ _ [iv z112, .ref 891] _ _
      have K40 : z112 = wyC (ty7 S aa) := by rw [q5]; exact w40
      have b40 := wy_rg (k := ty7 S aa)
      clear w40
      refine y_pfi rfl rfl rfl rfl ?_
      obtain ⟨U9, eU9⟩ : ∃ T : sS, T = uI S 891 11 (Int32.ofInt z112) := ⟨_, rfl⟩
      rw [← eU9]
      have hHU9 : RI U9 := by rw [eU9]; exact RI_w hH
      have hFU9 : FR md_re_takePlace__p S U9 := by rw [eU9]; exact FR.wI hF (mdf_i (r := (891, 892, 11, 12)) (List.mem_of_getElem? (i := 2) rfl) (inR_i (by omega) (by omega) (by omega) (by omega)))
      have w113 : Xi U9 891 11 = z112 := by rw [eU9]; exact Xi_same (by unfold rg; omega)
      have ee43 := eU9
      have g43 : Xi U9 891 11 = wyC (ty7 S aa) := by rw [eU9, ← K40]; exact Xi_same (by unfold rg; omega)
      refine y_aload_n rfl rfl ?_
      refine y_aload_n rfl rfl ?_
      refine y_gfr rfl rfl rfl rfl rfl (hHU9.r 891 4 895 rfl) ?_
      refine y_iconst rfl ?_
      refine y_iload_n rfl rfl ?_
      refine y_aload_n rfl rfl ?_
      refine y_gfr rfl rfl rfl rfl rfl (hHU9.r 891 0 876 rfl) ?_
      refine y_iload_n rfl rfl ?_
      have w114 : Xi U9 876 7 = Xi S 876 7 := (show Xi U9 876 7 = Xi S 876 7 from by rw [eU9]; exact Xi_ne (by omega))
      have w115 : Xi U9 876 8 = Xi S 876 8 := (show Xi U9 876 8 = Xi S 876 8 from by rw [eU9]; exact Xi_ne (by omega))
      have w116 : Xi U9 891 12 = Xi S 891 12 := (show Xi U9 891 12 = Xi S 891 12 from by rw [eU9]; exact Xi_ne (by omega))
      refine y_callV rfl rfl rfl (t_to_runEnd__p hHU9 z111 ⟨by omega, by omega⟩ _) ?_
      rintro _ _ ⟨rfl, z119, rfl, w119, w117, w118⟩
      show Pl _ _ _ _ _ _ [iv z119, iv z111, iv 2, .ref 895, .ref 891] _ _
      have gq58 := w117
      rw [FRT hFU9 rfl rfl] at gq58
      try rw [show Xi U9 890 1 = Xi S 890 1 by omega] at gq58
      clear w117
      have w120 : Xi U9 1 3 = Xi S 1 3 := (show Xi U9 1 3 = Xi S 1 3 from by rw [eU9]; exact Xi_ne (by omega))
      refine y_callV rfl rfl rfl (t_me_find__p hHU9 2 z111 z119 ⟨by omega, by omega⟩ ⟨by omega, by omega⟩ ⟨by omega, by omega⟩ (by first | assumption | omega) (by first | assumption | exact (CEN_FR hFU9 rfl rfl (by assumption : CEN S))) _) ?_
      rintro _ _ ⟨rfl, z123, rfl, w123, v61⟩
      show Pl _ _ _ _ _ _ [iv z123, .ref 891] _ _
      have K61 : z123 = hPl S aa := by unfold hPl; have t := v61; rw [fnd_eq (SMV_w SMV.rf ee43 (by omega) (by omega) (by omega)), ← gq58, ← q34] at t; exact t
      clear v61
      refine y_pfi rfl rfl rfl rfl ?_
      obtain ⟨U10, eU10⟩ : ∃ T : sS, T = uI U9 891 12 (Int32.ofInt z123) := ⟨_, rfl⟩
      rw [← eU10]
      have hHU10 : RI U10 := by rw [eU10]; exact RI_w hHU9
      have hFU10 : FR md_re_takePlace__p S U10 := by rw [eU10]; exact FR.wI hFU9 (mdf_i (r := (891, 892, 12, 13)) (List.mem_of_getElem? (i := 3) rfl) (inR_i (by omega) (by omega) (by omega) (by omega)))
      have w124 : Xi U10 891 12 = z123 := by rw [eU10]; exact Xi_same (by unfold rg; omega)
      have R64 : U10 = uI (uI S 891 11 (Int32.ofInt (wyC (ty7 S aa)))) 891 12 (Int32.ofInt (hPl S aa)) := by rw [eU10, ee43, K40, K61]
      have W64 := pl_w ee43 eU10
      have f64 : Xi U10 876 8 = 0 := by rw [W64.2.2.2 _ _ (by omega)]; exact hf
      have h64 : Xi U10 891 12 = hPl S aa := by rw [eU10, ← K61]; exact Xi_same (by unfold rg; omega)
      have g64 : Xi U10 891 11 = wyC (ty7 S aa) := by rw [eU10, Xi_ne (by omega), ee43, ← K40]; exact Xi_same (by unfold rg; omega)
      refine y_aload_n rfl rfl ?_
      refine y_gfi rfl rfl rfl rfl rfl ?_
      refine y_iconst rfl ?_
      refine y_icmp_eq rfl rfl (by unfold rg; omega) (by unfold rg; omega) (fun w125 => ?_) (fun w126 => ?_)
      · refine y_aload_n rfl rfl ?_
        have N90 : Hid (¬ (hPl S aa ≠ -1 ∧ chC S (hPl S aa) (wyC (ty7 S aa)) ≠ 0)) := fun q => by first | (have t := K84; have u := q.2; omega) | (have u := q.1; omega)
        refine y_gfr rfl rfl rfl rfl rfl (hHU10.r 891 0 876 rfl) ?_
        refine y_iconst rfl ?_
        refine y_iload_n rfl rfl ?_
        have w127 : Xi U10 876 8 = Xi S 876 8 := (show Xi U10 876 8 = Xi U9 876 8 from by rw [eU10]; exact Xi_ne (by omega)).trans ((show Xi U9 876 8 = Xi S 876 8 from by rw [eU9]; exact Xi_ne (by omega)))
        have w128 : Xi U10 876 9 = Xi S 876 9 := (show Xi U10 876 9 = Xi U9 876 9 from by rw [eU10]; exact Xi_ne (by omega)).trans ((show Xi U9 876 9 = Xi S 876 9 from by rw [eU9]; exact Xi_ne (by omega)))
        have w129 : Xi U10 891 11 = Xi U9 891 11 := (show Xi U10 891 11 = Xi U9 891 11 from by rw [eU10]; exact Xi_ne (by omega))
        refine y_callV rfl rfl rfl (t_to_wrong__p hHU10 4 z111 ⟨by omega, by omega⟩ ⟨by omega, by omega⟩ _) ?_
        rintro _ T11 ⟨hHT11, w133, z132, rfl, w132, w130, f96, w131⟩
        have hFT11 : FR md_re_takePlace__p S T11 := FR.tr hFU10 w133 rfl
        show Pl _ _ _ _ _ _ [iv z132] _ _
        have K96 : True := trivial
        have Y96 : FTO S T11 4 (rPl S aa) := fto_p (by rw [q34]; exact f96 f64) W64.1
        refine y_if_eq rfl rfl (by unfold rg; omega) (fun w134 => ?_) (fun w135 => ?_)
        · refine y_iconst rfl ?_
          refine y_ireturn rfl rfl ?_
          exact ⟨hHT11, hFT11, _, rfl, ⟨by omega, by omega⟩, (by first | (have t := K96; exact ⟨fun q => absurd q N90.o, fun _ => ⟨by omega, Y96⟩⟩) | exact ⟨fun _ => ⟨rfl, R64⟩, fun q => absurd Y102.o q⟩)⟩
        · exfalso; omega
      · refine y_aload_n rfl rfl ?_
        refine y_aload_n rfl rfl ?_
        refine y_gfi rfl rfl rfl rfl rfl ?_
        refine y_aload_n rfl rfl ?_
        refine y_gfi rfl rfl rfl rfl rfl ?_
        have w138 : (Xi U10 891 11) = (Xi U9 891 11) := (show Xi U10 891 11 = Xi U9 891 11 from by rw [eU10]; exact Xi_ne (by omega))
        rw [w138]
        have w139 : Xi U10 876 8 = Xi S 876 8 := (show Xi U10 876 8 = Xi U9 876 8 from by rw [eU10]; exact Xi_ne (by omega)).trans ((show Xi U9 876 8 = Xi S 876 8 from by rw [eU9]; exact Xi_ne (by omega)))
        have w140 : Xi U10 891 11 = Xi U9 891 11 := (show Xi U10 891 11 = Xi U9 891 11 from by rw [eU10]; exact Xi_ne (by omega))
        refine y_callV rfl rfl rfl (t_re_canHold__p hHU10 (Xi U10 891 12) (Xi U9 891 11) ⟨by omega, by omega⟩ ⟨by omega, by omega⟩ _) ?_
        rintro _ _ ⟨rfl, z141, rfl, w141, w84⟩
        show Pl _ _ _ _ _ _ [iv z141] _ _
        have K84 : z141 = chC S (hPl S aa) (wyC (ty7 S aa)) := by have t := w84; rw [chC_eq (fun j => W64.2.2.2 6 j (by omega)) (fun j => W64.2.2.2 21 j (by omega)), h64] at t; first | (rw [g43] at t; exact t) | (rw [g64] at t; exact t)
        clear w84
        refine y_if_ne rfl rfl (by unfold rg; omega) (fun w142 => ?_) (fun w143 => ?_)
        · refine y_iconst rfl ?_
          have Y102 : Hid (hPl S aa ≠ -1 ∧ chC S (hPl S aa) (wyC (ty7 S aa)) ≠ 0) := ⟨by omega, by omega⟩
          refine y_goto rfl rfl ?_
          refine y_ireturn rfl rfl ?_
          exact ⟨hHU10, hFU10, _, rfl, ⟨by omega, by omega⟩, (by first | (have t := K96; exact ⟨fun q => absurd q N90.o, fun _ => ⟨by omega, Y96⟩⟩) | exact ⟨fun _ => ⟨rfl, R64⟩, fun q => absurd Y102.o q⟩)⟩
        · refine y_aload_n rfl rfl ?_
          have N90 : Hid (¬ (hPl S aa ≠ -1 ∧ chC S (hPl S aa) (wyC (ty7 S aa)) ≠ 0)) := fun q => by first | (have t := K84; have u := q.2; omega) | (have u := q.1; omega)
          refine y_gfr rfl rfl rfl rfl rfl (hHU10.r 891 0 876 rfl) ?_
          refine y_iconst rfl ?_
          refine y_iload_n rfl rfl ?_
          have w147 : Xi U10 876 9 = Xi S 876 9 := (show Xi U10 876 9 = Xi U9 876 9 from by rw [eU10]; exact Xi_ne (by omega)).trans ((show Xi U9 876 9 = Xi S 876 9 from by rw [eU9]; exact Xi_ne (by omega)))
          refine y_callV rfl rfl rfl (t_to_wrong__p hHU10 4 z111 ⟨by omega, by omega⟩ ⟨by omega, by omega⟩ _) ?_
          rintro _ T12 ⟨hHT12, w152, z151, rfl, w151, w149, f96, w150⟩
          have hFT12 : FR md_re_takePlace__p S T12 := FR.tr hFU10 w152 rfl
          show Pl _ _ _ _ _ _ [iv z151] _ _
          have K96 : True := trivial
          have Y96 : FTO S T12 4 (rPl S aa) := fto_p (by rw [q34]; exact f96 f64) W64.1
          refine y_if_eq rfl rfl (by unfold rg; omega) (fun w153 => ?_) (fun w154 => ?_)
          · refine y_iconst rfl ?_
            refine y_ireturn rfl rfl ?_
            exact ⟨hHT12, hFT12, _, rfl, ⟨by omega, by omega⟩, (by first | (have t := K96; exact ⟨fun q => absurd q N90.o, fun _ => ⟨by omega, Y96⟩⟩) | exact ⟨fun _ => ⟨rfl, R64⟩, fun q => absurd Y102.o q⟩)⟩
          · exfalso; omega
def md_re_takeDescription__p : List rec := [(876, 877, 8, 9), (876, 877, 9, 10), (895, 896, 8, 9), (895, 896, 9, 10), (895, 896, 12, 13), (895, 896, 13, 14), (895, 896, 14, 15), (896, 897, 0, 100000), (897, 898, 0, 100000), (898, 899, 0, 100000)]
abbrev Q_re_takeDescription__p (S : sS) (from_ : Int) (to : Int) (plur : Int) : pst := fun r S1 => RI S1 ∧ FR md_re_takeDescription__p S S1 ∧ (∃ z : Int, r = some (iv z) ∧ (0 ≤ z ∧ z ≤ 1) ∧ (TDS S S1 z from_ to plur))
set_option maxRecDepth 100000 in
theorem t_re_takeDescription__p {S : sS} (hH : RI S) (from_ : Int) (to : Int) (plur : Int) (hfrom_ : 0 ≤ from_ ∧ from_ ≤ 5140) (hto : 0 ≤ to ∧ to ≤ 5140) (hplur : 0 ≤ plur ∧ plur ≤ 1) (h13 : 0 ≤ Xi S 1 3 ∧ Xi S 1 3 ≤ 200) (hCE : CEN S) (hf : Xi S 876 8 = 0) (d : Nat) : Mp lay0 (d + 5) m_re_takeDescription [.ref 891, iv from_, iv to, iv plur] S (Q_re_takeDescription__p S from_ to plur) := by
  refine Mp_R rfl rfl (fun fu => ?_)
  have hF : FR md_re_takeDescription__p S S := FR.rf
  have w1 : -2147483648 ≤ Xi S 1 3 ∧ Xi S 1 3 ≤ 2147483647 := Xi_rgI
  have w2 : -2147483648 ≤ Xi S 876 8 ∧ Xi S 876 8 ≤ 2147483647 := Xi_rgI
  have w3 : -2147483648 ≤ Xi S 895 12 ∧ Xi S 895 12 ≤ 2147483647 := Xi_rgI
  have w4 : -2147483648 ≤ Xi S 895 13 ∧ Xi S 895 13 ≤ 2147483647 := Xi_rgI
  refine y_aload_n rfl rfl ?_
  refine y_gfr rfl rfl rfl rfl rfl (hH.r 891 4 895 rfl) ?_
  refine y_iload_n rfl rfl ?_
  refine y_iload_n rfl rfl ?_
  refine y_iload_n rfl rfl ?_
  refine y_iconst rfl ?_
  refine y_iconst rfl ?_
  refine y_callV rfl rfl rfl (t_me_countReadings__p hH from_ to plur 0 (-1) ⟨by omega, by omega⟩ ⟨by omega, by omega⟩ ⟨by omega, by omega⟩ ⟨by omega, by omega⟩ ⟨by omega, by omega⟩ (by first | assumption | omega) (by first | assumption | exact (CEN_FR hF rfl rfl (by assumption : CEN S))) _) ?_
  rintro _ T1 ⟨hHT1, w6, z5, rfl, w5, o9⟩
  have hFT1 : FR md_re_takeDescription__p S T1 := FR.tr hF w6 rfl
  show Pl _ _ _ _ _ _ [iv z5] _ _
  have O9 := Hid.i o9
  clear o9
  have F9 := (by assumption : FR md_me_countReadings__p S T1)
  have f9 : Xi T1 876 8 = 0 := (F9.x 876 8 rfl).trans hf
  obtain ⟨zz, hzz⟩ : ∃ w : Int, w = z5 := ⟨_, rfl⟩
  refine y_istore rfl rfl rfl ?_
  refine y_iload rfl rfl ?_
  refine y_iconst rfl ?_
  refine y_icmp_eq rfl rfl (by unfold rg; omega) (by unfold rg; omega) (fun w7 => ?_) (fun w8 => ?_)
  · refine y_aload_n rfl rfl ?_
    have c40 : to - from_ ≤ 6 := by by_cases c : to - from_ ≤ 6; exact c; (have u := O9.o.2 (by omega); omega)
    have m40 := Hid.i ((O9.o.1 c40).2 (by omega))
    have t40 : ccT S from_ to plur 0 (-1) 4 = 1 := by have u := (O9.o.1 c40).1; omega
    have V40 : SMV S T1 := SMV_FR F9 rfl rfl
    have p40 : Hid (from_ ≤ Xi T1 895 13 ∧ Xi T1 895 13 - from_ ≤ 5 ∧ 0 < cpF T1 (Xi T1 895 12) from_ (Xi T1 895 13) 0) := by obtain ⟨m, a1, a2, a3, a4, a5⟩ := m40.o; rw [a5, a4, cpF_FR F9 rfl, ← ccc_y (ccp a2)]; exact ⟨by omega, by omega, a2⟩
    refine y_gfr rfl rfl rfl rfl rfl (hHT1.r 891 4 895 rfl) ?_
    refine y_iload_n rfl rfl ?_
    refine y_iconst rfl ?_
    have w9 : Xi T1 1 3 = Xi S 1 3 := (show Xi T1 1 3 = Xi S 1 3 from w6.x _ _ rfl)
    have w10 : Xi T1 876 8 = Xi S 876 8 := (show Xi T1 876 8 = Xi S 876 8 from w6.x _ _ rfl)
    refine y_callV rfl rfl rfl (t_me_keepReading__p hHT1 from_ 0 ⟨by omega, by omega⟩ ⟨by omega, by omega⟩ (by first | assumption | omega) (by first | assumption | exact (CEN_FR hFT1 rfl rfl (by assumption : CEN S))) (⟨p40.o.1, p40.o.2.1⟩) (p40.o.2.2) _) ?_
    rintro _ T2 ⟨hHT2, w12, rfl, o46⟩
    have hFT2 : FR md_re_takeDescription__p S T2 := FR.tr hFT1 w12 rfl
    show Pl _ _ _ _ _ _ [] _ _
    have K46 : True := trivial
    have F46 := (by assumption : FR md_me_keepReading__p T1 T2)
    have R46 : TDS S T2 1 from_ to plur := by obtain ⟨m, a1, a2, a3, a4, a5⟩ := m40.o; have t := o46; rw [a4, a5, fA_FR F9 rfl, g1C_FR F9 rfl, g2C_FR F9 rfl] at t; exact ⟨fun a => by rcases a with a | a <;> omega, fun _ b => by omega, fun _ _ => ⟨rfl, by rw [F46.x 876 8 rfl, F9.x 876 8 rfl], m, ⟨a1.1, by omega, a1.2.2⟩, ccT_1 t40 (by omega) a1.2.2 a2, (F46.x 895 12 rfl).trans a4, (F46.x 895 13 rfl).trans a5, t⟩⟩
    refine y_iconst rfl ?_
    refine y_ireturn rfl rfl ?_
    have w13 : Xi T2 1 3 = Xi S 1 3 := (show Xi T2 1 3 = Xi T1 1 3 from w12.x _ _ rfl).trans ((show Xi T1 1 3 = Xi S 1 3 from w6.x _ _ rfl))
    have w14 : Xi T2 876 8 = Xi S 876 8 := (show Xi T2 876 8 = Xi T1 876 8 from w12.x _ _ rfl).trans ((show Xi T1 876 8 = Xi S 876 8 from w6.x _ _ rfl))
    have w15 : Xi T2 895 12 = Xi T1 895 12 := (show Xi T2 895 12 = Xi T1 895 12 from w12.x _ _ rfl)
    have w16 : Xi T2 895 13 = Xi T1 895 13 := (show Xi T2 895 13 = Xi T1 895 13 from w12.x _ _ rfl)
    exact ⟨hHT2, hFT2, _, rfl, ⟨by omega, by omega⟩, (by first | (have t := K46; exact R46) | (have t := K36; first | (have t := J29; exact ⟨fun _ => ⟨by omega, Y36⟩, fun a b => absurd O9.o (fun q => by have u := (q.1 a).1; omega), fun a b => absurd O9.o (fun q => by have u := (q.1 a).1; omega)⟩) | exact ⟨fun a => absurd O9.o (fun q => by rcases a with a | a; (have u := q.2 a; omega); (by_cases c : to - from_ ≤ 6; (have u := (q.1 c).1; omega); (have u := q.2 (by omega); omega))), fun _ _ => ⟨by omega, Y36⟩, fun a b => absurd O9.o (fun q => by have u := (q.1 a).1; omega)⟩))⟩
  · refine y_aload_n rfl rfl ?_
    refine y_gfr rfl rfl rfl rfl rfl (hHT1.r 891 0 876 rfl) ?_
    refine y_iload rfl rfl ?_
    refine y_if_ne rfl rfl (by unfold rg; omega) (fun w17 => ?_) (fun w18 => ?_)
    · refine y_bipush rfl rfl ?_
      refine y_iload_n rfl rfl ?_
      have w20 : Xi T1 876 8 = Xi S 876 8 := (show Xi T1 876 8 = Xi S 876 8 from w6.x _ _ rfl)
      have w21 : Xi T1 876 9 = Xi S 876 9 := (show Xi T1 876 9 = Xi S 876 9 from w6.x _ _ rfl)
      refine y_callV rfl rfl rfl (t_to_wrong__p hHT1 7 from_ ⟨by omega, by omega⟩ ⟨by omega, by omega⟩ _) ?_
      rintro _ T3 ⟨hHT3, w25, z24, rfl, w24, w22, f36, w23⟩
      have hFT3 : FR md_re_takeDescription__p S T3 := FR.tr hFT1 w25 rfl
      show Pl _ _ _ _ _ _ [iv z24] _ _
      have K36 : True := trivial
      have Y36 : FTO S T3 _ from_ := fto_p (f36 f9) (pc7_FR F9 rfl rfl rfl)
      refine y_ireturn rfl (retI_z (by omega)) ?_
      have w26 : Xi T3 1 3 = Xi S 1 3 := (show Xi T3 1 3 = Xi T1 1 3 from w25.x _ _ rfl).trans ((show Xi T1 1 3 = Xi S 1 3 from w6.x _ _ rfl))
      have w27 : Xi T3 895 12 = Xi T1 895 12 := (show Xi T3 895 12 = Xi T1 895 12 from w25.x _ _ rfl)
      have w28 : Xi T3 895 13 = Xi T1 895 13 := (show Xi T3 895 13 = Xi T1 895 13 from w25.x _ _ rfl)
      exact ⟨hHT3, hFT3, _, rfl, ⟨by omega, by omega⟩, (by first | (have t := K46; exact R46) | (have t := K36; first | (have t := J29; exact ⟨fun _ => ⟨by omega, Y36⟩, fun a b => absurd O9.o (fun q => by have u := (q.1 a).1; omega), fun a b => absurd O9.o (fun q => by have u := (q.1 a).1; omega)⟩) | exact ⟨fun a => absurd O9.o (fun q => by rcases a with a | a; (have u := q.2 a; omega); (by_cases c : to - from_ ≤ 6; (have u := (q.1 c).1; omega); (have u := q.2 (by omega); omega))), fun _ _ => ⟨by omega, Y36⟩, fun a b => absurd O9.o (fun q => by have u := (q.1 a).1; omega)⟩))⟩
    · refine y_iconst rfl ?_
      have J29 : True := trivial
      refine y_goto rfl rfl ?_
      refine y_iload_n rfl rfl ?_
      have w30 : Xi T1 876 8 = Xi S 876 8 := (show Xi T1 876 8 = Xi S 876 8 from w6.x _ _ rfl)
      have w31 : Xi T1 876 9 = Xi S 876 9 := (show Xi T1 876 9 = Xi S 876 9 from w6.x _ _ rfl)
      refine y_callV rfl rfl rfl (t_to_wrong__p hHT1 4 from_ ⟨by omega, by omega⟩ ⟨by omega, by omega⟩ _) ?_
      rintro _ T4 ⟨hHT4, w35, z34, rfl, w34, w32, f36, w33⟩
      have hFT4 : FR md_re_takeDescription__p S T4 := FR.tr hFT1 w35 rfl
      show Pl _ _ _ _ _ _ [iv z34] _ _
      have K36 : True := trivial
      have Y36 : FTO S T4 _ from_ := fto_p (f36 f9) (pc7_FR F9 rfl rfl rfl)
      refine y_ireturn rfl (retI_z (by omega)) ?_
      have w36 : Xi T4 1 3 = Xi S 1 3 := (show Xi T4 1 3 = Xi T1 1 3 from w35.x _ _ rfl).trans ((show Xi T1 1 3 = Xi S 1 3 from w6.x _ _ rfl))
      have w37 : Xi T4 895 12 = Xi T1 895 12 := (show Xi T4 895 12 = Xi T1 895 12 from w35.x _ _ rfl)
      have w38 : Xi T4 895 13 = Xi T1 895 13 := (show Xi T4 895 13 = Xi T1 895 13 from w35.x _ _ rfl)
      exact ⟨hHT4, hFT4, _, rfl, ⟨by omega, by omega⟩, (by first | (have t := K46; exact R46) | (have t := K36; first | (have t := J29; exact ⟨fun _ => ⟨by omega, Y36⟩, fun a b => absurd O9.o (fun q => by have u := (q.1 a).1; omega), fun a b => absurd O9.o (fun q => by have u := (q.1 a).1; omega)⟩) | exact ⟨fun a => absurd O9.o (fun q => by rcases a with a | a; (have u := q.2 a; omega); (by_cases c : to - from_ ≤ 6; (have u := (q.1 c).1; omega); (have u := q.2 (by omega); omega))), fun _ _ => ⟨by omega, Y36⟩, fun a b => absurd O9.o (fun q => by have u := (q.1 a).1; omega)⟩))⟩
/-! words are only added -/
def GRW (S W : sS) : Prop := Xi S 1 3 ≤ Xi W 1 3 ∧ (∀ j : Nat, (j : Int) < Xi S 1 3 → Xi W 3 j = Xi S 3 j ∧ Xi W 4 j = Xi S 4 j ∧ ∀ t : Nat, t < 3 → Xj W 2 (3 * j + t) = Xj S 2 (3 * j + t)) ∧ ∀ j, Xj W 879 j = Xj S 879 j
theorem GRW.rf {S : sS} : GRW S S := ⟨Int.le_refl _, fun _ _ => ⟨rfl, rfl, fun _ _ => rfl⟩, fun _ => rfl⟩
theorem GRW.tr {S U V : sS} (h : GRW S U) (k : GRW U V) : GRW S V := ⟨Int.le_trans h.1 k.1, fun j hj => by
  have a := h.2.1 j hj
  have b := k.2.1 j (by have := h.1; omega)
  exact ⟨b.1.trans a.1, b.2.1.trans a.2.1, fun t ht => (b.2.2 t ht).trans (a.2.2 t ht)⟩, fun j => (k.2.2 j).trans (h.2.2 j)⟩
theorem SMV.g {S U : sS} (h : SMV S U) : GRW S U := ⟨by rw [h.1]; exact Int.le_refl _, fun j _ => ⟨h.2.2.1 j, h.2.2.2.1 j, fun t _ => h.2.1 _⟩, h.2.2.2.2⟩
theorem msc_g {S W : sS} {a b c : Int} (h : ∀ j : Nat, (j : Int) < Xi S 1 3 → Xi W 3 j = Xi S 3 j ∧ Xi W 4 j = Xi S 4 j ∧ ∀ t : Nat, t < 3 → Xj W 2 (3 * j + t) = Xj S 2 (3 * j + t)) : ∀ (m k i : Nat), ((i + m : Nat) : Int) ≤ Xi S 1 3 → msc S a b c m i ≠ -1 → msc W a b c (m + k) i = msc S a b c m i
  | 0, _, _, _, q => absurd rfl q
  | m + 1, k, i, hi, q => by
    have e := h i (by omega)
    have e0 := e.2.2 0 (by omega)
    have e1 := e.2.2 1 (by omega)
    have e2 := e.2.2 2 (by omega)
    rw [Nat.add_zero] at e0
    rw [show m + 1 + k = m + k + 1 by omega]
    show (if Xj W 2 (3 * i) = a ∧ Xj W 2 (3 * i + 1) = b ∧ Xj W 2 (3 * i + 2) = c then Xi W 3 i * 256 + Xi W 4 i else msc W a b c (m + k) (i + 1)) = (if Xj S 2 (3 * i) = a ∧ Xj S 2 (3 * i + 1) = b ∧ Xj S 2 (3 * i + 2) = c then Xi S 3 i * 256 + Xi S 4 i else msc S a b c m (i + 1))
    have q2 : (if Xj S 2 (3 * i) = a ∧ Xj S 2 (3 * i + 1) = b ∧ Xj S 2 (3 * i + 2) = c then Xi S 3 i * 256 + Xi S 4 i else msc S a b c m (i + 1)) ≠ -1 := q
    rw [e0, e1, e2, e.1, e.2.1]
    by_cases w : Xj S 2 (3 * i) = a ∧ Xj S 2 (3 * i + 1) = b ∧ Xj S 2 (3 * i + 2) = c
    · rw [if_pos w, if_pos w]
    · rw [if_neg w] at q2
      rw [if_neg w, if_neg w]
      exact msc_g h m k (i + 1) (by omega) q2
theorem grw_m {S W : sS} {a b : Int} (h : GRW S W) (h0 : 0 ≤ Xi S 1 3) (q : mnV S a b ≠ -1) : mnV W a b = mnV S a b := by
  unfold mnV at q ⊢
  split
  · rename_i c
    rw [if_pos c] at q
    unfold mnR mnF at q ⊢
    rw [h.2.2, h.2.2, h.2.2]
    have t := msc_g h.2.1 (Xi S 1 3).toNat ((Xi W 1 3).toNat - (Xi S 1 3).toNat) 0 (by omega) q
    rw [show (Xi S 1 3).toNat + ((Xi W 1 3).toNat - (Xi S 1 3).toNat) = (Xi W 1 3).toNat by have := h.1; omega] at t
    exact t
  · rfl
theorem grw_f {S W : sS} {s a b : Int} (h : GRW S W) (h0 : 0 ≤ Xi S 1 3) (hs : 0 ≤ s) (q : fnd S s a b ≠ -1) : fnd W s a b = fnd S s a b := by
  have m : mnV S a b ≠ -1 := fun w => q (fnd_no w hs)
  unfold fnd
  rw [grw_m h h0 m]
/-- words of objects have numbers of objects -/
def WH2 (S : sS) : Prop := ∀ j : Nat, (j : Int) < Xi S 1 3 → Xi S 3 j = 2 → Xi S 4 j < Xi S 5 2
theorem WH2_v {S U : sS} (h : WH2 S) (s : SMV S U) (c : Xi U 5 2 = Xi S 5 2) : WH2 U := fun j hj e => by
  rw [s.2.2.1] at e
  rw [s.2.2.2.1, c]
  exact h j (by have := s.1; omega) e
theorem nmi_g {S A : sS} {f t : Int} {i : Nat} (n : NMI S A i 2 (Xi S 5 2) (wRw S 879 f t 0) (wRw S 879 f t 1) (wRw S 879 f t 2)) (w : WH2 S) (x : ∀ j, Xj A 879 j = Xj S 879 j) : GRW S A ∧ Xi A 1 3 = Xi S 1 3 + 1 ∧ (Xi A 5 2 = Xi S 5 2 + 1 → WH2 A) := by
  obtain ⟨n1, n2, n3⟩ := n
  have ap : Xi A 1 3 = Xi S 1 3 + 1 ∧ (i : Int) = Xi S 1 3 := by
    rcases n3 with ⟨a, b, c, d⟩ | ⟨a, b, _⟩
    · have t := w i b c; omega
    · exact ⟨a, b⟩
  refine ⟨⟨by omega, fun j hj => ?_, x⟩, ap.1, fun c j hj e => ?_⟩
  · obtain ⟨p, q, r⟩ := n2 j (by omega)
    exact ⟨p, q, r⟩
  · by_cases q : j = i
    · rw [q, n1.2.1]; omega
    · obtain ⟨p, r, _⟩ := n2 j q
      rw [p] at e
      rw [r]
      have t := w j (by omega) e
      omega
theorem obn_g {S A : sS} {z f t k : Int} (o : OBN S A z f t k) (w : WH2 S) (x : ∀ j, Xj A 879 j = Xj S 879 j) : GRW S A ∧ WH2 A ∧ (fnd S 2 f t ≠ -1 → Xi A 1 3 = Xi S 1 3 ∧ Xi A 5 2 = Xi S 5 2) ∧ (fnd S 2 f t = -1 → Xi A 1 3 = Xi S 1 3 + 1 ∧ Xi A 5 2 = Xi S 5 2 + 1) := by
  obtain ⟨o1, o2⟩ := o
  by_cases q : fnd S 2 f t = -1
  · obtain ⟨_, ⟨i, n⟩, c, _⟩ := o2 q
    obtain ⟨g1, g2, g3⟩ := nmi_g n w x
    exact ⟨g1, g3 c, fun y => absurd q y, fun _ => ⟨g2, c⟩⟩
  · have e := (o1 q).2
    subst e
    exact ⟨GRW.rf, w, fun _ => ⟨rfl, rfl⟩, fun y => absurd y q⟩
/-! one object of a LIST is told -/
def lON : List rec := [(1, 2, 3, 4), (2, 3, 0, 100000), (3, 4, 0, 100000), (4, 5, 0, 100000), (5, 6, 0, 100000), (21, 22, 0, 100000), (22, 23, 0, 100000), (23, 24, 0, 100000)]
def OBF (W A : sS) (o a e k : Int) : Prop := OBN W A o a e k ∧ FR lON W A
def DO1 (W V : sS) (o a e ds k wy hd : Int) : Prop := ∃ A B : sS, OBF W A o a e (if ds = 0 then 0 else k) ∧ (ds = 0 → B = A) ∧ (ds ≠ 0 → ∃ C : sS, TKDC A C 1 o k ∧ TAC C B 1 o) ∧ (wy = 0 → V = B) ∧ (wy ≠ 0 → TPLC B V 0 o wy hd)
def DOF (W : sS) (o a e ds k wy hd c : Int) : Prop := ∃ A : sS, OBF W A o a e (if ds = 0 then 0 else k) ∧
  ((ds ≠ 0 ∧ c = 5 ∧ ∃ C : sS, TKDC A C 0 o k) ∨ (ds ≠ 0 ∧ c = 5 ∧ ∃ C B : sS, TKDC A C 1 o k ∧ TAC C B 0 o) ∨ (wy ≠ 0 ∧ c ≠ 0 ∧ ∃ B V : sS, (ds = 0 → B = A) ∧ (ds ≠ 0 → ∃ C : sS, TKDC A C 1 o k ∧ TAC C B 1 o) ∧ TPLC B V c o wy hd))
def DOC (S : sS) (ds k wy hd : Int) : Nat → sS → Int → Prop
  | 0, V, f => V = S ∧ f = -1
  | n + 1, V, f => ∃ (W : sS) (o g : Int), DOC S ds k wy hd n W g ∧ DO1 W V o (kr7 (ty7 S) n) (re7 (ty7 S) (kr7 (ty7 S) n)) ds k wy hd ∧ f = if g = -1 then o else g
def DOB (S S1 : sS) (z ds : Int) : Prop :=
  (z = 1 → ∃ (V : sS) (f : Int), DOC S ds (Xi S 895 12) (Xi S 891 11) (Xi S 891 12) (nL S) V f ∧ S1 = uI V 891 10 (Int32.ofInt f) ∧ Xi S1 876 8 = 0) ∧
  (z = 0 → ∃ (i : Nat) (W : sS) (o g c : Int), i < nL S ∧ DOC S ds (Xi S 895 12) (Xi S 891 11) (Xi S 891 12) i W g ∧ DOF W o (kr7 (ty7 S) i) (re7 (ty7 S) (kr7 (ty7 S) i)) ds (Xi S 895 12) (Xi S 891 11) (Xi S 891 12) c ∧ FTO S S1 c (kr7 (ty7 S) i))
theorem fnd_w2 {S : sS} {a b : Int} (w : WH2 S) (h : CEN S) (q : fnd S 2 a b ≠ -1) : 0 ≤ fnd S 2 a b ∧ fnd S 2 a b < Xi S 5 2 := by
  have e : mnV S a b / 256 = 2 ∧ fnd S 2 a b = mnV S a b % 256 := by
    unfold fnd at q ⊢
    by_cases c : mnV S a b / 256 = 2
    · exact ⟨c, if_pos c⟩
    · rw [if_neg c] at q; exact absurd rfl q
  have m : mnV S a b ≠ -1 := fun c => by rw [c] at e; omega
  rw [e.2]
  have e1 := e.1
  clear e
  unfold mnV at m e1 ⊢
  by_cases c : 1 ≤ b - a ∧ b - a ≤ 3 ∧ 0 ≤ a ∧ b ≤ 5130
  · rw [if_pos c] at m e1 ⊢
    unfold mnR mnF at m e1 ⊢
    rcases msc_rg (S := S) (a := Xj S 879 a.toNat) (b := if 1 < (b - a).toNat then Xj S 879 (a.toNat + 1) else 0) (c := if 2 < (b - a).toNat then Xj S 879 (a.toNat + 2) else 0) (Xi S 1 3).toNat 0 with t | ⟨j, h1, h2, h3⟩
    · exact absurd t m
    · rw [h3] at e1 ⊢
      have c1 := h j (by omega)
      have c2 := w j (by omega) (by omega)
      omega
  · rw [if_neg c] at m; exact absurd rfl m
theorem ob_c {S T A : sS} {n : Nat} {z v e k : Int} (hlo : OKI S n) (G : GRW S T) (h0 : 0 ≤ Xi S 1 3) (w : WH2 T) (hce : CEN T) (c : Xi T 5 2 ≤ Xi S 5 2 + nwn S n) (hb : (nwn S n : Int) ≤ 24 - Xi S 5 2 ∨ nwn S n = 0) (h24 : Xi S 5 2 ≤ 24) (hc0 : 0 ≤ Xi T 5 2) (o : OBN T A z v e k) (hv : v = kr7 (ty7 S) n) (he : e = re7 (ty7 S) (kr7 (ty7 S) n)) (x : ∀ j, Xj A 879 j = Xj T 879 j) : (0 ≤ z ∧ z ≤ 23) ∧ Xi A 5 2 ≤ Xi S 5 2 + nwn S (n + 1) ∧ Xi A 5 2 ≤ 24 ∧ WH2 A ∧ GRW S A ∧ Xi A 1 3 - Xi T 1 3 = Xi A 5 2 - Xi T 5 2 ∧ Xi T 5 2 ≤ Xi A 5 2 := by
  subst hv; subst he
  obtain ⟨g1, g2, g3, g4⟩ := obn_g o w x
  have mono := nwn_m (S := S) (a := n) (b := n + 1) (by omega)
  by_cases q : fnd T 2 (kr7 (ty7 S) n) (re7 (ty7 S) (kr7 (ty7 S) n)) = -1
  · have f : fI S n = -1 := by
      by_cases y : fI S n = -1
      · exact y
      · have t := grw_f G h0 (by omega) (show fnd S 2 (kr7 (ty7 S) n) (re7 (ty7 S) (kr7 (ty7 S) n)) ≠ -1 from y)
        rw [q] at t
        exact absurd t.symm y
    rcases hlo with ⟨a1, a2⟩ | ⟨a1, a2⟩
    · exact absurd f a2
    · obtain ⟨y1, y2⟩ := g4 q
      have z1 := (o.2 q).1
      rw [nwn_y a1.1]
      exact ⟨⟨by omega, by omega⟩, by omega, by omega, g2, G.tr g1, by omega, by omega⟩
  · obtain ⟨y1, y2⟩ := g3 q
    have z1 := (o.1 q).1
    have r := fnd_w2 w hce q
    exact ⟨⟨by omega, by omega⟩, by omega, by omega, g2, G.tr g1, by omega, by omega⟩
theorem obn_cen {S A : sS} {z f t k : Int} (o : OBN S A z f t k) (h : CEN S) (hz : 0 ≤ z ∧ z ≤ 63) : CEN A := by
  obtain ⟨o1, o2⟩ := o
  by_cases q : fnd S 2 f t = -1
  · obtain ⟨a, n, _⟩ := o2 q
    exact cen_n h n (by omega) (by omega)
  · rw [(o1 q).2]; exact h
/-- what holds of a state while objects are told -/
def SI7 (S U : sS) (c : Nat) : Prop := (GRW S U ∧ WH2 U ∧ CEN U ∧ TX U) ∧ (Xi U 876 8 = 0 ∧ Xi U 5 2 ≤ Xi S 5 2 + c ∧ Xi S 5 2 ≤ Xi U 5 2 ∧ Xi U 5 2 ≤ 24 ∧ Xi U 1 3 - Xi S 1 3 ≤ Xi U 5 2 - Xi S 5 2 ∧ 0 ≤ Xi U 1 3)
theorem si7_v {S U V : sS} {c : Nat} (h : SI7 S U c) (s : SMV U V) (e : Xi V 5 2 = Xi U 5 2) (x : TX V) (f : Xi V 876 8 = 0) : SI7 S V c := by
  obtain ⟨⟨h1, h2, h3, h4⟩, g1, g2, g3, g4, g5, g6⟩ := h
  have e13 := s.1
  exact ⟨⟨h1.tr s.g, WH2_v h2 s e, CEN_v h3 s, x⟩, f, by omega, by omega, by omega, by omega, by omega⟩
def QA (S : sS) (ds k wy hd : Int) (n : Nat) (A : sS) (o f : Int) : Prop := ∃ (W : sS) (g : Int), DOC S ds k wy hd n W g ∧ OBF W A o (kr7 (ty7 S) n) (re7 (ty7 S) (kr7 (ty7 S) n)) (if ds = 0 then 0 else k) ∧ f = if g = -1 then o else g
def QB (S : sS) (ds k wy hd : Int) (n : Nat) (B : sS) (o f : Int) : Prop := ∃ (W A : sS) (g : Int), DOC S ds k wy hd n W g ∧ OBF W A o (kr7 (ty7 S) n) (re7 (ty7 S) (kr7 (ty7 S) n)) (if ds = 0 then 0 else k) ∧ f = (if g = -1 then o else g) ∧ (ds = 0 → B = A) ∧ (ds ≠ 0 → ∃ C : sS, TKDC A C 1 o k ∧ TAC C B 1 o)
/-- a fault at one name -/
def QF (S : sS) (ds k wy hd : Int) (n : Nat) (c : Int) : Prop := ∃ (W : sS) (o g : Int), DOC S ds k wy hd n W g ∧ DOF W o (kr7 (ty7 S) n) (re7 (ty7 S) (kr7 (ty7 S) n)) ds k wy hd c
theorem qa_b0 {S A : sS} {ds k wy hd o f : Int} {n : Nat} (h : QA S ds k wy hd n A o f) (hd0 : ds = 0) : QB S ds k wy hd n A o f := by
  obtain ⟨W, g, a, b, c⟩ := h
  exact ⟨W, A, g, a, b, c, fun _ => rfl, fun q => absurd hd0 q⟩
theorem qa_b1 {S A C B : sS} {ds k wy hd o f : Int} {n : Nat} (h : QA S ds k wy hd n A o f) (hd1 : ds ≠ 0) (t : TKDC A C 1 o k) (u : TAC C B 1 o) : QB S ds k wy hd n B o f := by
  obtain ⟨W, g, a, b, c⟩ := h
  exact ⟨W, A, g, a, b, c, fun q => absurd q hd1, fun _ => ⟨C, t, u⟩⟩
theorem qa_f1 {S A C : sS} {ds k wy hd o f : Int} {n : Nat} (h : QA S ds k wy hd n A o f) (hd1 : ds ≠ 0) (t : TKDC A C 0 o k) : QF S ds k wy hd n 5 := by
  obtain ⟨W, g, a, b, c⟩ := h
  exact ⟨W, o, g, a, A, b, Or.inl ⟨hd1, rfl, C, t⟩⟩
theorem qa_f2 {S A C B : sS} {ds k wy hd o f : Int} {n : Nat} (h : QA S ds k wy hd n A o f) (hd1 : ds ≠ 0) (t : TKDC A C 1 o k) (u : TAC C B 0 o) : QF S ds k wy hd n 5 := by
  obtain ⟨W, g, a, b, c⟩ := h
  exact ⟨W, o, g, a, A, b, Or.inr (Or.inl ⟨hd1, rfl, C, B, t, u⟩)⟩
theorem qb_f {S B V : sS} {ds k wy hd o f c : Int} {n : Nat} (h : QB S ds k wy hd n B o f) (hw : wy ≠ 0) (hc : c ≠ 0) (t : TPLC B V c o wy hd) : QF S ds k wy hd n c := by
  obtain ⟨W, A, g, a, b, d, e1, e2⟩ := h
  exact ⟨W, o, g, a, A, b, Or.inr (Or.inr ⟨hw, hc, B, V, e1, e2, t⟩)⟩
theorem qb_0 {S B : sS} {ds k wy hd o f : Int} {n : Nat} (h : QB S ds k wy hd n B o f) (hw : wy = 0) : DOC S ds k wy hd (n + 1) B f := by
  obtain ⟨W, A, g, a, b, d, e1, e2⟩ := h
  exact ⟨W, o, g, a, ⟨A, B, b, e1, e2, fun _ => rfl, fun q => absurd hw q⟩, d⟩
theorem qb_1 {S B V : sS} {ds k wy hd o f : Int} {n : Nat} (h : QB S ds k wy hd n B o f) (hw : wy ≠ 0) (t : TPLC B V 0 o wy hd) : DOC S ds k wy hd (n + 1) V f := by
  obtain ⟨W, A, g, a, b, d, e1, e2⟩ := h
  exact ⟨W, o, g, a, ⟨A, B, b, e1, e2, fun q => absurd q hw, fun _ => t⟩, d⟩
theorem si7_o {S T A : sS} {n : Nat} {z v e k : Int} {l : List rec} (h : SI7 S T (nwn S n)) (hlo : OKI S n) (h0 : 0 ≤ Xi S 1 3) (hb : (nwn S n : Int) ≤ 24 - Xi S 5 2 ∨ nwn S n = 0) (h24 : 0 ≤ Xi S 5 2 ∧ Xi S 5 2 ≤ 24) (o : OBN T A z v e k) (hv : v = kr7 (ty7 S) n) (he : e = re7 (ty7 S) (kr7 (ty7 S) n)) (F : FR l T A) (a1 : kdis l [(879, 880)] = true := by rfl) (a2 : mdf l 876 8 = false := by rfl) (a3 : (kdis l kX && !(mdf l 20 1)) = true := by rfl) : (0 ≤ z ∧ z ≤ 23) ∧ SI7 S A (nwn S (n + 1)) := by
  obtain ⟨⟨h1, h2, h3, h4⟩, g1, g2, g3, g4, g5, g6⟩ := h
  obtain ⟨q1, q2, q3, q4, q5, q6, q7⟩ := ob_c hlo h1 h0 h2 h3 g2 hb h24.2 (by omega) o hv he (fun j => (F.smk a1).xj 879 rfl j)
  exact ⟨q1, ⟨q5, q4, obn_cen o h3 (by omega), TX_FR F a3 h4⟩, (F.x 876 8 a2).trans g1, q2, by omega, q3, by omega, by omega⟩

def md_re_doObjects__p : List rec := [(1, 2, 3, 4), (2, 3, 0, 100000), (3, 4, 0, 100000), (4, 5, 0, 100000), (5, 6, 0, 100000), (21, 22, 0, 100000), (22, 23, 0, 100000), (23, 24, 0, 100000), (25, 65, 0, 100000), (66, 106, 0, 100000), (107, 147, 0, 100000), (148, 188, 0, 100000), (876, 877, 8, 9), (876, 877, 9, 10), (891, 892, 10, 11)]
abbrev Q_re_doObjects__p (S : sS) (ds : Int) : pst := fun r S1 => RI S1 ∧ FR md_re_doObjects__p S S1 ∧ (∃ z : Int, r = some (iv z) ∧ (0 ≤ z ∧ z ≤ 1) ∧ (DOB S S1 z ds))
set_option maxRecDepth 100000 in
theorem t_re_doObjects__p {S : sS} (hH : RI S) (ds : Int) (hds : 0 ≤ ds ∧ ds ≤ 1) (h13 : 0 ≤ Xi S 1 3 ∧ Xi S 1 3 ≤ 200) (hCE : CEN S) (hf : Xi S 876 8 = 0) (hr : Xi S 876 7 ≤ 5130) (ht : 0 ≤ Xi S 890 3 ∧ Xi S 890 3 ≤ 5125) (hX : TX S) (hw2 : WH2 S) (hc : 0 ≤ Xi S 5 2 ∧ Xi S 5 2 ≤ 24) (hE : Xi S 1 3 + 24 - Xi S 5 2 < 199) (hlo : Hid (LOO S (nL S))) (hn14 : 0 ≤ Xi S 895 14 ∧ Xi S 895 14 ≤ 6) (hpr : Hid (∀ i : Nat, (i : Int) < Xi S 895 14 → -1 ≤ Xi S 897 i ∧ Xi S 897 i ≤ 11)) (d : Nat) : Mp lay0 (d + 5) m_re_doObjects [.ref 891, iv ds] S (Q_re_doObjects__p S ds) := by
  refine Mp_R rfl rfl (fun fu => ?_)
  have hF : FR md_re_doObjects__p S S := FR.rf
  have w1 : -2147483648 ≤ Xi S 1 3 ∧ Xi S 1 3 ≤ 2147483647 := Xi_rgI
  have w2 : -2147483648 ≤ Xi S 5 2 ∧ Xi S 5 2 ≤ 2147483647 := Xi_rgI
  have w3 : -2147483648 ≤ Xi S 876 7 ∧ Xi S 876 7 ≤ 2147483647 := Xi_rgI
  have w4 : -2147483648 ≤ Xi S 876 8 ∧ Xi S 876 8 ≤ 2147483647 := Xi_rgI
  have w5 : -2147483648 ≤ Xi S 890 3 ∧ Xi S 890 3 ≤ 2147483647 := Xi_rgI
  have w6 : -2147483648 ≤ Xi S 891 11 ∧ Xi S 891 11 ≤ 2147483647 := Xi_rgI
  have w7 : -2147483648 ≤ Xi S 891 12 ∧ Xi S 891 12 ≤ 2147483647 := Xi_rgI
  have w8 : -2147483648 ≤ Xi S 895 12 ∧ Xi S 895 12 ≤ 2147483647 := Xi_rgI
  have w9 : -2147483648 ≤ Xi S 895 14 ∧ Xi S 895 14 ≤ 2147483647 := Xi_rgI
  have C4 : ∀ (n4 : Nat) (_ : n4 ≤ fu) (T1 : sS) (_ : RI T1) (_ : FR md_re_doObjects__p S T1) (v2 : Int) (v3 : Int), (-2147483648 ≤ v2 ∧ v2 ≤ 2147483647) → (0 ≤ v3 ∧ v3 ≤ 5125) → (0 ≤ v3 ∧ v3 ≤ Xi S 890 3) → (Hid (DOC S ds (Xi S 895 12) (Xi S 891 11) (Xi S 891 12) (cR (ty7 S) (v3).toNat) T1 v2)) → (Hid (SI7 S T1 (nwn S (cR (ty7 S) (v3).toNat)))) → (Xi T1 890 3 = Xi S 890 3) → (Xi T1 876 7 = Xi S 876 7) → (Xi T1 895 12 = Xi S 895 12) → (Xi T1 895 14 = Xi S 895 14) → (Xi T1 891 11 = Xi S 891 11) → (Xi T1 891 12 = Xi S 891 12) → Pl n4 lay0 (d + 4) m_re_doObjects 4 [(0, .ref 891), (1, iv ds), (2, iv v2), (3, iv v3)] [] T1 (Q_re_doObjects__p S ds) := by
    intro n4
    induction n4 with
    | zero => intros; exact Pl_0
    | succ n4 ih4 =>
      intro hm4 T1 hHT1 hFT1 v2 v3 w10 w11 w12 D4 S4 w13 w14 w15 w16 w17 w18
      have w19 : Xi T1 876 7 = Xi S 876 7 := hFT1.x _ _ rfl
      have w20 : Xi T1 890 3 = Xi S 890 3 := hFT1.x _ _ rfl
      have w21 : Xi T1 891 11 = Xi S 891 11 := hFT1.x _ _ rfl
      have w22 : Xi T1 891 12 = Xi S 891 12 := hFT1.x _ _ rfl
      have w23 : Xi T1 895 12 = Xi S 895 12 := hFT1.x _ _ rfl
      have w24 : Xi T1 895 14 = Xi S 895 14 := hFT1.x _ _ rfl
      have w25 : -2147483648 ≤ Xi T1 1 3 ∧ Xi T1 1 3 ≤ 2147483647 := Xi_rgI
      have w26 : -2147483648 ≤ Xi T1 5 2 ∧ Xi T1 5 2 ≤ 2147483647 := Xi_rgI
      have w27 : -2147483648 ≤ Xi T1 876 7 ∧ Xi T1 876 7 ≤ 2147483647 := Xi_rgI
      have w28 : -2147483648 ≤ Xi T1 876 8 ∧ Xi T1 876 8 ≤ 2147483647 := Xi_rgI
      have w29 : -2147483648 ≤ Xi T1 890 3 ∧ Xi T1 890 3 ≤ 2147483647 := Xi_rgI
      have w30 : -2147483648 ≤ Xi T1 891 11 ∧ Xi T1 891 11 ≤ 2147483647 := Xi_rgI
      have w31 : -2147483648 ≤ Xi T1 891 12 ∧ Xi T1 891 12 ≤ 2147483647 := Xi_rgI
      have w32 : -2147483648 ≤ Xi T1 895 12 ∧ Xi T1 895 12 ≤ 2147483647 := Xi_rgI
      have w33 : -2147483648 ≤ Xi T1 895 14 ∧ Xi T1 895 14 ≤ 2147483647 := Xi_rgI
      have C148 : ∀  (T2 : sS) (_ : RI T2) (_ : FR md_re_doObjects__p S T2) (v2 : Int) (v3 : Int), (-2147483648 ≤ v2 ∧ v2 ≤ 2147483647) → (0 ≤ v3 ∧ v3 ≤ 5125) → (0 ≤ v3 ∧ v3 < Xi S 890 3) → (Hid (DOC S ds (Xi S 895 12) (Xi S 891 11) (Xi S 891 12) (cR (ty7 S) (v3 + 1).toNat) T2 v2)) → (Hid (SI7 S T2 (nwn S (cR (ty7 S) (v3 + 1).toNat)))) → (Xi T2 890 3 = Xi S 890 3) → (Xi T2 876 7 = Xi S 876 7) → (Xi T2 895 12 = Xi S 895 12) → (Xi T2 895 14 = Xi S 895 14) → (Xi T2 891 11 = Xi S 891 11) → (Xi T2 891 12 = Xi S 891 12) → Pl n4 lay0 (d + 4) m_re_doObjects 148 [(0, .ref 891), (1, iv ds), (2, iv v2), (3, iv v3)] [] T2 (Q_re_doObjects__p S ds) := by
        intro T2 hHT2 hFT2 v2 v3 w34 w35 w36 D148 S148 w37 w38 w39 w40 w41 w42
        have w43 : Xi T2 876 7 = Xi S 876 7 := hFT2.x _ _ rfl
        have w44 : Xi T2 890 3 = Xi S 890 3 := hFT2.x _ _ rfl
        have w45 : Xi T2 891 11 = Xi S 891 11 := hFT2.x _ _ rfl
        have w46 : Xi T2 891 12 = Xi S 891 12 := hFT2.x _ _ rfl
        have w47 : Xi T2 895 12 = Xi S 895 12 := hFT2.x _ _ rfl
        have w48 : Xi T2 895 14 = Xi S 895 14 := hFT2.x _ _ rfl
        have w49 : -2147483648 ≤ Xi T2 1 3 ∧ Xi T2 1 3 ≤ 2147483647 := Xi_rgI
        have w50 : -2147483648 ≤ Xi T2 5 2 ∧ Xi T2 5 2 ≤ 2147483647 := Xi_rgI
        have w51 : -2147483648 ≤ Xi T2 876 7 ∧ Xi T2 876 7 ≤ 2147483647 := Xi_rgI
        have w52 : -2147483648 ≤ Xi T2 876 8 ∧ Xi T2 876 8 ≤ 2147483647 := Xi_rgI
        have w53 : -2147483648 ≤ Xi T2 890 3 ∧ Xi T2 890 3 ≤ 2147483647 := Xi_rgI
        have w54 : -2147483648 ≤ Xi T2 891 11 ∧ Xi T2 891 11 ≤ 2147483647 := Xi_rgI
        have w55 : -2147483648 ≤ Xi T2 891 12 ∧ Xi T2 891 12 ≤ 2147483647 := Xi_rgI
        have w56 : -2147483648 ≤ Xi T2 895 12 ∧ Xi T2 895 12 ≤ 2147483647 := Xi_rgI
        have w57 : -2147483648 ≤ Xi T2 895 14 ∧ Xi T2 895 14 ≤ 2147483647 := Xi_rgI
        refine y_iinc rfl rfl rfl rfl ?_
        refine y_goto rfl rfl ?_
        exact Pl_weak (ih4 (by omega) T2 hHT2 hFT2 (v2) ((v3 + 1)) (by omega) (by omega) (by omega) (by first | exact D148 | exact ⟨rfl, rfl⟩) (by first | exact S148 | exact ⟨⟨GRW.rf, hw2, hCE, hX⟩, hf, Int.le_add_of_nonneg_right (Int.natCast_nonneg _), Int.le_refl _, hc.2, by omega, h13.1⟩) (by omega) (by omega) (by omega) (by omega) (by omega) (by omega)) (by omega) (And.intro rfl (And.intro rfl (And.intro rfl (And.intro rfl (True.intro)))))
      have C60 : ∀  (T3 : sS) (_ : RI T3) (_ : FR md_re_doObjects__p S T3) (v2 : Int) (v3 : Int) (v4 : Int), (-2147483648 ≤ v2 ∧ v2 ≤ 2147483647) → (0 ≤ v3 ∧ v3 ≤ 5125) → (0 ≤ v4 ∧ v4 ≤ 23) → (0 ≤ v3 ∧ v3 < Xi S 890 3) → (0 ≤ v4 ∧ v4 ≤ 23) → (Hid (QA S ds (Xi S 895 12) (Xi S 891 11) (Xi S 891 12) (cR (ty7 S) (v3).toNat) T3 v4 v2)) → (Hid (SI7 S T3 (nwn S ((cR (ty7 S) (v3).toNat) + 1)))) → (v3 = (kr7 (ty7 S) (cR (ty7 S) (v3).toNat))) → ((cR (ty7 S) (v3).toNat) < nL S) → (bg7 (ty7 S) v3) → (Xi T3 890 3 = Xi S 890 3) → (Xi T3 876 7 = Xi S 876 7) → (Xi T3 895 12 = Xi S 895 12) → (Xi T3 895 14 = Xi S 895 14) → (Xi T3 891 11 = Xi S 891 11) → (Xi T3 891 12 = Xi S 891 12) → Pl n4 lay0 (d + 4) m_re_doObjects 60 [(0, .ref 891), (1, iv ds), (2, iv v2), (3, iv v3), (4, iv v4)] [] T3 (Q_re_doObjects__p S ds) := by
        intro T3 hHT3 hFT3 v2 v3 v4 w58 w59 w60 w61 w62 A60 S60 k60 L60 g60 w63 w64 w65 w66 w67 w68
        have w69 : Xi T3 876 7 = Xi S 876 7 := hFT3.x _ _ rfl
        have w70 : Xi T3 890 3 = Xi S 890 3 := hFT3.x _ _ rfl
        have w71 : Xi T3 891 11 = Xi S 891 11 := hFT3.x _ _ rfl
        have w72 : Xi T3 891 12 = Xi S 891 12 := hFT3.x _ _ rfl
        have w73 : Xi T3 895 12 = Xi S 895 12 := hFT3.x _ _ rfl
        have w74 : Xi T3 895 14 = Xi S 895 14 := hFT3.x _ _ rfl
        have w75 : -2147483648 ≤ Xi T3 1 3 ∧ Xi T3 1 3 ≤ 2147483647 := Xi_rgI
        have w76 : -2147483648 ≤ Xi T3 5 2 ∧ Xi T3 5 2 ≤ 2147483647 := Xi_rgI
        have w77 : -2147483648 ≤ Xi T3 876 7 ∧ Xi T3 876 7 ≤ 2147483647 := Xi_rgI
        have w78 : -2147483648 ≤ Xi T3 876 8 ∧ Xi T3 876 8 ≤ 2147483647 := Xi_rgI
        have w79 : -2147483648 ≤ Xi T3 890 3 ∧ Xi T3 890 3 ≤ 2147483647 := Xi_rgI
        have w80 : -2147483648 ≤ Xi T3 891 11 ∧ Xi T3 891 11 ≤ 2147483647 := Xi_rgI
        have w81 : -2147483648 ≤ Xi T3 891 12 ∧ Xi T3 891 12 ≤ 2147483647 := Xi_rgI
        have w82 : -2147483648 ≤ Xi T3 895 12 ∧ Xi T3 895 12 ≤ 2147483647 := Xi_rgI
        have w83 : -2147483648 ≤ Xi T3 895 14 ∧ Xi T3 895 14 ≤ 2147483647 := Xi_rgI
        have C102 : ∀  (T4 : sS) (_ : RI T4) (_ : FR md_re_doObjects__p S T4) (v2 : Int) (v3 : Int) (v4 : Int), (-2147483648 ≤ v2 ∧ v2 ≤ 2147483647) → (0 ≤ v3 ∧ v3 ≤ 5125) → (0 ≤ v4 ∧ v4 ≤ 23) → (0 ≤ v3 ∧ v3 < Xi S 890 3) → (0 ≤ v4 ∧ v4 ≤ 23) → (Hid (QB S ds (Xi S 895 12) (Xi S 891 11) (Xi S 891 12) (cR (ty7 S) (v3).toNat) T4 v4 v2)) → (Hid (SI7 S T4 (nwn S ((cR (ty7 S) (v3).toNat) + 1)))) → (v3 = (kr7 (ty7 S) (cR (ty7 S) (v3).toNat))) → ((cR (ty7 S) (v3).toNat) < nL S) → (bg7 (ty7 S) v3) → (Xi T4 890 3 = Xi S 890 3) → (Xi T4 876 7 = Xi S 876 7) → (Xi T4 895 12 = Xi S 895 12) → (Xi T4 895 14 = Xi S 895 14) → (Xi T4 891 11 = Xi S 891 11) → (Xi T4 891 12 = Xi S 891 12) → Pl n4 lay0 (d + 4) m_re_doObjects 102 [(0, .ref 891), (1, iv ds), (2, iv v2), (3, iv v3), (4, iv v4)] [] T4 (Q_re_doObjects__p S ds) := by
          intro T4 hHT4 hFT4 v2 v3 v4 w84 w85 w86 w87 w88 B102 S102 k102 L102 g102 w89 w90 w91 w92 w93 w94
          have w95 : Xi T4 876 7 = Xi S 876 7 := hFT4.x _ _ rfl
          have w96 : Xi T4 890 3 = Xi S 890 3 := hFT4.x _ _ rfl
          have w97 : Xi T4 891 11 = Xi S 891 11 := hFT4.x _ _ rfl
          have w98 : Xi T4 891 12 = Xi S 891 12 := hFT4.x _ _ rfl
          have w99 : Xi T4 895 12 = Xi S 895 12 := hFT4.x _ _ rfl
          have w100 : Xi T4 895 14 = Xi S 895 14 := hFT4.x _ _ rfl
          have w101 : -2147483648 ≤ Xi T4 1 3 ∧ Xi T4 1 3 ≤ 2147483647 := Xi_rgI
          have w102 : -2147483648 ≤ Xi T4 5 2 ∧ Xi T4 5 2 ≤ 2147483647 := Xi_rgI
          have w103 : -2147483648 ≤ Xi T4 876 7 ∧ Xi T4 876 7 ≤ 2147483647 := Xi_rgI
          have w104 : -2147483648 ≤ Xi T4 876 8 ∧ Xi T4 876 8 ≤ 2147483647 := Xi_rgI
          have w105 : -2147483648 ≤ Xi T4 890 3 ∧ Xi T4 890 3 ≤ 2147483647 := Xi_rgI
          have w106 : -2147483648 ≤ Xi T4 891 11 ∧ Xi T4 891 11 ≤ 2147483647 := Xi_rgI
          have w107 : -2147483648 ≤ Xi T4 891 12 ∧ Xi T4 891 12 ≤ 2147483647 := Xi_rgI
          have w108 : -2147483648 ≤ Xi T4 895 12 ∧ Xi T4 895 12 ≤ 2147483647 := Xi_rgI
          have w109 : -2147483648 ≤ Xi T4 895 14 ∧ Xi T4 895 14 ≤ 2147483647 := Xi_rgI
          refine y_aload_n rfl rfl ?_
          refine y_gfi rfl rfl rfl rfl rfl ?_
          refine y_if_ne rfl rfl (by unfold rg; omega) (fun w110 => ?_) (fun w111 => ?_)
          · refine y_aload_n rfl rfl ?_
            refine y_gfr rfl rfl rfl rfl rfl (hHT4.r 891 3 20 rfl) ?_
            refine y_iload rfl rfl ?_
            refine y_aload_n rfl rfl ?_
            refine y_gfi rfl rfl rfl rfl rfl ?_
            refine y_aload_n rfl rfl ?_
            refine y_gfi rfl rfl rfl rfl rfl ?_
            refine y_callV rfl rfl rfl (t_wo_tellPlace__p hHT4 v4 (Xi T4 891 11) (Xi T4 891 12) ⟨by omega, by omega⟩ ⟨by omega, by omega⟩ ⟨by omega, by omega⟩ _) ?_
            rintro _ T5 ⟨hHT5, w113, z112, rfl, w112, e127_⟩
            have hFT5 : FR md_re_doObjects__p S T5 := FR.tr hFT4 w113 rfl
            show Pl _ _ _ _ _ _ [iv z112] _ _
            have K127 : True := trivial
            have e127 : Hid (TPLC T4 T5 z112 v4 (Xi S 891 11) (Xi S 891 12)) := by have t := e127_; rw [show Xi T4 891 11 = Xi S 891 11 by omega, show Xi T4 891 12 = Xi S 891 12 by omega] at t; exact t
            clear e127_
            have F127 := (by assumption : FR md_wo_tellPlace__p T4 T5)
            obtain ⟨zp, hzp⟩ : ∃ w : Int, w = z112 := ⟨_, rfl⟩
            refine y_istore rfl rfl rfl ?_
            refine y_iload rfl rfl ?_
            refine y_if_eq rfl rfl (by unfold rg; omega) (fun w114 => ?_) (fun w115 => ?_)
            · have w116 : Xi T5 1 3 = Xi T4 1 3 := (show Xi T5 1 3 = Xi T4 1 3 from w113.x _ _ rfl)
              have w117 : Xi T5 5 2 = Xi T4 5 2 := (show Xi T5 5 2 = Xi T4 5 2 from w113.x _ _ rfl)
              have w118 : Xi T5 876 7 = Xi T4 876 7 := (show Xi T5 876 7 = Xi T4 876 7 from w113.x _ _ rfl)
              have w119 : Xi T5 876 8 = Xi T4 876 8 := (show Xi T5 876 8 = Xi T4 876 8 from w113.x _ _ rfl)
              have w120 : Xi T5 890 3 = Xi T4 890 3 := (show Xi T5 890 3 = Xi T4 890 3 from w113.x _ _ rfl)
              have w121 : Xi T5 891 11 = Xi T4 891 11 := (show Xi T5 891 11 = Xi T4 891 11 from w113.x _ _ rfl)
              have w122 : Xi T5 891 12 = Xi T4 891 12 := (show Xi T5 891 12 = Xi T4 891 12 from w113.x _ _ rfl)
              have w123 : Xi T5 895 12 = Xi T4 895 12 := (show Xi T5 895 12 = Xi T4 895 12 from w113.x _ _ rfl)
              have w124 : Xi T5 895 14 = Xi T4 895 14 := (show Xi T5 895 14 = Xi T4 895 14 from w113.x _ _ rfl)
              exact Pl_weak (C148 T5 hHT5 hFT5 (v2) (v3) (by omega) (by omega) (by omega) (by first | (have t := K127; rw [cR_y (by omega) g102]; exact qb_1 B102.o (by omega) (by have t := e127.o; rw [← hzp, show zp = 0 by omega] at t; exact t)) | (have t := B102; rw [cR_y (by omega) g102]; exact qb_0 B102.o (by omega)) | (rw [cR_n (by omega) (fun q => by have t := v17.2 (by omega) (by omega); rw [FRT hFT5 rfl rfl] at t; exact t q)]; exact D4.o)) (by first | (have t := K127; rw [cR_y (by omega) g102]; exact si7_v S102.o (SMV_FR F127 rfl rfl) ((F127.cx 5 rfl _).1) (TX_FR F127 rfl S102.o.1.2.2.2) (by rw [F127.x 876 8 rfl]; exact S102.o.2.1)) | (have t := B102; rw [cR_y (by omega) g102]; exact S102.o) | (rw [cR_n (by omega) (fun q => by have t := v17.2 (by omega) (by omega); rw [FRT hFT5 rfl rfl] at t; exact t q)]; exact S4.o)) (by omega) (by omega) (by omega) (by omega) (by omega) (by omega)) (by omega) (And.intro rfl (And.intro rfl (And.intro rfl (And.intro rfl (True.intro)))))
            · refine y_aload_n rfl rfl ?_
              have Q137 : Hid (QF S ds (Xi S 895 12) (Xi S 891 11) (Xi S 891 12) (cR (ty7 S) (v3).toNat) z112) := by first | (have t := K127; exact qb_f B102.o (by omega) (by omega) e127.o) | (exfalso; omega)
              refine y_gfr rfl rfl rfl rfl rfl (hHT5.r 891 0 876 rfl) ?_
              refine y_iload rfl rfl ?_
              refine y_iload_n rfl rfl ?_
              have w125 : Xi T5 1 3 = Xi T4 1 3 := (show Xi T5 1 3 = Xi T4 1 3 from w113.x _ _ rfl)
              have w126 : Xi T5 5 2 = Xi T4 5 2 := (show Xi T5 5 2 = Xi T4 5 2 from w113.x _ _ rfl)
              have w127 : Xi T5 876 7 = Xi T4 876 7 := (show Xi T5 876 7 = Xi T4 876 7 from w113.x _ _ rfl)
              have w128 : Xi T5 876 8 = Xi T4 876 8 := (show Xi T5 876 8 = Xi T4 876 8 from w113.x _ _ rfl)
              have w129 : Xi T5 876 9 = Xi T4 876 9 := (show Xi T5 876 9 = Xi T4 876 9 from w113.x _ _ rfl)
              have w130 : Xi T5 890 3 = Xi T4 890 3 := (show Xi T5 890 3 = Xi T4 890 3 from w113.x _ _ rfl)
              have w131 : Xi T5 891 11 = Xi T4 891 11 := (show Xi T5 891 11 = Xi T4 891 11 from w113.x _ _ rfl)
              have w132 : Xi T5 891 12 = Xi T4 891 12 := (show Xi T5 891 12 = Xi T4 891 12 from w113.x _ _ rfl)
              have w133 : Xi T5 895 12 = Xi T4 895 12 := (show Xi T5 895 12 = Xi T4 895 12 from w113.x _ _ rfl)
              have w134 : Xi T5 895 14 = Xi T4 895 14 := (show Xi T5 895 14 = Xi T4 895 14 from w113.x _ _ rfl)
              refine y_callV rfl rfl rfl (t_to_wrong__p hHT5 z112 v3 ⟨by omega, by omega⟩ ⟨by omega, by omega⟩ _) ?_
              rintro _ T6 ⟨hHT6, w138, z137, rfl, w137, w135, f144, w136⟩
              have hFT6 : FR md_re_doObjects__p S T6 := FR.tr hFT5 w138 rfl
              show Pl _ _ _ _ _ _ [iv z137] _ _
              have K144 : True := trivial
              have i144 := S102.o.2
              have Y144 : FTO S T6 z112 (kr7 (ty7 S) (cR (ty7 S) (v3).toNat)) := by first | (have t := K127; have t := f144 (by rw [F127.x 876 8 rfl]; omega); rw [← k102]; exact fto_p t (fun r => by unfold pc7; rw [hFT5.x 876 7 rfl, hFT5.x 876 5 rfl, (hFT5.cx 878 rfl _).1])) | (exfalso; omega)
              refine y_ireturn rfl (retI_z (by omega)) ?_
              have w142 : Xi T6 890 3 = Xi T4 890 3 := (show Xi T6 890 3 = Xi T5 890 3 from w138.x _ _ rfl).trans ((show Xi T5 890 3 = Xi T4 890 3 from w113.x _ _ rfl))
              exact ⟨hHT6, hFT6, _, rfl, ⟨by omega, by omega⟩, (by first | (have t := K156; exact ⟨fun _ => ⟨_, v2, by have t := D4.o; rw [show v3 = Xi S 890 3 by omega] at t; exact t, R156, x156⟩, fun q => absurd q (by omega)⟩) | (have t := K144; exact ⟨fun q => absurd q (by omega), fun _ => by obtain ⟨W, o, g, a, b⟩ := Q137.o; exact ⟨_, W, o, g, _, L102, a, b, Y144⟩⟩) | exact ⟨fun q => absurd q (by omega), fun _ => by obtain ⟨W, o, g, a, b⟩ := Q92.o; exact ⟨_, W, o, g, _, L60, a, b, Y98⟩⟩)⟩
          · refine y_iconst rfl ?_
            refine y_goto rfl rfl ?_
            refine y_istore rfl rfl rfl ?_
            refine y_iload rfl rfl ?_
            refine y_if_eq rfl rfl (by unfold rg; omega) (fun w147 => ?_) (fun w148 => absurd w148 (by omega))
            · exact Pl_weak (C148 T4 hHT4 hFT4 (v2) (v3) (by omega) (by omega) (by omega) (by first | (have t := K127; rw [cR_y (by omega) g102]; exact qb_1 B102.o (by omega) (by have t := e127.o; rw [← hzp, show zp = 0 by omega] at t; exact t)) | (have t := B102; rw [cR_y (by omega) g102]; exact qb_0 B102.o (by omega)) | (rw [cR_n (by omega) (fun q => by have t := v17.2 (by omega) (by omega); rw [FRT hFT4 rfl rfl] at t; exact t q)]; exact D4.o)) (by first | (have t := K127; rw [cR_y (by omega) g102]; exact si7_v S102.o (SMV_FR F127 rfl rfl) ((F127.cx 5 rfl _).1) (TX_FR F127 rfl S102.o.1.2.2.2) (by rw [F127.x 876 8 rfl]; exact S102.o.2.1)) | (have t := B102; rw [cR_y (by omega) g102]; exact S102.o) | (rw [cR_n (by omega) (fun q => by have t := v17.2 (by omega) (by omega); rw [FRT hFT4 rfl rfl] at t; exact t q)]; exact S4.o)) (by omega) (by omega) (by omega) (by omega) (by omega) (by omega)) (by omega) (And.intro rfl (And.intro rfl (And.intro rfl (And.intro rfl (True.intro)))))
        refine y_iload_n rfl rfl ?_
        refine y_if_eq rfl rfl (by unfold rg; omega) (fun w149 => ?_) (fun w150 => ?_)
        · exact Pl_weak (C102 T3 hHT3 hFT3 (v2) (v3) (v4) (by omega) (by omega) (by omega) (by omega) (by omega) (by first | (have t := K86; exact qa_b1 A60.o (by omega) (by have t := e77.o; rw [← hzk, show zk = 1 by omega] at t; exact t) (by have t := o86.o; rw [← hza, show za = 1 by omega] at t; exact t)) | exact qa_b0 A60.o (by omega)) (by first | (have t := K86; exact si7_v S60.o ((SMV_FR F77 rfl rfl).tr (SMV_FR F86 rfl rfl)) (by rw [(F86.cx 5 rfl _).1, (F77.cx 5 rfl _).1]) x86 (by rw [F86.x 876 8 rfl, F77.x 876 8 rfl]; exact S60.o.2.1)) | exact S60) (k60) (L60) (g60) (by omega) (by omega) (by omega) (by omega) (by omega) (by omega)) (by omega) (And.intro rfl (And.intro rfl (And.intro rfl (And.intro rfl (And.intro rfl (True.intro))))))
        · refine y_aload_n rfl rfl ?_
          refine y_gfr rfl rfl rfl rfl rfl (hHT3.r 891 3 20 rfl) ?_
          refine y_iload rfl rfl ?_
          refine y_aload_n rfl rfl ?_
          refine y_gfr rfl rfl rfl rfl rfl (hHT3.r 891 4 895 rfl) ?_
          refine y_gfi rfl rfl rfl rfl rfl ?_
          refine y_callV rfl rfl rfl (t_wo_tellKind__p hHT3 v4 (Xi T3 895 12) ⟨by omega, by omega⟩ ⟨by omega, by omega⟩ _) ?_
          rintro _ T7 ⟨hHT7, w152, z151, rfl, w151, e77_⟩
          have hFT7 : FR md_re_doObjects__p S T7 := FR.tr hFT3 w152 rfl
          show Pl _ _ _ _ _ _ [iv z151] _ _
          have i77 := S60.o.2
          have e77 : Hid (TKDC T3 T7 z151 v4 (Xi S 895 12)) := by have t := e77_; rw [show Xi T3 895 12 = Xi S 895 12 by omega] at t; exact t
          clear e77_
          obtain ⟨zk, hzk⟩ : ∃ w : Int, w = z151 := ⟨_, rfl⟩
          have F77 := (by assumption : FR md_wo_tellKind__p T3 T7)
          have x77 : TX T7 := TX_FR F77 rfl S60.o.1.2.2.2
          have n77 : Xi T7 895 14 = Xi S 895 14 := (F77.x 895 14 rfl).trans (by omega)
          have p77 : Hid (∀ i : Nat, (i : Int) < Xi T7 895 14 → -1 ≤ Xi T7 897 i ∧ Xi T7 897 i ≤ 11) := fun i hi => by rw [(hFT7.cx 897 rfl i).1]; exact hpr.o i (by omega)
          refine y_if_eq rfl rfl (by unfold rg; omega) (fun w153 => ?_) (fun w154 => ?_)
          · refine y_aload_n rfl rfl ?_
            have i92 := S60.o.2
            have Q92 : Hid (QF S ds (Xi S 895 12) (Xi S 891 11) (Xi S 891 12) (cR (ty7 S) (v3).toNat) 5) := by first | (have t := K86; exact qa_f2 A60.o (by omega) (by have t := e77.o; rw [← hzk, show zk = 1 by omega] at t; exact t) (by have t := o86.o; rw [← hza, show za = 0 by omega] at t; exact t)) | exact qa_f1 A60.o (by omega) (by have t := e77.o; rw [← hzk, show zk = 0 by omega] at t; exact t)
            have f92 : Xi T7 876 8 = 0 := by first | (have t := K86; rw [F86.x 876 8 rfl, F77.x 876 8 rfl]; omega) | (rw [F77.x 876 8 rfl]; omega)
            refine y_gfr rfl rfl rfl rfl rfl (hHT7.r 891 0 876 rfl) ?_
            refine y_iconst rfl ?_
            refine y_iload_n rfl rfl ?_
            have w155 : Xi T7 1 3 = Xi T3 1 3 := (show Xi T7 1 3 = Xi T3 1 3 from w152.x _ _ rfl)
            have w156 : Xi T7 5 2 = Xi T3 5 2 := (show Xi T7 5 2 = Xi T3 5 2 from w152.x _ _ rfl)
            have w157 : Xi T7 876 7 = Xi T3 876 7 := (show Xi T7 876 7 = Xi T3 876 7 from w152.x _ _ rfl)
            have w158 : Xi T7 876 8 = Xi T3 876 8 := (show Xi T7 876 8 = Xi T3 876 8 from w152.x _ _ rfl)
            have w159 : Xi T7 876 9 = Xi T3 876 9 := (show Xi T7 876 9 = Xi T3 876 9 from w152.x _ _ rfl)
            have w160 : Xi T7 890 3 = Xi T3 890 3 := (show Xi T7 890 3 = Xi T3 890 3 from w152.x _ _ rfl)
            have w161 : Xi T7 891 11 = Xi T3 891 11 := (show Xi T7 891 11 = Xi T3 891 11 from w152.x _ _ rfl)
            have w162 : Xi T7 891 12 = Xi T3 891 12 := (show Xi T7 891 12 = Xi T3 891 12 from w152.x _ _ rfl)
            have w163 : Xi T7 895 12 = Xi T3 895 12 := (show Xi T7 895 12 = Xi T3 895 12 from w152.x _ _ rfl)
            have w164 : Xi T7 895 14 = Xi T3 895 14 := (show Xi T7 895 14 = Xi T3 895 14 from w152.x _ _ rfl)
            refine y_callV rfl rfl rfl (t_to_wrong__p hHT7 5 v3 ⟨by omega, by omega⟩ ⟨by omega, by omega⟩ _) ?_
            rintro _ T8 ⟨hHT8, w168, z167, rfl, w167, w165, f98, w166⟩
            have hFT8 : FR md_re_doObjects__p S T8 := FR.tr hFT7 w168 rfl
            show Pl _ _ _ _ _ _ [iv z167] _ _
            have Y98 : FTO S T8 5 (kr7 (ty7 S) (cR (ty7 S) (v3).toNat)) := by have t := f98 f92; rw [← k60]; exact fto_p t (fun r => by unfold pc7; rw [hFT7.x 876 7 rfl, hFT7.x 876 5 rfl, (hFT7.cx 878 rfl _).1])
            refine y_ireturn rfl (retI_z (by omega)) ?_
            have w172 : Xi T8 890 3 = Xi T3 890 3 := (show Xi T8 890 3 = Xi T7 890 3 from w168.x _ _ rfl).trans ((show Xi T7 890 3 = Xi T3 890 3 from w152.x _ _ rfl))
            exact ⟨hHT8, hFT8, _, rfl, ⟨by omega, by omega⟩, (by first | (have t := K156; exact ⟨fun _ => ⟨_, v2, by have t := D4.o; rw [show v3 = Xi S 890 3 by omega] at t; exact t, R156, x156⟩, fun q => absurd q (by omega)⟩) | (have t := K144; exact ⟨fun q => absurd q (by omega), fun _ => by obtain ⟨W, o, g, a, b⟩ := Q137.o; exact ⟨_, W, o, g, _, L102, a, b, Y144⟩⟩) | exact ⟨fun q => absurd q (by omega), fun _ => by obtain ⟨W, o, g, a, b⟩ := Q92.o; exact ⟨_, W, o, g, _, L60, a, b, Y98⟩⟩)⟩
          · refine y_aload_n rfl rfl ?_
            refine y_iload rfl rfl ?_
            have w177 : Xi T7 1 3 = Xi T3 1 3 := (show Xi T7 1 3 = Xi T3 1 3 from w152.x _ _ rfl)
            have w178 : Xi T7 5 2 = Xi T3 5 2 := (show Xi T7 5 2 = Xi T3 5 2 from w152.x _ _ rfl)
            have w179 : Xi T7 876 7 = Xi T3 876 7 := (show Xi T7 876 7 = Xi T3 876 7 from w152.x _ _ rfl)
            have w180 : Xi T7 876 8 = Xi T3 876 8 := (show Xi T7 876 8 = Xi T3 876 8 from w152.x _ _ rfl)
            have w181 : Xi T7 890 3 = Xi T3 890 3 := (show Xi T7 890 3 = Xi T3 890 3 from w152.x _ _ rfl)
            have w182 : Xi T7 891 11 = Xi T3 891 11 := (show Xi T7 891 11 = Xi T3 891 11 from w152.x _ _ rfl)
            have w183 : Xi T7 891 12 = Xi T3 891 12 := (show Xi T7 891 12 = Xi T3 891 12 from w152.x _ _ rfl)
            have w184 : Xi T7 895 12 = Xi T3 895 12 := (show Xi T7 895 12 = Xi T3 895 12 from w152.x _ _ rfl)
            have w185 : Xi T7 895 14 = Xi T3 895 14 := (show Xi T7 895 14 = Xi T3 895 14 from w152.x _ _ rfl)
            refine y_callV rfl rfl rfl (t_re_tellAdjectives__p hHT7 v4 ⟨by omega, by omega⟩ (x77) (by omega) (p77) _) ?_
            rintro _ T9 ⟨hHT9, w187, z186, rfl, w186, o86_, x86⟩
            have hFT9 : FR md_re_doObjects__p S T9 := FR.tr hFT7 w187 rfl
            show Pl _ _ _ _ _ _ [iv z186] _ _
            have K86 : True := trivial
            have o86 : Hid (TAC T7 T9 z186 v4) := o86_
            clear o86_
            obtain ⟨za, hza⟩ : ∃ w : Int, w = z186 := ⟨_, rfl⟩
            have F86 := (by assumption : FR md_re_tellAdjectives__p T7 T9)
            refine y_if_ne rfl rfl (by unfold rg; omega) (fun w188 => ?_) (fun w189 => ?_)
            · have w190 : Xi T9 1 3 = Xi T3 1 3 := (show Xi T9 1 3 = Xi T7 1 3 from w187.x _ _ rfl).trans ((show Xi T7 1 3 = Xi T3 1 3 from w152.x _ _ rfl))
              have w191 : Xi T9 5 2 = Xi T3 5 2 := (show Xi T9 5 2 = Xi T7 5 2 from w187.x _ _ rfl).trans ((show Xi T7 5 2 = Xi T3 5 2 from w152.x _ _ rfl))
              have w192 : Xi T9 876 7 = Xi T3 876 7 := (show Xi T9 876 7 = Xi T7 876 7 from w187.x _ _ rfl).trans ((show Xi T7 876 7 = Xi T3 876 7 from w152.x _ _ rfl))
              have w193 : Xi T9 876 8 = Xi T3 876 8 := (show Xi T9 876 8 = Xi T7 876 8 from w187.x _ _ rfl).trans ((show Xi T7 876 8 = Xi T3 876 8 from w152.x _ _ rfl))
              have w194 : Xi T9 890 3 = Xi T3 890 3 := (show Xi T9 890 3 = Xi T7 890 3 from w187.x _ _ rfl).trans ((show Xi T7 890 3 = Xi T3 890 3 from w152.x _ _ rfl))
              have w195 : Xi T9 891 11 = Xi T3 891 11 := (show Xi T9 891 11 = Xi T7 891 11 from w187.x _ _ rfl).trans ((show Xi T7 891 11 = Xi T3 891 11 from w152.x _ _ rfl))
              have w196 : Xi T9 891 12 = Xi T3 891 12 := (show Xi T9 891 12 = Xi T7 891 12 from w187.x _ _ rfl).trans ((show Xi T7 891 12 = Xi T3 891 12 from w152.x _ _ rfl))
              have w197 : Xi T9 895 12 = Xi T3 895 12 := (show Xi T9 895 12 = Xi T7 895 12 from w187.x _ _ rfl).trans ((show Xi T7 895 12 = Xi T3 895 12 from w152.x _ _ rfl))
              have w198 : Xi T9 895 14 = Xi T3 895 14 := (show Xi T9 895 14 = Xi T7 895 14 from w187.x _ _ rfl).trans ((show Xi T7 895 14 = Xi T3 895 14 from w152.x _ _ rfl))
              exact Pl_weak (C102 T9 hHT9 hFT9 (v2) (v3) (v4) (by omega) (by omega) (by omega) (by omega) (by omega) (by first | (have t := K86; exact qa_b1 A60.o (by omega) (by have t := e77.o; rw [← hzk, show zk = 1 by omega] at t; exact t) (by have t := o86.o; rw [← hza, show za = 1 by omega] at t; exact t)) | exact qa_b0 A60.o (by omega)) (by first | (have t := K86; exact si7_v S60.o ((SMV_FR F77 rfl rfl).tr (SMV_FR F86 rfl rfl)) (by rw [(F86.cx 5 rfl _).1, (F77.cx 5 rfl _).1]) x86 (by rw [F86.x 876 8 rfl, F77.x 876 8 rfl]; exact S60.o.2.1)) | exact S60) (k60) (L60) (g60) (by omega) (by omega) (by omega) (by omega) (by omega) (by omega)) (by omega) (And.intro rfl (And.intro rfl (And.intro rfl (And.intro rfl (And.intro rfl (True.intro))))))
            · refine y_aload_n rfl rfl ?_
              have i92 := S60.o.2
              have Q92 : Hid (QF S ds (Xi S 895 12) (Xi S 891 11) (Xi S 891 12) (cR (ty7 S) (v3).toNat) 5) := by first | (have t := K86; exact qa_f2 A60.o (by omega) (by have t := e77.o; rw [← hzk, show zk = 1 by omega] at t; exact t) (by have t := o86.o; rw [← hza, show za = 0 by omega] at t; exact t)) | exact qa_f1 A60.o (by omega) (by have t := e77.o; rw [← hzk, show zk = 0 by omega] at t; exact t)
              have f92 : Xi T9 876 8 = 0 := by first | (have t := K86; rw [F86.x 876 8 rfl, F77.x 876 8 rfl]; omega) | (rw [F77.x 876 8 rfl]; omega)
              refine y_gfr rfl rfl rfl rfl rfl (hHT9.r 891 0 876 rfl) ?_
              refine y_iconst rfl ?_
              refine y_iload_n rfl rfl ?_
              have w199 : Xi T9 1 3 = Xi T3 1 3 := (show Xi T9 1 3 = Xi T7 1 3 from w187.x _ _ rfl).trans ((show Xi T7 1 3 = Xi T3 1 3 from w152.x _ _ rfl))
              have w200 : Xi T9 5 2 = Xi T3 5 2 := (show Xi T9 5 2 = Xi T7 5 2 from w187.x _ _ rfl).trans ((show Xi T7 5 2 = Xi T3 5 2 from w152.x _ _ rfl))
              have w201 : Xi T9 876 7 = Xi T3 876 7 := (show Xi T9 876 7 = Xi T7 876 7 from w187.x _ _ rfl).trans ((show Xi T7 876 7 = Xi T3 876 7 from w152.x _ _ rfl))
              have w202 : Xi T9 876 8 = Xi T3 876 8 := (show Xi T9 876 8 = Xi T7 876 8 from w187.x _ _ rfl).trans ((show Xi T7 876 8 = Xi T3 876 8 from w152.x _ _ rfl))
              have w203 : Xi T9 876 9 = Xi T3 876 9 := (show Xi T9 876 9 = Xi T7 876 9 from w187.x _ _ rfl).trans ((show Xi T7 876 9 = Xi T3 876 9 from w152.x _ _ rfl))
              have w204 : Xi T9 890 3 = Xi T3 890 3 := (show Xi T9 890 3 = Xi T7 890 3 from w187.x _ _ rfl).trans ((show Xi T7 890 3 = Xi T3 890 3 from w152.x _ _ rfl))
              have w205 : Xi T9 891 11 = Xi T3 891 11 := (show Xi T9 891 11 = Xi T7 891 11 from w187.x _ _ rfl).trans ((show Xi T7 891 11 = Xi T3 891 11 from w152.x _ _ rfl))
              have w206 : Xi T9 891 12 = Xi T3 891 12 := (show Xi T9 891 12 = Xi T7 891 12 from w187.x _ _ rfl).trans ((show Xi T7 891 12 = Xi T3 891 12 from w152.x _ _ rfl))
              have w207 : Xi T9 895 12 = Xi T3 895 12 := (show Xi T9 895 12 = Xi T7 895 12 from w187.x _ _ rfl).trans ((show Xi T7 895 12 = Xi T3 895 12 from w152.x _ _ rfl))
              have w208 : Xi T9 895 14 = Xi T3 895 14 := (show Xi T9 895 14 = Xi T7 895 14 from w187.x _ _ rfl).trans ((show Xi T7 895 14 = Xi T3 895 14 from w152.x _ _ rfl))
              refine y_callV rfl rfl rfl (t_to_wrong__p hHT9 5 v3 ⟨by omega, by omega⟩ ⟨by omega, by omega⟩ _) ?_
              rintro _ T10 ⟨hHT10, w212, z211, rfl, w211, w209, f98, w210⟩
              have hFT10 : FR md_re_doObjects__p S T10 := FR.tr hFT9 w212 rfl
              show Pl _ _ _ _ _ _ [iv z211] _ _
              have Y98 : FTO S T10 5 (kr7 (ty7 S) (cR (ty7 S) (v3).toNat)) := by have t := f98 f92; rw [← k60]; exact fto_p t (fun r => by unfold pc7; rw [hFT9.x 876 7 rfl, hFT9.x 876 5 rfl, (hFT9.cx 878 rfl _).1])
              refine y_ireturn rfl (retI_z (by omega)) ?_
              have w216 : Xi T10 890 3 = Xi T3 890 3 := (show Xi T10 890 3 = Xi T9 890 3 from w212.x _ _ rfl).trans ( (show Xi T9 890 3 = Xi T7 890 3 from w187.x _ _ rfl).trans ((show Xi T7 890 3 = Xi T3 890 3 from w152.x _ _ rfl)))
              exact ⟨hHT10, hFT10, _, rfl, ⟨by omega, by omega⟩, (by first | (have t := K156; exact ⟨fun _ => ⟨_, v2, by have t := D4.o; rw [show v3 = Xi S 890 3 by omega] at t; exact t, R156, x156⟩, fun q => absurd q (by omega)⟩) | (have t := K144; exact ⟨fun q => absurd q (by omega), fun _ => by obtain ⟨W, o, g, a, b⟩ := Q137.o; exact ⟨_, W, o, g, _, L102, a, b, Y144⟩⟩) | exact ⟨fun q => absurd q (by omega), fun _ => by obtain ⟨W, o, g, a, b⟩ := Q92.o; exact ⟨_, W, o, g, _, L60, a, b, Y98⟩⟩)⟩
      refine ys_iload_n rfl rfl ?_
      refine y_aload_n rfl rfl ?_
      refine y_gfr rfl rfl rfl rfl rfl (hHT1.r 891 1 890 rfl) ?_
      refine y_gfi rfl rfl rfl rfl rfl ?_
      refine y_icmp_ge rfl rfl (by unfold rg; omega) (by unfold rg; omega) (fun w221 => ?_) (fun w222 => ?_)
      · refine y_aload_n rfl rfl ?_
        refine y_iload_n rfl rfl ?_
        refine y_pfi rfl rfl rfl rfl ?_
        obtain ⟨U11, eU11⟩ : ∃ T : sS, T = uI T1 891 10 (Int32.ofInt v2) := ⟨_, rfl⟩
        rw [← eU11]
        have hHU11 : RI U11 := by rw [eU11]; exact RI_w hHT1
        have hFU11 : FR md_re_doObjects__p S U11 := by rw [eU11]; exact FR.wI hFT1 (mdf_i (r := (891, 892, 10, 11)) (List.mem_of_getElem? (i := 14) rfl) (inR_i (by omega) (by omega) (by omega) (by omega)))
        have w223 : Xi U11 891 10 = v2 := by rw [eU11]; exact Xi_same (by unfold rg; omega)
        have K156 : True := trivial
        have R156 : U11 = uI T1 891 10 (Int32.ofInt v2) := eU11
        have x156 : Xi U11 876 8 = 0 := by rw [eU11, Xi_ne (by omega)]; exact S4.o.2.1
        refine y_iconst rfl ?_
        refine y_ireturn rfl rfl ?_
        have w228 : Xi U11 890 3 = Xi T1 890 3 := (show Xi U11 890 3 = Xi T1 890 3 from by rw [eU11]; exact Xi_ne (by omega))
        exact ⟨hHU11, hFU11, _, rfl, ⟨by omega, by omega⟩, (by first | (have t := K156; exact ⟨fun _ => ⟨_, v2, by have t := D4.o; rw [show v3 = Xi S 890 3 by omega] at t; exact t, R156, x156⟩, fun q => absurd q (by omega)⟩) | (have t := K144; exact ⟨fun q => absurd q (by omega), fun _ => by obtain ⟨W, o, g, a, b⟩ := Q137.o; exact ⟨_, W, o, g, _, L102, a, b, Y144⟩⟩) | exact ⟨fun q => absurd q (by omega), fun _ => by obtain ⟨W, o, g, a, b⟩ := Q92.o; exact ⟨_, W, o, g, _, L60, a, b, Y98⟩⟩)⟩
      · refine y_aload_n rfl rfl ?_
        refine y_iload_n rfl rfl ?_
        refine y_callV rfl rfl rfl (t_re_beginsName__p hHT1 v3 ⟨by omega, by omega⟩ _) ?_
        rintro _ _ ⟨rfl, z233, rfl, w233, v17⟩
        show Pl _ _ _ _ _ _ [iv z233] _ _
        have K17 : True := trivial
        refine y_if_ne rfl rfl (by unfold rg; omega) (fun w234 => ?_) (fun w235 => ?_)
        · refine y_aload_n rfl rfl ?_
          have B26 : bg7 (ty7 S) v3 := by have t := (v17.1 (by omega)).1; rw [FRT hFT1 rfl rfl] at t; exact t
          have k26 : v3 = (kr7 (ty7 S) (cR (ty7 S) (v3).toNat)) := (cR_b (ty_nf hr) (by omega) (by omega) (by omega) B26).symm
          have l26 : (cR (ty7 S) (v3).toNat) < nL S := cR_l (by omega) (by omega) B26
          have lb26 := loo_b (S := S) (n := (cR (ty7 S) (v3).toNat)) (fun i hi => hlo.o i (by omega))
          have i26 := S4.o.2
          refine y_iload_n rfl rfl ?_
          refine y_iload_n rfl rfl ?_
          refine y_if_eq rfl rfl (by unfold rg; omega) (fun w236 => ?_) (fun w237 => ?_)
          · refine y_iconst rfl ?_
            refine y_callV rfl rfl rfl (t_re_objectOrNew__p hHT1 v3 0 ⟨by omega, by omega⟩ ⟨by omega, by omega⟩ (by omega) (S4.o.1.2.2.1) (by first | assumption | omega) (by first | assumption | omega) (by first | assumption | omega) (by first | assumption | omega) _) ?_
            rintro _ T12 ⟨hHT12, w239, z238, rfl, w238, o43_, g43⟩
            have hFT12 : FR md_re_doObjects__p S T12 := FR.tr hFT1 w239 rfl
            show Pl _ _ _ _ _ _ [iv z238] _ _
            have O43 : Hid (OBN T1 T12 z238 (kr7 (ty7 S) (cR (ty7 S) (v3).toNat)) (re7 (ty7 S) (kr7 (ty7 S) (cR (ty7 S) (v3).toNat))) (if ds = 0 then 0 else Xi S 895 12)) := by have t := o43_; rw [FRT hFT1 rfl rfl] at t; first | (rw [if_pos (show ds = 0 by omega), ← k26]; exact t) | (rw [if_neg (show ¬ ds = 0 by omega), ← k26]; rw [show Xi T1 895 12 = Xi S 895 12 by omega] at t; exact t)
            clear o43_
            have F43 := (by assumption : FR md_re_objectOrNew__p T1 T12)
            have Q43 := Hid.i (si7_o S4.o (hlo.o _ l26) (by omega) lb26 hc O43.o rfl rfl F43)
            have u43 : 0 ≤ z238 ∧ z238 ≤ 23 := Q43.o.1
            refine y_istore rfl rfl rfl ?_
            refine y_iload_n rfl rfl ?_
            refine y_iconst rfl ?_
            refine y_icmp_ne rfl rfl (by unfold rg; omega) (by unfold rg; omega) (fun w240 => ?_) (fun w241 => ?_)
            · refine y_iload_n rfl rfl ?_
              refine y_istore_n rfl rfl rfl ?_
              have w242 : Xi T12 876 7 = Xi T1 876 7 := (show Xi T12 876 7 = Xi T1 876 7 from w239.x _ _ rfl)
              have w243 : Xi T12 876 8 = Xi T1 876 8 := (show Xi T12 876 8 = Xi T1 876 8 from w239.x _ _ rfl)
              have w244 : Xi T12 890 3 = Xi T1 890 3 := (show Xi T12 890 3 = Xi T1 890 3 from w239.x _ _ rfl)
              have w245 : Xi T12 891 11 = Xi T1 891 11 := (show Xi T12 891 11 = Xi T1 891 11 from w239.x _ _ rfl)
              have w246 : Xi T12 891 12 = Xi T1 891 12 := (show Xi T12 891 12 = Xi T1 891 12 from w239.x _ _ rfl)
              have w247 : Xi T12 895 12 = Xi T1 895 12 := (show Xi T12 895 12 = Xi T1 895 12 from w239.x _ _ rfl)
              have w248 : Xi T12 895 14 = Xi T1 895 14 := (show Xi T12 895 14 = Xi T1 895 14 from w239.x _ _ rfl)
              exact Pl_weak (C60 T12 hHT12 hFT12 (v2) (v3) (z238) (by omega) (by omega) (by omega) (by omega) (by omega) (by exact ⟨_, v2, D4.o, ⟨O43.o, F43⟩, by first | (rw [if_pos (by omega)]) | (rw [if_neg (by omega)])⟩) (Q43.o.2) (k26) (l26) (B26) (by omega) (by omega) (by omega) (by omega) (by omega) (by omega)) (by omega) (And.intro rfl (And.intro rfl (And.intro rfl (And.intro rfl (And.intro rfl (True.intro))))))
            · refine y_iload rfl rfl ?_
              refine y_goto rfl rfl ?_
              refine y_istore_n rfl rfl rfl ?_
              have w249 : Xi T12 876 7 = Xi T1 876 7 := (show Xi T12 876 7 = Xi T1 876 7 from w239.x _ _ rfl)
              have w250 : Xi T12 876 8 = Xi T1 876 8 := (show Xi T12 876 8 = Xi T1 876 8 from w239.x _ _ rfl)
              have w251 : Xi T12 890 3 = Xi T1 890 3 := (show Xi T12 890 3 = Xi T1 890 3 from w239.x _ _ rfl)
              have w252 : Xi T12 891 11 = Xi T1 891 11 := (show Xi T12 891 11 = Xi T1 891 11 from w239.x _ _ rfl)
              have w253 : Xi T12 891 12 = Xi T1 891 12 := (show Xi T12 891 12 = Xi T1 891 12 from w239.x _ _ rfl)
              have w254 : Xi T12 895 12 = Xi T1 895 12 := (show Xi T12 895 12 = Xi T1 895 12 from w239.x _ _ rfl)
              have w255 : Xi T12 895 14 = Xi T1 895 14 := (show Xi T12 895 14 = Xi T1 895 14 from w239.x _ _ rfl)
              exact Pl_weak (C60 T12 hHT12 hFT12 (z238) (v3) (z238) (by omega) (by omega) (by omega) (by omega) (by omega) (by exact ⟨_, v2, D4.o, ⟨O43.o, F43⟩, by first | (rw [if_pos (by omega)]) | (rw [if_neg (by omega)])⟩) (Q43.o.2) (k26) (l26) (B26) (by omega) (by omega) (by omega) (by omega) (by omega) (by omega)) (by omega) (And.intro rfl (And.intro rfl (And.intro rfl (And.intro rfl (And.intro rfl (True.intro))))))
          · refine y_aload_n rfl rfl ?_
            refine y_gfr rfl rfl rfl rfl rfl (hHT1.r 891 4 895 rfl) ?_
            refine y_gfi rfl rfl rfl rfl rfl ?_
            refine y_goto rfl rfl ?_
            refine y_callV rfl rfl rfl (t_re_objectOrNew__p hHT1 v3 (Xi T1 895 12) ⟨by omega, by omega⟩ ⟨by omega, by omega⟩ (by omega) (S4.o.1.2.2.1) (by first | assumption | omega) (by first | assumption | omega) (by first | assumption | omega) (by first | assumption | omega) _) ?_
            rintro _ T13 ⟨hHT13, w257, z256, rfl, w256, o43_, g43⟩
            have hFT13 : FR md_re_doObjects__p S T13 := FR.tr hFT1 w257 rfl
            show Pl _ _ _ _ _ _ [iv z256] _ _
            have O43 : Hid (OBN T1 T13 z256 (kr7 (ty7 S) (cR (ty7 S) (v3).toNat)) (re7 (ty7 S) (kr7 (ty7 S) (cR (ty7 S) (v3).toNat))) (if ds = 0 then 0 else Xi S 895 12)) := by have t := o43_; rw [FRT hFT1 rfl rfl] at t; first | (rw [if_pos (show ds = 0 by omega), ← k26]; exact t) | (rw [if_neg (show ¬ ds = 0 by omega), ← k26]; rw [show Xi T1 895 12 = Xi S 895 12 by omega] at t; exact t)
            clear o43_
            have F43 := (by assumption : FR md_re_objectOrNew__p T1 T13)
            have Q43 := Hid.i (si7_o S4.o (hlo.o _ l26) (by omega) lb26 hc O43.o rfl rfl F43)
            have u43 : 0 ≤ z256 ∧ z256 ≤ 23 := Q43.o.1
            refine y_istore rfl rfl rfl ?_
            refine y_iload_n rfl rfl ?_
            refine y_iconst rfl ?_
            refine y_icmp_ne rfl rfl (by unfold rg; omega) (by unfold rg; omega) (fun w258 => ?_) (fun w259 => ?_)
            · refine y_iload_n rfl rfl ?_
              refine y_istore_n rfl rfl rfl ?_
              have w260 : Xi T13 876 7 = Xi T1 876 7 := (show Xi T13 876 7 = Xi T1 876 7 from w257.x _ _ rfl)
              have w261 : Xi T13 876 8 = Xi T1 876 8 := (show Xi T13 876 8 = Xi T1 876 8 from w257.x _ _ rfl)
              have w262 : Xi T13 890 3 = Xi T1 890 3 := (show Xi T13 890 3 = Xi T1 890 3 from w257.x _ _ rfl)
              have w263 : Xi T13 891 11 = Xi T1 891 11 := (show Xi T13 891 11 = Xi T1 891 11 from w257.x _ _ rfl)
              have w264 : Xi T13 891 12 = Xi T1 891 12 := (show Xi T13 891 12 = Xi T1 891 12 from w257.x _ _ rfl)
              have w265 : Xi T13 895 12 = Xi T1 895 12 := (show Xi T13 895 12 = Xi T1 895 12 from w257.x _ _ rfl)
              have w266 : Xi T13 895 14 = Xi T1 895 14 := (show Xi T13 895 14 = Xi T1 895 14 from w257.x _ _ rfl)
              exact Pl_weak (C60 T13 hHT13 hFT13 (v2) (v3) (z256) (by omega) (by omega) (by omega) (by omega) (by omega) (by exact ⟨_, v2, D4.o, ⟨O43.o, F43⟩, by first | (rw [if_pos (by omega)]) | (rw [if_neg (by omega)])⟩) (Q43.o.2) (k26) (l26) (B26) (by omega) (by omega) (by omega) (by omega) (by omega) (by omega)) (by omega) (And.intro rfl (And.intro rfl (And.intro rfl (And.intro rfl (And.intro rfl (True.intro))))))
            · refine y_iload rfl rfl ?_
              refine y_goto rfl rfl ?_
              refine y_istore_n rfl rfl rfl ?_
              have w267 : Xi T13 876 7 = Xi T1 876 7 := (show Xi T13 876 7 = Xi T1 876 7 from w257.x _ _ rfl)
              have w268 : Xi T13 876 8 = Xi T1 876 8 := (show Xi T13 876 8 = Xi T1 876 8 from w257.x _ _ rfl)
              have w269 : Xi T13 890 3 = Xi T1 890 3 := (show Xi T13 890 3 = Xi T1 890 3 from w257.x _ _ rfl)
              have w270 : Xi T13 891 11 = Xi T1 891 11 := (show Xi T13 891 11 = Xi T1 891 11 from w257.x _ _ rfl)
              have w271 : Xi T13 891 12 = Xi T1 891 12 := (show Xi T13 891 12 = Xi T1 891 12 from w257.x _ _ rfl)
              have w272 : Xi T13 895 12 = Xi T1 895 12 := (show Xi T13 895 12 = Xi T1 895 12 from w257.x _ _ rfl)
              have w273 : Xi T13 895 14 = Xi T1 895 14 := (show Xi T13 895 14 = Xi T1 895 14 from w257.x _ _ rfl)
              exact Pl_weak (C60 T13 hHT13 hFT13 (z256) (v3) (z256) (by omega) (by omega) (by omega) (by omega) (by omega) (by exact ⟨_, v2, D4.o, ⟨O43.o, F43⟩, by first | (rw [if_pos (by omega)]) | (rw [if_neg (by omega)])⟩) (Q43.o.2) (k26) (l26) (B26) (by omega) (by omega) (by omega) (by omega) (by omega) (by omega)) (by omega) (And.intro rfl (And.intro rfl (And.intro rfl (And.intro rfl (And.intro rfl (True.intro))))))
        · refine y_goto rfl rfl ?_
          exact Pl_weak (C148 T1 hHT1 hFT1 (v2) (v3) (by omega) (by omega) (by omega) (by first | (have t := K127; rw [cR_y (by omega) g102]; exact qb_1 B102.o (by omega) (by have t := e127.o; rw [← hzp, show zp = 0 by omega] at t; exact t)) | (have t := B102; rw [cR_y (by omega) g102]; exact qb_0 B102.o (by omega)) | (rw [cR_n (by omega) (fun q => by have t := v17.2 (by omega) (by omega); rw [FRT hFT1 rfl rfl] at t; exact t q)]; exact D4.o)) (by first | (have t := K127; rw [cR_y (by omega) g102]; exact si7_v S102.o (SMV_FR F127 rfl rfl) ((F127.cx 5 rfl _).1) (TX_FR F127 rfl S102.o.1.2.2.2) (by rw [F127.x 876 8 rfl]; exact S102.o.2.1)) | (have t := B102; rw [cR_y (by omega) g102]; exact S102.o) | (rw [cR_n (by omega) (fun q => by have t := v17.2 (by omega) (by omega); rw [FRT hFT1 rfl rfl] at t; exact t q)]; exact S4.o)) (by omega) (by omega) (by omega) (by omega) (by omega) (by omega)) (by omega) (And.intro rfl (And.intro rfl (And.intro rfl (And.intro rfl (True.intro)))))
  refine y_iconst rfl ?_
  refine y_istore_n rfl rfl rfl ?_
  refine y_iconst rfl ?_
  refine y_istore_n rfl rfl rfl ?_
  exact Pl_weak (C4 fu (by omega) S hH hF ((-1)) (0) (by omega) (by omega) (by omega) (by first | exact D148 | exact ⟨rfl, rfl⟩) (by first | exact S148 | exact ⟨⟨GRW.rf, hw2, hCE, hX⟩, hf, Int.le_add_of_nonneg_right (Int.natCast_nonneg _), Int.le_refl _, hc.2, by omega, h13.1⟩) (by omega) (by omega) (by omega) (by omega) (by omega) (by omega)) (by omega) (And.intro rfl (And.intro rfl (And.intro rfl (And.intro rfl (True.intro)))))
end
