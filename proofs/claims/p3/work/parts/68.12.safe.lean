/-! SAFETY of methods: printed by wip/safe (vc.py, decl.py) -/
abbrev Q_wo_sameText (S : sS) (a : Int) (la : Int) (b : Int) (lb : Int) : pst := fun r S1 => S = S1 ∧ (∃ z : Int, r = some (iv z) ∧ (0 ≤ z ∧ z ≤ 1) ∧ (z = smT S a la b lb))
set_option maxRecDepth 100000 in
theorem t_wo_sameText {S : sS} (hH : HI S) (a : Int) (la : Int) (b : Int) (lb : Int) (ha : -2147483648 ≤ a ∧ a ≤ 2147483647) (hla : -2147483648 ≤ la ∧ la ≤ 2147483647) (hb : -2147483648 ≤ b ∧ b ≤ 2147483647) (hlb : -2147483648 ≤ lb ∧ lb ≤ 2147483647) (ha : TXT S a la) (hb : TXT S b lb) (d : Nat) : Mt lay0 (d + 1) m_wo_sameText [.ref 20, iv a, iv la, iv b, iv lb] S (Q_wo_sameText S a la b lb) := by
  refine Mt_R rfl rfl ?_
  have hab : 0 < la → 0 ≤ a ∧ a + la ≤ 5000 := ha.b
  have hbb : 0 < lb → 0 ≤ b ∧ b + lb ≤ 5000 := hb.b
  have C11 : ∀ (n11 : Nat) (v5 : Int), (0 ≤ v5 ∧ v5 ≤ 5000) → (la = lb) → (smT S a la b lb = smn S (txr S) a b (la - v5).toNat v5) → n11 = (5001 - v5).toNat → Rl lay0 (d + 0) m_wo_sameText 11 [(0, .ref 20), (1, iv a), (2, iv la), (3, iv b), (5, iv v5)] [] S (Q_wo_sameText S a la b lb) := by
    intro n11
    induction n11 using Nat.strongRecOn with
    | ind n11 ih11 =>
      intro v5 w1 w2 hq hm11
      refine l_iload rfl rfl ?_
      refine l_iload_n rfl rfl ?_
      refine l_icmp_ge rfl rfl (by unfold rg; omega) (by unfold rg; omega) (fun w3 => ?_) (fun w4 => ?_)
      · refine l_iconst rfl ?_
        refine l_ireturn rfl rfl ?_
        exact ⟨rfl, _, rfl, ⟨by omega, by omega⟩, (by first | exact smT_n (by omega) | exact (hq.trans (smn_e (by omega))).symm | exact (hq.trans (smn_f (by omega) (by omega))).symm)⟩
      · refine l_aload_n rfl rfl ?_
        have w5 := txe (S := S) ha (by omega)
        have w5b : tp (txr S) := w5.2
        refine l_gfr rfl rfl rfl rfl rfl w5.1 ?_
        refine l_iload_n rfl rfl ?_
        refine l_iload rfl rfl ?_
        refine l_iadd rfl ?_
        refine l_baload (n := 5000) rfl (tp_sv (by assumption)) (lay_tp (by assumption)) (by decide) (by omega) (by omega) (by unfold rg; omega) ?_
        have w6 : -128 ≤ (Xi S (txr S) (((a + v5)).toNat)) ∧ (Xi S (txr S) (((a + v5)).toNat)) ≤ 127 := tpc hH (by assumption)
        refine l_aload_n rfl rfl ?_
        have w7 := txe (S := S) ha (by omega)
        have w7b : tp (txr S) := w7.2
        refine l_gfr rfl rfl rfl rfl rfl w7.1 ?_
        refine l_iload_n rfl rfl ?_
        refine l_iload rfl rfl ?_
        refine l_iadd rfl ?_
        refine l_baload (n := 5000) rfl (tp_sv (by assumption)) (lay_tp (by assumption)) (by decide) (by omega) (by omega) (by unfold rg; omega) ?_
        have w8 : -128 ≤ (Xi S (txr S) (((b + v5)).toNat)) ∧ (Xi S (txr S) (((b + v5)).toNat)) ≤ 127 := tpc hH (by assumption)
        refine l_icmp_eq rfl rfl (by unfold rg; omega) (by unfold rg; omega) (fun w9 => ?_) (fun w10 => ?_)
        · refine l_iinc rfl rfl rfl rfl ?_
          refine l_goto rfl rfl ?_
          exact Rl_weak (ih11 _ (by omega) ((v5 + 1)) (by omega) (by omega) (by first | exact smT_0 (by omega) | exact hq.trans (smn_s (by omega) (by omega))) rfl) (And.intro rfl (And.intro rfl (And.intro rfl (And.intro rfl (And.intro rfl (True.intro))))))
        · refine l_iconst rfl ?_
          refine l_ireturn rfl rfl ?_
          exact ⟨rfl, _, rfl, ⟨by omega, by omega⟩, (by first | exact smT_n (by omega) | exact (hq.trans (smn_e (by omega))).symm | exact (hq.trans (smn_f (by omega) (by omega))).symm)⟩
  refine l_iload_n rfl rfl ?_
  refine l_iload rfl rfl ?_
  refine l_icmp_eq rfl rfl (by unfold rg; omega) (by unfold rg; omega) (fun w11 => ?_) (fun w12 => ?_)
  · refine l_iconst rfl ?_
    refine l_istore rfl rfl rfl ?_
    exact Rl_weak (C11 _ (0) (by omega) (by omega) (by first | exact smT_0 (by omega) | exact hq.trans (smn_s (by omega) (by omega))) rfl) (And.intro rfl (And.intro rfl (And.intro rfl (And.intro rfl (And.intro rfl (True.intro))))))
  · refine l_iconst rfl ?_
    refine l_ireturn rfl rfl ?_
    exact ⟨rfl, _, rfl, ⟨by omega, by omega⟩, (by first | exact smT_n (by omega) | exact (hq.trans (smn_e (by omega))).symm | exact (hq.trans (smn_f (by omega) (by omega))).symm)⟩
def md_wo_tellProperty : List rec := [(66, 106, 0, 100000), (107, 147, 0, 100000), (148, 188, 0, 100000)]
abbrev Q_wo_tellProperty (S : sS) (row : Int) (p : Int) (value : Int) (length : Int) : pst := fun r S1 => HI S1 ∧ FR md_wo_tellProperty S S1 ∧ (∃ z : Int, r = some (iv z) ∧ (0 ≤ z ∧ z ≤ 1) ∧ (TX S1))
set_option maxRecDepth 100000 in
theorem t_wo_tellProperty {S : sS} (hH : HI S) (row : Int) (p : Int) (value : Int) (length : Int) (hrow : 0 ≤ row ∧ row ≤ 39) (hp : 0 ≤ p ∧ p ≤ 11) (hvalue : -2147483648 ≤ value ∧ value ≤ 2147483647) (hlength : -2147483648 ≤ length ∧ length ≤ 2147483647) (hX : TX S) (ht : TXT S value length) (d : Nat) : Mt lay0 (d + 2) m_wo_tellProperty [.ref 20, iv row, iv p, iv value, iv length] S (Q_wo_tellProperty S row p value length) := by
  refine Mt_R rfl rfl ?_
  have hF : FR md_wo_tellProperty S S := FR.rf
  refine l_aload_n rfl rfl ?_
  refine l_gfr rfl rfl rfl rfl rfl (hH.r 20 6 65 rfl) ?_
  refine l_iload_n rfl rfl ?_
  refine l_aaload (n := 40) (a := 66 + (row).toNat) rfl rfl (by decide) (by omega) (by omega) (by unfold rg; omega) (RW_65 hH (by omega)) ?_
  refine l_iload_n rfl rfl ?_
  refine l_iaload (n := 12) rfl (lay_66 (by omega)) (by omega) (by omega) (by unfold rg; omega) ?_
  have w1 : -2147483648 ≤ (Xi S (66 + (row).toNat) ((p).toNat)) ∧ (Xi S (66 + (row).toNat) ((p).toNat)) ≤ 2147483647 := Xi_rgI
  refine l_if_eq rfl rfl (by unfold rg; omega) (fun w2 => ?_) (fun w3 => ?_)
  · refine l_aload_n rfl rfl ?_
    refine l_iload_n rfl rfl ?_
    refine l_iload_n rfl rfl ?_
    refine l_iload_n rfl rfl ?_
    refine l_iload rfl rfl ?_
    refine l_callV rfl rfl rfl (t_wo_setProperty hH row p value length ⟨by omega, by omega⟩ ⟨by omega, by omega⟩ ⟨by omega, by omega⟩ ⟨by omega, by omega⟩ _) ?_
    rintro _ T1 ⟨hHT1, w6, rfl, w4⟩
    have hFT1 : FR md_wo_tellProperty S T1 := FR.tr hF w6 rfl
    show Rl _ _ _ _ _ [] _ _
    refine l_iconst rfl ?_
    refine l_ireturn rfl rfl ?_
    exact ⟨hHT1, hFT1, _, rfl, ⟨by omega, by omega⟩, (by first | exact hX | exact (by assumption : TX S → TXT S value length → TX T1) hX ht)⟩
  · refine l_aload_n rfl rfl ?_
    refine l_gfr rfl rfl rfl rfl rfl (hH.r 20 0 1 rfl) ?_
    refine l_gfr rfl rfl rfl rfl rfl (hH.r 1 8 9 rfl) ?_
    refine l_iload_n rfl rfl ?_
    refine l_iaload (n := 12) rfl rfl (by omega) (by omega) (by unfold rg; omega) ?_
    have w7 : 0 ≤ (Xi S 9 ((p).toNat)) ∧ (Xi S 9 ((p).toNat)) ≤ 7 := hH.c _ _
    refine l_iconst rfl ?_
    refine l_icmp_ne rfl rfl (by unfold rg; omega) (by unfold rg; omega) (fun w8 => ?_) (fun w9 => ?_)
    · refine l_aload_n rfl rfl ?_
      refine l_gfr rfl rfl rfl rfl rfl (hH.r 20 7 106 rfl) ?_
      refine l_iload_n rfl rfl ?_
      refine l_aaload (n := 40) (a := 107 + (row).toNat) rfl rfl (by decide) (by omega) (by omega) (by unfold rg; omega) (RW_106 hH (by omega)) ?_
      refine l_iload_n rfl rfl ?_
      refine l_iaload (n := 12) rfl (lay_107 (by omega)) (by omega) (by omega) (by unfold rg; omega) ?_
      have w10 : -2147483648 ≤ (Xi S (107 + (row).toNat) ((p).toNat)) ∧ (Xi S (107 + (row).toNat) ((p).toNat)) ≤ 2147483647 := Xi_rgI
      refine l_iload_n rfl rfl ?_
      refine l_icmp_ne rfl rfl (by unfold rg; omega) (by unfold rg; omega) (fun w11 => ?_) (fun w12 => ?_)
      · refine l_iconst rfl ?_
        refine l_ireturn rfl rfl ?_
        exact ⟨hH, hF, _, rfl, ⟨by omega, by omega⟩, (by first | exact hX | exact (by assumption : TX S → TXT S value length → TX S) hX ht)⟩
      · refine l_iconst rfl ?_
        refine l_goto rfl rfl ?_
        refine l_ireturn rfl rfl ?_
        exact ⟨hH, hF, _, rfl, ⟨by omega, by omega⟩, (by first | exact hX | exact (by assumption : TX S → TXT S value length → TX S) hX ht)⟩
    · refine l_aload_n rfl rfl ?_
      refine l_aload_n rfl rfl ?_
      refine l_gfr rfl rfl rfl rfl rfl (hH.r 20 7 106 rfl) ?_
      refine l_iload_n rfl rfl ?_
      refine l_aaload (n := 40) (a := 107 + (row).toNat) rfl rfl (by decide) (by omega) (by omega) (by unfold rg; omega) (RW_106 hH (by omega)) ?_
      refine l_iload_n rfl rfl ?_
      refine l_iaload (n := 12) rfl (lay_107 (by omega)) (by omega) (by omega) (by unfold rg; omega) ?_
      have w13 : -2147483648 ≤ (Xi S (107 + (row).toNat) ((p).toNat)) ∧ (Xi S (107 + (row).toNat) ((p).toNat)) ≤ 2147483647 := Xi_rgI
      refine l_aload_n rfl rfl ?_
      refine l_gfr rfl rfl rfl rfl rfl (hH.r 20 8 147 rfl) ?_
      refine l_iload_n rfl rfl ?_
      refine l_aaload (n := 40) (a := 148 + (row).toNat) rfl rfl (by decide) (by omega) (by omega) (by unfold rg; omega) (RW_147 hH (by omega)) ?_
      refine l_iload_n rfl rfl ?_
      refine l_iaload (n := 12) rfl (lay_148 (by omega)) (by omega) (by omega) (by unfold rg; omega) ?_
      have w14 : -2147483648 ≤ (Xi S (148 + (row).toNat) ((p).toNat)) ∧ (Xi S (148 + (row).toNat) ((p).toNat)) ≤ 2147483647 := Xi_rgI
      refine l_iload_n rfl rfl ?_
      refine l_iload rfl rfl ?_
      refine l_callV rfl rfl rfl (t_wo_sameText hH (Xi S (107 + (row).toNat) ((p).toNat)) (Xi S (148 + (row).toNat) ((p).toNat)) value length ⟨by omega, by omega⟩ ⟨by omega, by omega⟩ ⟨by omega, by omega⟩ ⟨by omega, by omega⟩ (TX_r hX (by omega) (by omega) (by omega)) (ht) _) ?_
      rintro _ _ ⟨rfl, z16, rfl, w16, w15⟩
      show Rl _ _ _ _ _ [iv z16] _ _
      refine l_goto rfl rfl ?_
      refine l_ireturn rfl (retI_z (by omega)) ?_
      exact ⟨hH, hF, _, rfl, ⟨by omega, by omega⟩, (by first | exact hX | exact (by assumption : TX S → TXT S value length → TX S) hX ht)⟩
def md_tu_writeText : List rec := [(900, 901, 4, 5), (901, 902, 0, 100000)]
abbrev Q_tu_writeText (S : sS) (f : Int) (n : Int) : pst := fun r S1 => HI S1 ∧ FR md_tu_writeText S S1 ∧ (r = none)
set_option maxRecDepth 100000 in
theorem t_tu_writeText {S : sS} (hH : HI S) (f : Int) (n : Int) (hf : -2147483648 ≤ f ∧ f ≤ 2147483647) (hn : -2147483648 ≤ n ∧ n ≤ 2147483647) (hx : TXT S f n) (d : Nat) : Mt lay0 (d + 2) m_tu_writeText [.ref 900, iv f, iv n] S (Q_tu_writeText S f n) := by
  refine Mt_R rfl rfl ?_
  have hF : FR md_tu_writeText S S := FR.rf
  have hxb : 0 < n → 0 ≤ f ∧ f + n ≤ 5000 := hx.b
  have C2 : ∀ (n2 : Nat) (T1 : sS) (_ : HI T1) (_ : FR md_tu_writeText S T1) (v3 : Int), (0 ≤ v3 ∧ v3 ≤ 5000) → n2 = (5001 - v3).toNat → Rl lay0 (d + 1) m_tu_writeText 2 [(0, .ref 900), (1, iv f), (2, iv n), (3, iv v3)] [] T1 (Q_tu_writeText S f n) := by
    intro n2
    induction n2 using Nat.strongRecOn with
    | ind n2 ih2 =>
      intro T1 hHT1 hFT1 v3 w1 hm2
      refine l_iload_n rfl rfl ?_
      refine l_iload_n rfl rfl ?_
      refine l_icmp_ge rfl rfl (by unfold rg; omega) (by unfold rg; omega) (fun w2 => ?_) (fun w3 => ?_)
      · refine l_return rfl rfl ?_
        exact ⟨hHT1, hFT1, rfl⟩
      · refine l_aload_n rfl rfl ?_
        refine l_aload_n rfl rfl ?_
        refine l_gfr rfl rfl rfl rfl rfl (hHT1.r 900 1 20 rfl) ?_
        have w4 := txe (S := T1) (TXT_eq (hFT1 20 1 rfl).2.2 hx) (by omega)
        have w4b : tp (txr T1) := w4.2
        refine l_gfr rfl rfl rfl rfl rfl w4.1 ?_
        refine l_iload_n rfl rfl ?_
        refine l_iload_n rfl rfl ?_
        refine l_iadd rfl ?_
        refine l_baload (n := 5000) rfl (tp_sv (by assumption)) (lay_tp (by assumption)) (by decide) (by omega) (by omega) (by unfold rg; omega) ?_
        have w5 : -128 ≤ (Xi T1 (txr T1) (((f + v3)).toNat)) ∧ (Xi T1 (txr T1) (((f + v3)).toNat)) ≤ 127 := tpc hHT1 (by assumption)
        refine l_callV rfl rfl rfl (t_tu_write hHT1 (Xi T1 (txr T1) (((f + v3)).toNat)) ⟨by omega, by omega⟩ _) ?_
        rintro _ T2 ⟨hHT2, w7, rfl⟩
        have hFT2 : FR md_tu_writeText S T2 := FR.tr hFT1 w7 rfl
        show Rl _ _ _ _ _ [] _ _
        refine l_iinc rfl rfl rfl rfl ?_
        refine l_goto rfl rfl ?_
        exact Rl_weak (ih2 _ (by omega) T2 hHT2 hFT2 ((v3 + 1)) (by omega) rfl) (And.intro rfl (And.intro rfl (And.intro rfl (And.intro rfl (True.intro)))))
  refine l_iconst rfl ?_
  refine l_istore_n rfl rfl rfl ?_
  exact Rl_weak (C2 _ S hH hF (0) (by omega) rfl) (And.intro rfl (And.intro rfl (And.intro rfl (And.intro rfl (True.intro)))))
def md_tu_writeNumber : List rec := [(900, 901, 4, 5), (901, 902, 0, 100000)]
abbrev Q_tu_writeNumber (S : sS) (x : Int) : pst := fun r S1 => HI S1 ∧ FR md_tu_writeNumber S S1 ∧ (r = none)
set_option maxRecDepth 100000 in
theorem t_tu_writeNumber {S : sS} (hH : HI S) (x : Int) (hx : -2147483648 ≤ x ∧ x ≤ 2147483647) (d : Nat) : Mt lay0 (d + 2) m_tu_writeNumber [.ref 900, iv x] S (Q_tu_writeNumber S x) := by
  refine Mt_R rfl rfl ?_
  have hF : FR md_tu_writeNumber S S := FR.rf
  have C15 : ∀  (T1 : sS) (_ : HI T1) (_ : FR md_tu_writeNumber S T1) (v2 : Int), (-2147483648 ≤ v2 ∧ v2 ≤ 2147483647) → Rl lay0 (d + 1) m_tu_writeNumber 15 [(0, .ref 900), (2, iv v2)] [] T1 (Q_tu_writeNumber S x) := by
    intro T1 hHT1 hFT1 v2 w1
    have C17 : ∀ (n17 : Nat) (v2 : Int) (v3 : Int), (-2147483648 ≤ v2 ∧ v2 ≤ 2147483647) → (0 ≤ v3 ∧ v3 ≤ 2147483647) → (1 ≤ v3) → n17 = (2147483648 - v3).toNat → Rl lay0 (d + 1) m_tu_writeNumber 17 [(0, .ref 900), (2, iv v2), (3, iv v3)] [] T1 (Q_tu_writeNumber S x) := by
      intro n17
      induction n17 using Nat.strongRecOn with
      | ind n17 ih17 =>
        intro v2 v3 w2 w3 w4 hm17
        have C33 : ∀ (n33 : Nat) (T2 : sS) (_ : HI T2) (_ : FR md_tu_writeNumber S T2) (v2 : Int) (v3 : Int), (-2147483648 ≤ v2 ∧ v2 ≤ 2147483647) → (0 ≤ v3 ∧ v3 ≤ 2147483647) → (0 ≤ v3) → n33 = (v3).toNat → Rl lay0 (d + 1) m_tu_writeNumber 33 [(0, .ref 900), (2, iv v2), (3, iv v3)] [] T2 (Q_tu_writeNumber S x) := by
          intro n33
          induction n33 using Nat.strongRecOn with
          | ind n33 ih33 =>
            intro T2 hHT2 hFT2 v2 v3 w5 w6 w7 hm33
            refine l_iload_n rfl rfl ?_
            refine l_if_le rfl rfl (by unfold rg; omega) (fun w8 => ?_) (fun w9 => ?_)
            · refine l_return rfl rfl ?_
              exact ⟨hHT2, hFT2, rfl⟩
            · refine l_aload_n rfl rfl ?_
              refine l_bipush rfl rfl ?_
              refine l_iload_n rfl rfl ?_
              refine l_iload_n rfl rfl ?_
              refine l_idivA rfl (by omega) (by unfold rg; omega) (by unfold rg; omega) (fun c10 w10 w10b w10c => ?_)
              refine l_bipush rfl rfl ?_
              refine l_iremA rfl (by omega) (by unfold rg; omega) (by unfold rg; omega) (fun c11 w11 w11b w11c => ?_)
              refine l_iaddW rfl (fun c12 w12 => ?_)
              refine l_callV rfl rfl rfl (t_tu_write hHT2 c12 ⟨by omega, by omega⟩ _) ?_
              rintro _ T3 ⟨hHT3, w14, rfl⟩
              have hFT3 : FR md_tu_writeNumber S T3 := FR.tr hFT2 w14 rfl
              show Rl _ _ _ _ _ [] _ _
              refine l_iload_n rfl rfl ?_
              refine l_bipush rfl rfl ?_
              refine l_idivA rfl (by omega) (by unfold rg; omega) (by unfold rg; omega) (fun c15 w15 w15b w15c => ?_)
              refine l_istore_n rfl rfl rfl ?_
              refine l_goto rfl rfl ?_
              exact Rl_weak (ih33 _ (by omega) T3 hHT3 hFT3 (v2) (c15) (by omega) (by omega) (by omega) rfl) (And.intro rfl (And.intro rfl (And.intro rfl (True.intro))))
        refine l_iload_n rfl rfl ?_
        refine l_iload_n rfl rfl ?_
        refine l_bipush rfl rfl ?_
        refine l_idivA rfl (by omega) (by unfold rg; omega) (by unfold rg; omega) (fun c16 w16 w16b w16c => ?_)
        refine l_icmp_gt rfl rfl (by unfold rg; omega) (by unfold rg; omega) (fun w17 => ?_) (fun w18 => ?_)
        · exact Rl_weak (C33 _ T1 hHT1 hFT1 (v2) (v3) (by omega) (by omega) (by omega) rfl) (And.intro rfl (And.intro rfl (And.intro rfl (True.intro))))
        · refine l_iload_n rfl rfl ?_
          refine l_bipush rfl rfl ?_
          refine l_imul rfl ?_
          refine l_istore_n rfl rfl rfl ?_
          refine l_goto rfl rfl ?_
          exact Rl_weak (ih17 _ (by omega) (v2) ((v3 * 10)) (by omega) (by omega) (by omega) rfl) (And.intro rfl (And.intro rfl (And.intro rfl (True.intro))))
    refine l_iconst rfl ?_
    refine l_istore_n rfl rfl rfl ?_
    exact Rl_weak (C17 _ (v2) (1) (by omega) (by omega) (by omega) rfl) (And.intro rfl (And.intro rfl (And.intro rfl (True.intro))))
  refine l_iload_n rfl rfl ?_
  refine l_abs rfl rfl rfl (by unfold rg; omega) (fun c19 w19 w19b w19c => ?_)
  refine l_istore_n rfl rfl rfl ?_
  refine l_iload_n rfl rfl ?_
  refine l_if_ge rfl rfl (by unfold rg; omega) (fun w20 => ?_) (fun w21 => ?_)
  · exact Rl_weak (C15 S hH hF (c19) (by omega)) (And.intro rfl (And.intro rfl (True.intro)))
  · refine l_aload_n rfl rfl ?_
    refine l_bipush rfl rfl ?_
    refine l_callV rfl rfl rfl (t_tu_write hH 45 ⟨by omega, by omega⟩ _) ?_
    rintro _ T4 ⟨hHT4, w23, rfl⟩
    have hFT4 : FR md_tu_writeNumber S T4 := FR.tr hF w23 rfl
    show Rl _ _ _ _ _ [] _ _
    exact Rl_weak (C15 T4 hHT4 hFT4 (c19) (by omega)) (And.intro rfl (And.intro rfl (True.intro)))
abbrev Q_vo_nameByte (S : sS) (sort : Int) (which : Int) (k : Int) : pst := fun r S1 => S = S1 ∧ (∃ z : Int, r = some (iv z) ∧ (-2147483648 ≤ z ∧ z ≤ 2147483647))
set_option maxRecDepth 100000 in
theorem t_vo_nameByte {S : sS} (hH : HI S) (sort : Int) (which : Int) (k : Int) (hsort : -2147483648 ≤ sort ∧ sort ≤ 2147483647) (hwhich : -2147483648 ≤ which ∧ which ≤ 2147483647) (hk : -2147483648 ≤ k ∧ k ≤ 2147483647) (d : Nat) : Mt lay0 (d + 1) m_vo_nameByte [.ref 1, iv sort, iv which, iv k] S (Q_vo_nameByte S sort which k) := by
  refine Mt_R rfl rfl ?_
  have C6 : ∀ (n6 : Nat) (v4 : Int) (v5 : Int), (-2147483648 ≤ v4 ∧ v4 ≤ 2147483647) → (0 ≤ v5 ∧ v5 ≤ 600) → n6 = (601 - v5).toNat → Rl lay0 (d + 0) m_vo_nameByte 6 [(0, .ref 1), (1, iv sort), (2, iv which), (4, iv v4), (5, iv v5)] [] S (Q_vo_nameByte S sort which k) := by
    intro n6
    induction n6 using Nat.strongRecOn with
    | ind n6 ih6 =>
      intro v4 v5 w1 w2 hm6
      have C202 : ∀  (v4 : Int) (v5 : Int), (-13 ≤ v4 ∧ v4 ≤ 2147483647) → (0 ≤ v5 ∧ v5 ≤ 599) → ((601 - v5).toNat ≤ n6) → Rl lay0 (d + 0) m_vo_nameByte 202 [(0, .ref 1), (1, iv sort), (2, iv which), (4, iv v4), (5, iv v5)] [] S (Q_vo_nameByte S sort which k) := by
        intro v4 v5 w3 w4 w5
        refine l_iinc rfl rfl rfl rfl ?_
        refine l_goto rfl rfl ?_
        exact Rl_weak (ih6 _ (by omega) (v4) ((v5 + 1)) (by omega) (by omega) rfl) (And.intro rfl (And.intro rfl (And.intro rfl (And.intro rfl (And.intro rfl (True.intro))))))
      have C94 : ∀  (v4 : Int) (v5 : Int) (v6 : Int) (v8 : Int), (0 ≤ v4 ∧ v4 ≤ 2147483647) → (0 ≤ v5 ∧ v5 ≤ 599) → (0 ≤ v8 ∧ v8 ≤ 1) → (0 ≤ v4 ∧ 0 ≤ v8 ∧ v8 ≤ 1) → (v8 = 0 → 1 ≤ v4) → (v5 < 600) → (-9223372036854775808 ≤ v6 ∧ v6 ≤ 9223372036854775807) → ((601 - v5).toNat ≤ n6) → Rl lay0 (d + 0) m_vo_nameByte 94 [(0, .ref 1), (1, iv sort), (2, iv which), (4, iv v4), (5, iv v5), (6, jw v6), (8, iv v8)] [] S (Q_vo_nameByte S sort which k) := by
        intro v4 v5 v6 v8 w6 w7 w8 w9 w10 w11 w12 w13
        have C115 : ∀ (n115 : Nat) (v4 : Int) (v5 : Int) (v6 : Int) (v9 : Int) (v10 : Int), (-1 ≤ v4 ∧ v4 ≤ 2147483647) → (0 ≤ v5 ∧ v5 ≤ 599) → (1 ≤ v9 ∧ v9 ≤ 14) → (0 ≤ v4) → (v5 < 600) → (-9223372036854775808 ≤ v6 ∧ v6 ≤ 9223372036854775807) → (1 ≤ v10 ∧ v10 ≤ 9223372036854775807) → (1 ≤ v9 ∧ v9 ≤ 14) → (v10 = p27 v9) → ((601 - v5).toNat ≤ n6) → n115 = (9223372036854775808 - v10).toNat → Rl lay0 (d + 0) m_vo_nameByte 115 [(0, .ref 1), (1, iv sort), (2, iv which), (4, iv v4), (5, iv v5), (6, jw v6), (9, iv v9), (10, jw v10)] [] S (Q_vo_nameByte S sort which k) := by
          intro n115
          induction n115 using Nat.strongRecOn with
          | ind n115 ih115 =>
            intro v4 v5 v6 v9 v10 w14 w15 w16 w17 w18 w19 w20 w21 hp w22 hm115
            have C151 : ∀ (n151 : Nat) (v4 : Int) (v6 : Int) (v10 : Int) (v12 : Int), (-1 ≤ v4 ∧ v4 ≤ 13) → (0 ≤ v12 ∧ v12 ≤ 13) → (0 ≤ v4) → (1 ≤ v10 ∧ v10 ≤ 9223372036854775807) → (-9223372036854775808 ≤ v6 ∧ v6 ≤ 9223372036854775807) → n151 = (v4 - v12).toNat → Rl lay0 (d + 0) m_vo_nameByte 151 [(4, iv v4), (6, jw v6), (10, jw v10), (12, iv v12)] [] S (Q_vo_nameByte S sort which k) := by
              intro n151
              induction n151 using Nat.strongRecOn with
              | ind n151 ih151 =>
                intro v4 v6 v10 v12 w23 w24 w25 w26 w27 hm151
                refine l_iload rfl rfl ?_
                refine l_iload rfl rfl ?_
                refine l_icmp_ge rfl rfl (by unfold rg; omega) (by unfold rg; omega) (fun w28 => ?_) (fun w29 => ?_)
                · refine l_bipush rfl rfl ?_
                  refine l_lload rfl rfl ?_
                  refine l_lload rfl rfl ?_
                  refine l_ldivA rfl (by omega) (by unfold rgL at *; omega) (by unfold rgL at *; omega) (fun c30 w30 w30b w30c => ?_)
                  refine l_ldc2 (z := 27) rfl rfl ?_
                  refine l_lremA rfl (by omega) (by unfold rgL at *; omega) (by unfold rgL at *; omega) (fun c31 w31 w31b w31c => ?_)
                  refine l_l2iA rfl (fun c32 w32 => ?_)
                  refine l_iaddW rfl (fun c33 w33 => ?_)
                  refine l_ireturn rfl rfl ?_
                  exact ⟨rfl, _, rfl, ⟨by omega, by omega⟩⟩
                · refine l_lload rfl rfl ?_
                  refine l_ldc2 (z := 27) rfl rfl ?_
                  refine l_lcmp rfl (by unfold rgL; omega) (by unfold rgL; omega) (fun c34 w34 w34a w34b w34c => ?_)
                  refine l_if_lt rfl rfl (by unfold rg; omega) (fun w35 => ?_) (fun w36 => ?_)
                  · refine l_bipush rfl rfl ?_
                    refine l_lload rfl rfl ?_
                    refine l_lload rfl rfl ?_
                    refine l_ldivA rfl (by omega) (by unfold rgL at *; omega) (by unfold rgL at *; omega) (fun c37 w37 w37b w37c => ?_)
                    refine l_ldc2 (z := 27) rfl rfl ?_
                    refine l_lremA rfl (by omega) (by unfold rgL at *; omega) (by unfold rgL at *; omega) (fun c38 w38 w38b w38c => ?_)
                    refine l_l2iA rfl (fun c39 w39 => ?_)
                    refine l_iaddW rfl (fun c40 w40 => ?_)
                    refine l_ireturn rfl rfl ?_
                    exact ⟨rfl, _, rfl, ⟨by omega, by omega⟩⟩
                  · refine l_lload rfl rfl ?_
                    refine l_ldc2 (z := 27) rfl rfl ?_
                    refine l_ldivA rfl (by omega) (by unfold rgL at *; omega) (by unfold rgL at *; omega) (fun c41 w41 w41b w41c => ?_)
                    refine l_lstore rfl rfl rfl rfl ?_
                    refine l_iinc rfl rfl rfl rfl ?_
                    refine l_goto rfl rfl ?_
                    exact Rl_weak (ih151 _ (by omega) (v4) (v6) (c41) ((v12 + 1)) (by omega) (by omega) (by omega) (by omega) (by omega) rfl) (And.intro rfl (And.intro rfl (And.intro rfl (And.intro rfl (True.intro)))))
            refine l_lload rfl rfl ?_
            refine l_lload rfl rfl ?_
            refine l_ldc2 (z := 27) rfl rfl ?_
            refine l_ldivA rfl (by omega) (by unfold rgL at *; omega) (by unfold rgL at *; omega) (fun c42 w42 w42b w42c => ?_)
            refine l_lcmp rfl (by unfold rgL; omega) (by unfold rgL; omega) (fun c43 w43 w43a w43b w43c => ?_)
            have hpb : v10 ≤ 341606371735362066 → v9 ≤ 13 := fun h => p27_b hp h
            refine l_if_gt rfl rfl (by unfold rg; omega) (fun w44 => ?_) (fun w45 => ?_)
            · refine l_iload rfl rfl ?_
              refine l_iload rfl rfl ?_
              refine l_icmp_ge rfl rfl (by unfold rg; omega) (by unfold rg; omega) (fun w46 => ?_) (fun w47 => ?_)
              · refine l_iload rfl rfl ?_
                refine l_iload rfl rfl ?_
                refine l_isub rfl ?_
                refine l_istore rfl rfl rfl ?_
                exact Rl_weak (C202 ((v4 - v9)) (v5) (by omega) (by omega) (by omega)) (And.intro rfl (And.intro rfl (And.intro rfl (And.intro rfl (And.intro rfl (True.intro))))))
              · refine l_iconst rfl ?_
                refine l_istore rfl rfl rfl ?_
                exact Rl_weak (C151 _ (v4) (v6) (v10) (0) (by omega) (by omega) (by omega) (by omega) (by omega) rfl) (And.intro rfl (And.intro rfl (And.intro rfl (And.intro rfl (True.intro)))))
            · refine l_lload rfl rfl ?_
              refine l_ldc2 (z := 27) rfl rfl ?_
              refine l_lmul rfl ?_
              refine l_lstore rfl rfl rfl rfl ?_
              refine l_iinc rfl rfl rfl rfl ?_
              refine l_goto rfl rfl ?_
              exact Rl_weak (ih115 _ (by omega) (v4) (v5) (v6) ((v9 + 1)) ((v10 * 27)) (by omega) (by omega) (by omega) (by omega) (by omega) (by omega) (by omega) (by omega) (by first | exact p27_1 | exact p27_s hp (by omega)) (by omega) rfl) (And.intro rfl (And.intro rfl (And.intro rfl (And.intro rfl (And.intro rfl (And.intro rfl (And.intro rfl (And.intro rfl (True.intro)))))))))
        refine l_iload rfl rfl ?_
        refine l_iload rfl rfl ?_
        refine l_if_eq rfl rfl (by unfold rg; omega) (fun w48 => ?_) (fun w49 => ?_)
        · refine l_iconst rfl ?_
          refine l_isub rfl ?_
          refine l_istore rfl rfl rfl ?_
          refine l_iconst rfl ?_
          refine l_istore rfl rfl rfl ?_
          refine l_lconst (z := 1) rfl rfl ?_
          refine l_lstore rfl rfl rfl rfl ?_
          exact Rl_weak (C115 _ ((v4 - 1)) (v5) (v6) (1) (1) (by omega) (by omega) (by omega) (by omega) (by omega) (by omega) (by omega) (by omega) (by first | exact p27_1 | exact p27_s hp (by omega)) (by omega) rfl) (And.intro rfl (And.intro rfl (And.intro rfl (And.intro rfl (And.intro rfl (And.intro rfl (And.intro rfl (And.intro rfl (True.intro)))))))))
        · refine l_iconst rfl ?_
          refine l_goto rfl rfl ?_
          refine l_isub rfl ?_
          refine l_istore rfl rfl rfl ?_
          refine l_iconst rfl ?_
          refine l_istore rfl rfl rfl ?_
          refine l_lconst (z := 1) rfl rfl ?_
          refine l_lstore rfl rfl rfl rfl ?_
          exact Rl_weak (C115 _ ((v4 - 0)) (v5) (v6) (1) (1) (by omega) (by omega) (by omega) (by omega) (by omega) (by omega) (by omega) (by omega) (by first | exact p27_1 | exact p27_s hp (by omega)) (by omega) rfl) (And.intro rfl (And.intro rfl (And.intro rfl (And.intro rfl (And.intro rfl (And.intro rfl (And.intro rfl (And.intro rfl (True.intro)))))))))
      refine l_iload rfl rfl ?_
      refine l_iconst rfl ?_
      refine l_aload_n rfl rfl ?_
      refine l_gfi rfl rfl rfl rfl rfl ?_
      have w50 : 0 ≤ (Xi S 1 3) ∧ (Xi S 1 3) ≤ 200 := hH.c _ _
      refine l_imul rfl ?_
      refine l_icmp_ge rfl rfl (by unfold rg; omega) (by unfold rg; omega) (fun w51 => ?_) (fun w52 => ?_)
      · refine l_iconst rfl ?_
        refine l_ireturn rfl rfl ?_
        exact ⟨rfl, _, rfl, ⟨by omega, by omega⟩⟩
      · refine l_iload rfl rfl ?_
        refine l_if_lt rfl rfl (by unfold rg; omega) (fun w53 => ?_) (fun w54 => ?_)
        · refine l_iconst rfl ?_
          refine l_ireturn rfl rfl ?_
          exact ⟨rfl, _, rfl, ⟨by omega, by omega⟩⟩
        · refine l_aload_n rfl rfl ?_
          refine l_gfr rfl rfl rfl rfl rfl (hH.r 1 0 2 rfl) ?_
          refine l_iload rfl rfl ?_
          refine l_laload (n := 600) rfl rfl (by omega) (by omega) (by unfold rg; omega) ?_
          have w55 : -9223372036854775808 ≤ (Xj S 2 ((v5).toNat)) ∧ (Xj S 2 ((v5).toNat)) < 9223372036854775808 := Xj_rg
          refine l_lstore rfl rfl rfl rfl ?_
          refine l_lload rfl rfl ?_
          refine l_lconst (z := 0) rfl rfl ?_
          refine l_lcmp rfl (by unfold rgL; omega) (by unfold rgL; omega) (fun c56 w56 w56a w56b w56c => ?_)
          refine l_if_eq rfl rfl (by unfold rg; omega) (fun w57 => ?_) (fun w58 => ?_)
          · exact Rl_weak (C202 (v4) (v5) (by omega) (by omega) (by omega)) (And.intro rfl (And.intro rfl (And.intro rfl (And.intro rfl (And.intro rfl (True.intro))))))
          · refine l_aload_n rfl rfl ?_
            refine l_gfr rfl rfl rfl rfl rfl (hH.r 1 1 3 rfl) ?_
            refine l_iload rfl rfl ?_
            refine l_iconst rfl ?_
            refine l_idivP rfl (by omega) (by omega) (by unfold rg; omega) (by unfold rg; omega) ?_
            refine l_iaload (n := 200) rfl rfl (by omega) (by omega) (by unfold rg; omega) ?_
            have w60 : 0 ≤ (Xi S 3 (((v5 / 3)).toNat)) ∧ (Xi S 3 (((v5 / 3)).toNat)) ≤ 14 := hH.c _ _
            refine l_iload_n rfl rfl ?_
            refine l_icmp_ne rfl rfl (by unfold rg; omega) (by unfold rg; omega) (fun w61 => ?_) (fun w62 => ?_)
            · exact Rl_weak (C202 (v4) (v5) (by omega) (by omega) (by omega)) (And.intro rfl (And.intro rfl (And.intro rfl (And.intro rfl (And.intro rfl (True.intro))))))
            · refine l_aload_n rfl rfl ?_
              refine l_gfr rfl rfl rfl rfl rfl (hH.r 1 2 4 rfl) ?_
              refine l_iload rfl rfl ?_
              refine l_iconst rfl ?_
              refine l_idivP rfl (by omega) (by omega) (by unfold rg; omega) (by unfold rg; omega) ?_
              refine l_iaload (n := 200) rfl rfl (by omega) (by omega) (by unfold rg; omega) ?_
              have w64 : 0 ≤ (Xi S 4 (((v5 / 3)).toNat)) ∧ (Xi S 4 (((v5 / 3)).toNat)) ≤ 63 := hH.c _ _
              refine l_iload_n rfl rfl ?_
              refine l_icmp_eq rfl rfl (by unfold rg; omega) (by unfold rg; omega) (fun w65 => ?_) (fun w66 => ?_)
              · refine l_iload rfl rfl ?_
                refine l_iconst rfl ?_
                refine l_iremP rfl (by omega) (by omega) (by unfold rg; omega) (by unfold rg; omega) ?_
                refine l_if_ne rfl rfl (by unfold rg; omega) (fun w68 => ?_) (fun w69 => ?_)
                · refine l_iconst rfl ?_
                  refine l_istore rfl rfl rfl ?_
                  refine l_iload rfl rfl ?_
                  refine l_if_ne rfl rfl (by unfold rg; omega) (fun w70 => absurd w70 (by omega)) (fun w71 => ?_)
                  · refine l_iload rfl rfl ?_
                    refine l_if_ne rfl rfl (by unfold rg; omega) (fun w72 => ?_) (fun w73 => ?_)
                    · exact Rl_weak (C94 (v4) (v5) ((Xj S 2 ((v5).toNat))) (0) (by omega) (by omega) (by omega) (by omega) (by omega) (by omega) (by omega) (by omega)) (And.intro rfl (And.intro rfl (And.intro rfl (And.intro rfl (And.intro rfl (And.intro rfl (And.intro rfl (True.intro))))))))
                    · refine l_bipush rfl rfl ?_
                      refine l_ireturn rfl rfl ?_
                      exact ⟨rfl, _, rfl, ⟨by omega, by omega⟩⟩
                · refine l_iconst rfl ?_
                  refine l_goto rfl rfl ?_
                  refine l_istore rfl rfl rfl ?_
                  refine l_iload rfl rfl ?_
                  refine l_if_ne rfl rfl (by unfold rg; omega) (fun w74 => ?_) (fun w75 => absurd w75 (by omega))
                  · exact Rl_weak (C94 (v4) (v5) ((Xj S 2 ((v5).toNat))) (1) (by omega) (by omega) (by omega) (by omega) (by omega) (by omega) (by omega) (by omega)) (And.intro rfl (And.intro rfl (And.intro rfl (And.intro rfl (And.intro rfl (And.intro rfl (And.intro rfl (True.intro))))))))
              · refine l_goto rfl rfl ?_
                exact Rl_weak (C202 (v4) (v5) (by omega) (by omega) (by omega)) (And.intro rfl (And.intro rfl (And.intro rfl (And.intro rfl (And.intro rfl (True.intro))))))
  refine l_iload_n rfl rfl ?_
  refine l_istore rfl rfl rfl ?_
  refine l_iconst rfl ?_
  refine l_istore rfl rfl rfl ?_
  exact Rl_weak (C6 _ (k) (0) (by omega) (by omega) rfl) (And.intro rfl (And.intro rfl (And.intro rfl (And.intro rfl (And.intro rfl (True.intro))))))
def md_tu_writeName : List rec := [(900, 901, 4, 5), (901, 902, 0, 100000)]
abbrev Q_tu_writeName (S : sS) (s : Int) (w : Int) : pst := fun r S1 => HI S1 ∧ FR md_tu_writeName S S1 ∧ (r = none)
set_option maxRecDepth 100000 in
theorem t_tu_writeName {S : sS} (hH : HI S) (s : Int) (w : Int) (hs : -2147483648 ≤ s ∧ s ≤ 2147483647) (hw : -2147483648 ≤ w ∧ w ≤ 2147483647) (d : Nat) : Mt lay0 (d + 2) m_tu_writeName [.ref 900, iv s, iv w] S (Q_tu_writeName S s w) := by
  refine Mt_R rfl rfl ?_
  have hF : FR md_tu_writeName S S := FR.rf
  have C14 : ∀ (n14 : Nat) (T1 : sS) (_ : HI T1) (_ : FR md_tu_writeName S T1) (v3 : Int) (v4 : Int), (0 ≤ v3 ∧ v3 ≤ 42) → (-2147483648 ≤ v4 ∧ v4 ≤ 2147483647) → n14 = (43 - v3).toNat → Rl lay0 (d + 1) m_tu_writeName 14 [(0, .ref 900), (1, iv s), (2, iv w), (3, iv v3), (4, iv v4)] [] T1 (Q_tu_writeName S s w) := by
    intro n14
    induction n14 using Nat.strongRecOn with
    | ind n14 ih14 =>
      intro T1 hHT1 hFT1 v3 v4 w1 w2 hm14
      refine l_iload rfl rfl ?_
      refine l_iconst rfl ?_
      refine l_icmp_eq rfl rfl (by unfold rg; omega) (by unfold rg; omega) (fun w3 => ?_) (fun w4 => ?_)
      · refine l_return rfl rfl ?_
        exact ⟨hHT1, hFT1, rfl⟩
      · refine l_iload_n rfl rfl ?_
        refine l_bipush rfl rfl ?_
        refine l_icmp_ge rfl rfl (by unfold rg; omega) (by unfold rg; omega) (fun w5 => ?_) (fun w6 => ?_)
        · refine l_return rfl rfl ?_
          exact ⟨hHT1, hFT1, rfl⟩
        · refine l_aload_n rfl rfl ?_
          refine l_iload rfl rfl ?_
          refine l_callV rfl rfl rfl (t_tu_write hHT1 v4 ⟨by omega, by omega⟩ _) ?_
          rintro _ T2 ⟨hHT2, w8, rfl⟩
          have hFT2 : FR md_tu_writeName S T2 := FR.tr hFT1 w8 rfl
          show Rl _ _ _ _ _ [] _ _
          refine l_iinc rfl rfl rfl rfl ?_
          refine l_aload_n rfl rfl ?_
          refine l_gfr rfl rfl rfl rfl rfl (hHT2.r 900 0 1 rfl) ?_
          refine l_iload_n rfl rfl ?_
          refine l_iload_n rfl rfl ?_
          refine l_iload_n rfl rfl ?_
          refine l_callV rfl rfl rfl (t_vo_nameByte hHT2 s w (v3 + 1) ⟨by omega, by omega⟩ ⟨by omega, by omega⟩ ⟨by omega, by omega⟩ _) ?_
          rintro _ _ ⟨rfl, z9, rfl, w9⟩
          show Rl _ _ _ _ _ [iv z9] _ _
          refine l_istore rfl rfl rfl ?_
          refine l_goto rfl rfl ?_
          exact Rl_weak (ih14 _ (by omega) T2 hHT2 hFT2 ((v3 + 1)) (z9) (by omega) (by omega) rfl) (And.intro rfl (And.intro rfl (And.intro rfl (And.intro rfl (And.intro rfl (True.intro))))))
  refine l_iconst rfl ?_
  refine l_istore_n rfl rfl rfl ?_
  refine l_aload_n rfl rfl ?_
  refine l_gfr rfl rfl rfl rfl rfl (hH.r 900 0 1 rfl) ?_
  refine l_iload_n rfl rfl ?_
  refine l_iload_n rfl rfl ?_
  refine l_iload_n rfl rfl ?_
  refine l_callV rfl rfl rfl (t_vo_nameByte hH s w 0 ⟨by omega, by omega⟩ ⟨by omega, by omega⟩ ⟨by omega, by omega⟩ _) ?_
  rintro _ _ ⟨rfl, z10, rfl, w10⟩
  show Rl _ _ _ _ _ [iv z10] _ _
  refine l_istore rfl rfl rfl ?_
  exact Rl_weak (C14 _ S hH hF (0) (z10) (by omega) (by omega) rfl) (And.intro rfl (And.intro rfl (And.intro rfl (And.intro rfl (And.intro rfl (True.intro))))))
def md_tu_writeInsert : List rec := [(900, 901, 4, 5), (901, 902, 0, 100000)]
abbrev Q_tu_writeInsert (S : sS) (o : Int) (p : Int) : pst := fun r S1 => HI S1 ∧ FR md_tu_writeInsert S S1 ∧ (r = none)
set_option maxRecDepth 100000 in
theorem t_tu_writeInsert {S : sS} (hH : HI S) (o : Int) (p : Int) (ho : -2 ≤ o ∧ o ≤ 23) (hp : -1 ≤ p ∧ p ≤ 11) (hX : TX S) (ho : p ≠ -1 → 0 ≤ o) (d : Nat) : Mt lay0 (d + 3) m_tu_writeInsert [.ref 900, iv o, iv p] S (Q_tu_writeInsert S o p) := by
  refine Mt_R rfl rfl ?_
  have hF : FR md_tu_writeInsert S S := FR.rf
  refine l_iload_n rfl rfl ?_
  refine l_iconst rfl ?_
  refine l_icmp_ne rfl rfl (by unfold rg; omega) (by unfold rg; omega) (fun w1 => ?_) (fun w2 => ?_)
  · refine l_aload_n rfl rfl ?_
    refine l_gfr rfl rfl rfl rfl rfl (hH.r 900 1 20 rfl) ?_
    refine l_iload_n rfl rfl ?_
    refine l_iload_n rfl rfl ?_
    refine l_callV rfl rfl rfl (t_wo_valueOf hH o p ⟨by omega, by omega⟩ ⟨by omega, by omega⟩ _) ?_
    rintro _ _ ⟨rfl, z4, rfl, w4, w3⟩
    show Rl _ _ _ _ _ [iv z4] _ _
    refine l_istore_n rfl rfl rfl ?_
    refine l_aload_n rfl rfl ?_
    refine l_gfr rfl rfl rfl rfl rfl (hH.r 900 0 1 rfl) ?_
    refine l_gfr rfl rfl rfl rfl rfl (hH.r 1 8 9 rfl) ?_
    refine l_iload_n rfl rfl ?_
    refine l_iaload (n := 12) rfl rfl (by omega) (by omega) (by unfold rg; omega) ?_
    have w5 : 0 ≤ (Xi S 9 ((p).toNat)) ∧ (Xi S 9 ((p).toNat)) ≤ 7 := hH.c _ _
    refine l_istore rfl rfl rfl ?_
    refine l_iload rfl rfl ?_
    refine l_iconst rfl ?_
    refine l_icmp_ne rfl rfl (by unfold rg; omega) (by unfold rg; omega) (fun w6 => ?_) (fun w7 => ?_)
    · refine l_iload rfl rfl ?_
      refine l_if_ne rfl rfl (by unfold rg; omega) (fun w8 => ?_) (fun w9 => ?_)
      · refine l_iload_n rfl rfl ?_
        refine l_iconst rfl ?_
        refine l_icmp_eq rfl rfl (by unfold rg; omega) (by unfold rg; omega) (fun w10 => ?_) (fun w11 => ?_)
        · refine l_return rfl rfl ?_
          exact ⟨hH, hF, rfl⟩
        · refine l_aload_n rfl rfl ?_
          refine l_iconst rfl ?_
          refine l_iload_n rfl rfl ?_
          refine l_callV rfl rfl rfl (t_tu_writeName hH 4 z4 ⟨by omega, by omega⟩ ⟨by omega, by omega⟩ _) ?_
          rintro _ T1 ⟨hHT1, w13, rfl⟩
          have hFT1 : FR md_tu_writeInsert S T1 := FR.tr hF w13 rfl
          show Rl _ _ _ _ _ [] _ _
          refine l_return rfl rfl ?_
          exact ⟨hHT1, hFT1, rfl⟩
      · refine l_aload_n rfl rfl ?_
        refine l_iload_n rfl rfl ?_
        refine l_callV rfl rfl rfl (t_tu_writeNumber hH z4 ⟨by omega, by omega⟩ _) ?_
        rintro _ T2 ⟨hHT2, w15, rfl⟩
        have hFT2 : FR md_tu_writeInsert S T2 := FR.tr hF w15 rfl
        show Rl _ _ _ _ _ [] _ _
        refine l_goto rfl rfl ?_
        refine l_return rfl rfl ?_
        exact ⟨hHT2, hFT2, rfl⟩
    · refine l_aload_n rfl rfl ?_
      refine l_iload_n rfl rfl ?_
      refine l_aload_n rfl rfl ?_
      refine l_gfr rfl rfl rfl rfl rfl (hH.r 900 1 20 rfl) ?_
      refine l_iload_n rfl rfl ?_
      refine l_iload_n rfl rfl ?_
      refine l_callV rfl rfl rfl (t_wo_lengthOf hH o p ⟨by omega, by omega⟩ ⟨by omega, by omega⟩ _) ?_
      rintro _ _ ⟨rfl, z17, rfl, w17, w16⟩
      show Rl _ _ _ _ _ [iv z17, iv z4, .ref 900] _ _
      refine l_callV rfl rfl rfl (t_tu_writeText hH z4 z17 ⟨by omega, by omega⟩ ⟨by omega, by omega⟩ (TX_v hX hH (by assumption) (by assumption) (by omega) (by omega) (by omega)) _) ?_
      rintro _ T3 ⟨hHT3, w19, rfl⟩
      have hFT3 : FR md_tu_writeInsert S T3 := FR.tr hF w19 rfl
      show Rl _ _ _ _ _ [] _ _
      refine l_goto rfl rfl ?_
      refine l_return rfl rfl ?_
      exact ⟨hHT3, hFT3, rfl⟩
  · refine l_aload_n rfl rfl ?_
    refine l_iconst rfl ?_
    refine l_iload_n rfl rfl ?_
    refine l_callV rfl rfl rfl (t_tu_writeName hH 2 o ⟨by omega, by omega⟩ ⟨by omega, by omega⟩ _) ?_
    rintro _ T4 ⟨hHT4, w21, rfl⟩
    have hFT4 : FR md_tu_writeInsert S T4 := FR.tr hF w21 rfl
    show Rl _ _ _ _ _ [] _ _
    refine l_return rfl rfl ?_
    exact ⟨hHT4, hFT4, rfl⟩
def md_tu_sayText : List rec := [(900, 901, 4, 5), (901, 902, 0, 100000)]
abbrev Q_tu_sayText (S : sS) (cl : Nat) (noun : Int) : pst := fun r S1 => HI S1 ∧ FR md_tu_sayText S S1 ∧ (r = none ∧ (TX S1))
set_option maxRecDepth 100000 in
theorem t_tu_sayText {S : sS} (hH : HI S) (cl : Nat) (noun : Int) (hcl : cl < 600) (hnoun : -1 ≤ noun ∧ noun ≤ 23) (hk : CLok S (0 ≤ noun) cl) (hf : Xi S (276 + cl) 0 = 7) (hX : TX S) (d : Nat) : Mt lay0 (d + 4) m_tu_sayText [.ref 900, .ref (276 + cl), iv noun] S (Q_tu_sayText S cl noun) := by
  refine Mt_R rfl rfl ?_
  have hF : FR md_tu_sayText S S := FR.rf
  have hx := (hk.2.2.2.2.2.1 hf).1
  have hI := (hk.2.2.2.2.2.1 hf).2
  have hxb : 0 < Xi S (276 + cl) 5 → 0 ≤ Xi S (276 + cl) 4 ∧ Xi S (276 + cl) 4 + Xi S (276 + cl) 5 ≤ 5000 := hx.b
  have h3r := clc3 hH hcl
  have C11 : ∀ (n11 : Nat) (T1 : sS) (_ : HI T1) (_ : FR md_tu_sayText S T1) (v3 : Int) (v4 : Int) (v5 : Int), (-1 ≤ v3 ∧ v3 ≤ 7000) → (0 ≤ v4 ∧ v4 ≤ 1) → (0 ≤ v5 ∧ v5 ≤ 5000) → (v3 = Xi S (276 + cl) 3 + nbr S (txr S) (Xi S (276 + cl) 4) v5.toNat) → (v5 ≤ 0 ∨ v5 ≤ Xi S (276 + cl) 5) → n11 = (5001 - v5).toNat → Rl lay0 (d + 3) m_tu_sayText 11 [(0, .ref 900), (1, .ref (276 + cl)), (2, iv noun), (3, iv v3), (4, iv v4), (5, iv v5)] [] T1 (Q_tu_sayText S cl noun) := by
    intro n11
    induction n11 using Nat.strongRecOn with
    | ind n11 ih11 =>
      intro T1 hHT1 hFT1 v3 v4 v5 w1 w2 w3 hnx w4 hm11
      have w5 : Xi T1 246 8 = Xi S 246 8 := hFT1.x _ _ rfl
      have C101 : ∀  (T2 : sS) (_ : HI T2) (_ : FR md_tu_sayText S T2) (v3 : Int) (v4 : Int) (v5 : Int), (-1 ≤ v3 ∧ v3 ≤ 7000) → (0 ≤ v4 ∧ v4 ≤ 1) → (0 ≤ v5 ∧ v5 ≤ 5000) → (v3 = Xi S (276 + cl) 3 + nbr S (txr S) (Xi S (276 + cl) 4) (v5 + 1).toNat) → (v5 < Xi S (276 + cl) 5) → ((5001 - v5).toNat ≤ n11) → Rl lay0 (d + 3) m_tu_sayText 101 [(0, .ref 900), (1, .ref (276 + cl)), (2, iv noun), (3, iv v3), (4, iv v4), (5, iv v5)] [] T2 (Q_tu_sayText S cl noun) := by
        intro T2 hHT2 hFT2 v3 v4 v5 w6 w7 w8 hnx1 w9 w10
        have w11 : Xi T2 246 8 = Xi S 246 8 := hFT2.x _ _ rfl
        refine l_iinc rfl rfl rfl rfl ?_
        refine l_goto rfl rfl ?_
        exact Rl_weak (ih11 _ (by omega) T2 hHT2 hFT2 (v3) (v4) ((v5 + 1)) (by omega) (by omega) (by omega) (by first | exact hnx1 | exact (show _ = _ + nbr S _ _ 0 by unfold nbr; omega) | (have e := nbr_y (S := S) (t := txr S) (v := Xi S (276 + cl) 4) (i := v5) (by omega) (by omega); omega) | (have e := nbr_n (S := S) (t := txr S) (v := Xi S (276 + cl) 4) (i := v5) (by omega) (by omega); omega)) (by omega) rfl) (And.intro rfl (And.intro rfl (And.intro rfl (And.intro rfl (And.intro rfl (And.intro rfl (True.intro)))))))
      refine l_iload rfl rfl ?_
      have hnb := (nbr_le (S := S) (t := txr S) (v := Xi S (276 + cl) 4) v5.toNat v5.toNat (Nat.le_refl _)).2
      refine l_aload_n rfl rfl ?_
      refine l_gfi rfl rfl rfl (layCl (by omega)) rfl ?_
      have w12 : -2147483648 ≤ (Xi T1 (276 + cl) 5) ∧ (Xi T1 (276 + cl) 5) ≤ 2147483647 := Xi_rgI
      have hl5 : Xi T1 (276 + cl) 5 = Xi S (276 + cl) 5 := FR_cl hFT1 rfl hcl
      refine l_icmp_ge rfl rfl (by unfold rg; omega) (by unfold rg; omega) (fun w13 => ?_) (fun w14 => ?_)
      · refine l_aload_n rfl rfl ?_
        refine l_bipush rfl rfl ?_
        refine l_callV rfl rfl rfl (t_tu_write hHT1 10 ⟨by omega, by omega⟩ _) ?_
        rintro _ T3 ⟨hHT3, w16, rfl⟩
        have hFT3 : FR md_tu_sayText S T3 := FR.tr hFT1 w16 rfl
        show Rl _ _ _ _ _ [] _ _
        refine l_return rfl rfl ?_
        exact ⟨hHT3, hFT3, rfl, (TX_FR hFT3 rfl hX)⟩
      · refine l_aload_n rfl rfl ?_
        refine l_gfr rfl rfl rfl rfl rfl (hHT1.r 900 1 20 rfl) ?_
        have w17 := txe (S := T1) (TXT_eq (hFT1 20 1 rfl).2.2 hx) (by omega)
        have w17b : tp (txr T1) := w17.2
        refine l_gfr rfl rfl rfl rfl rfl w17.1 ?_
        refine l_aload_n rfl rfl ?_
        refine l_gfi rfl rfl rfl (layCl (by omega)) rfl ?_
        have w18 : -2147483648 ≤ (Xi T1 (276 + cl) 4) ∧ (Xi T1 (276 + cl) 4) ≤ 2147483647 := Xi_rgI
        have hl4 : Xi T1 (276 + cl) 4 = Xi S (276 + cl) 4 := FR_cl hFT1 rfl hcl
        refine l_iload rfl rfl ?_
        refine l_iadd rfl ?_
        refine l_baload (n := 5000) rfl (tp_sv (by assumption)) (lay_tp (by assumption)) (by decide) (by omega) (by omega) (by unfold rg; omega) ?_
        have w19 : -128 ≤ (Xi T1 (txr T1) ((((Xi T1 (276 + cl) 4) + v5)).toNat)) ∧ (Xi T1 (txr T1) ((((Xi T1 (276 + cl) 4) + v5)).toNat)) ≤ 127 := tpc hHT1 (by assumption)
        have hbt : Xi T1 (txr T1) ((Xi T1 (276 + cl) 4) + v5).toNat = Xi S (txr S) (Xi S (276 + cl) 4 + v5).toNat := by rw [← hl4]; exact txb hFT1 rfl rfl (by assumption)
        refine l_istore rfl rfl rfl ?_
        refine l_iload rfl rfl ?_
        refine l_bipush rfl rfl ?_
        refine l_icmp_ne rfl rfl (by unfold rg; omega) (by unfold rg; omega) (fun w20 => ?_) (fun w21 => ?_)
        · refine l_iload rfl rfl ?_
          refine l_bipush rfl rfl ?_
          refine l_icmp_ne rfl rfl (by unfold rg; omega) (by unfold rg; omega) (fun w22 => ?_) (fun w23 => ?_)
          · refine l_iload rfl rfl ?_
            refine l_if_ne rfl rfl (by unfold rg; omega) (fun w24 => ?_) (fun w25 => ?_)
            · exact Rl_weak (C101 T1 hHT1 hFT1 (v3) (v4) (v5) (by omega) (by omega) (by omega) (by first | (have e := nbr_y (S := S) (t := txr S) (v := Xi S (276 + cl) 4) (i := v5) (by omega) (by omega); omega) | (have e := nbr_n (S := S) (t := txr S) (v := Xi S (276 + cl) 4) (i := v5) (by omega) (by omega); omega)) (by omega) (by omega)) (And.intro rfl (And.intro rfl (And.intro rfl (And.intro rfl (And.intro rfl (And.intro rfl (True.intro)))))))
            · refine l_aload_n rfl rfl ?_
              refine l_iload rfl rfl ?_
              refine l_callV rfl rfl rfl (t_tu_write hHT1 (Xi T1 (txr T1) ((((Xi T1 (276 + cl) 4) + v5)).toNat)) ⟨by omega, by omega⟩ _) ?_
              rintro _ T4 ⟨hHT4, w27, rfl⟩
              have hFT4 : FR md_tu_sayText S T4 := FR.tr hFT1 w27 rfl
              show Rl _ _ _ _ _ [] _ _
              exact Rl_weak (C101 T4 hHT4 hFT4 (v3) (v4) (v5) (by omega) (by omega) (by omega) (by first | (have e := nbr_y (S := S) (t := txr S) (v := Xi S (276 + cl) 4) (i := v5) (by omega) (by omega); omega) | (have e := nbr_n (S := S) (t := txr S) (v := Xi S (276 + cl) 4) (i := v5) (by omega) (by omega); omega)) (by omega) (by omega)) (And.intro rfl (And.intro rfl (And.intro rfl (And.intro rfl (And.intro rfl (And.intro rfl (True.intro)))))))
          · refine l_iconst rfl ?_
            refine l_istore rfl rfl rfl ?_
            refine l_goto rfl rfl ?_
            exact Rl_weak (C101 T1 hHT1 hFT1 (v3) (0) (v5) (by omega) (by omega) (by omega) (by first | (have e := nbr_y (S := S) (t := txr S) (v := Xi S (276 + cl) 4) (i := v5) (by omega) (by omega); omega) | (have e := nbr_n (S := S) (t := txr S) (v := Xi S (276 + cl) 4) (i := v5) (by omega) (by omega); omega)) (by omega) (by omega)) (And.intro rfl (And.intro rfl (And.intro rfl (And.intro rfl (And.intro rfl (And.intro rfl (True.intro)))))))
        · refine l_aload_n rfl rfl ?_
          refine l_aload_n rfl rfl ?_
          refine l_gfr rfl rfl rfl rfl rfl (hHT1.r 900 2 246 rfl) ?_
          refine l_iload_n rfl rfl ?_
          have w28 : 0 ≤ Xi T1 246 8 ∧ Xi T1 246 8 ≤ 1666 := hHT1.c _ _
          refine l_callV rfl rfl rfl (t_bo_thingOfInsert hHT1 v3 ⟨by omega, by omega⟩ _) ?_
          rintro _ _ ⟨rfl, z31, rfl, w31, w29, w30⟩
          show Rl _ _ _ _ _ [iv z31, .ref 900] _ _
          refine l_iload_n rfl rfl ?_
          refine l_callS rfl rfl (by decide) rfl (t_tu_whoIs hHT1 z31 noun ⟨by omega, by omega⟩ ⟨by omega, by omega⟩ _) ?_
          rintro _ _ ⟨rfl, z33, rfl, w33, w32⟩
          show Rl _ _ _ _ _ [iv z33, .ref 900] _ _
          refine l_aload_n rfl rfl ?_
          refine l_gfr rfl rfl rfl rfl rfl (hHT1.r 900 2 246 rfl) ?_
          refine l_iload_n rfl rfl ?_
          have w34 : 0 ≤ Xi T1 246 8 ∧ Xi T1 246 8 ≤ 1666 := hHT1.c _ _
          refine l_callV rfl rfl rfl (t_bo_propertyOfInsert hHT1 v3 ⟨by omega, by omega⟩ _) ?_
          rintro _ _ ⟨rfl, z37, rfl, w37, w35, w36⟩
          show Rl _ _ _ _ _ [iv z37, iv z33, .ref 900] _ _
          have hho := ins_ho (i := v5) hFT1 rfl rfl hI hnx (by omega) (by omega) (by omega) (by assumption) (by assumption) (by assumption) (by assumption)
          refine l_callV rfl rfl rfl (t_tu_writeInsert hHT1 z33 z37 ⟨by omega, by omega⟩ ⟨by omega, by omega⟩ (by first | assumption | exact TX_FR hFT1 rfl hX) (by first | assumption) _) ?_
          rintro _ T5 ⟨hHT5, w39, rfl⟩
          have hFT5 : FR md_tu_sayText S T5 := FR.tr hFT1 w39 rfl
          show Rl _ _ _ _ _ [] _ _
          refine l_iinc rfl rfl rfl rfl ?_
          refine l_iconst rfl ?_
          refine l_istore rfl rfl rfl ?_
          refine l_goto rfl rfl ?_
          exact Rl_weak (C101 T5 hHT5 hFT5 ((v3 + 1)) (1) (v5) (by omega) (by omega) (by omega) (by first | (have e := nbr_y (S := S) (t := txr S) (v := Xi S (276 + cl) 4) (i := v5) (by omega) (by omega); omega) | (have e := nbr_n (S := S) (t := txr S) (v := Xi S (276 + cl) 4) (i := v5) (by omega) (by omega); omega)) (by omega) (by omega)) (And.intro rfl (And.intro rfl (And.intro rfl (And.intro rfl (And.intro rfl (And.intro rfl (True.intro)))))))
  refine l_aload_n rfl rfl ?_
  refine l_gfi rfl rfl rfl (layCl (by omega)) rfl ?_
  have w40 : -1 ≤ (Xi S (276 + cl) 3) ∧ (Xi S (276 + cl) 3) ≤ 1666 := clc3 hH (by omega)
  refine l_istore_n rfl rfl rfl ?_
  refine l_iconst rfl ?_
  refine l_istore rfl rfl rfl ?_
  refine l_iconst rfl ?_
  refine l_istore rfl rfl rfl ?_
  exact Rl_weak (C11 _ S hH hF ((Xi S (276 + cl) 3)) (0) (0) (by omega) (by omega) (by omega) (by first | exact hnx1 | exact (show _ = _ + nbr S _ _ 0 by unfold nbr; omega) | (have e := nbr_y (S := S) (t := txr S) (v := Xi S (276 + cl) 4) (i := v5) (by omega) (by omega); omega) | (have e := nbr_n (S := S) (t := txr S) (v := Xi S (276 + cl) 4) (i := v5) (by omega) (by omega); omega)) (by omega) rfl) (And.intro rfl (And.intro rfl (And.intro rfl (And.intro rfl (And.intro rfl (And.intro rfl (True.intro)))))))
def md_tu_succeeds : List rec := [(22, 23, 0, 100000), (23, 24, 0, 100000), (900, 901, 4, 5), (901, 902, 0, 100000)]
abbrev Q_tu_succeeds (S : sS) (action : Int) (noun : Int) : pst := fun r S1 => HI S1 ∧ FR md_tu_succeeds S S1 ∧ (∃ z : Int, r = some (iv z) ∧ (0 ≤ z ∧ z ≤ 1) ∧ (TX S1))
set_option maxRecDepth 100000 in
theorem t_tu_succeeds {S : sS} (hH : HI S) (action : Int) (noun : Int) (haction : 0 ≤ action ∧ action ≤ 11) (hnoun : -1 ≤ noun ∧ noun ≤ 23) (hX : TX S) (hA : AK S) (hn : Xi S 19 action.toNat ≠ -1 → 0 ≤ noun) (hg : Xi S 19 action.toNat = -2 → noun ≤ 5) (d : Nat) : Mt lay0 (d + 3) m_tu_succeeds [.ref 900, iv action, iv noun] S (Q_tu_succeeds S action noun) := by
  refine Mt_R rfl rfl ?_
  have hF : FR md_tu_succeeds S S := FR.rf
  have hA0 := ak_all hA hn hg
  refine l_iload_n rfl rfl ?_
  refine l_tsw rfl rfl rfl rfl (by unfold rg; omega) (fun w1 => ?_) (fun ii tt hii w1 => ?_)
  · refine l_iconst rfl ?_
    refine l_ireturn rfl rfl ?_
    exact ⟨hH, hF, _, rfl, ⟨by omega, by omega⟩, (by first | assumption | exact TX_FR hF rfl hX)⟩
  · match ii, hii with
    | 0, hii =>
      cases hii
      have w2 : action = 1 := by simpa using w1
      refine l_aload_n rfl rfl ?_
      refine l_iload_n rfl rfl ?_
      refine l_callV rfl rfl rfl (t_tu_take hH noun ⟨by omega, by omega⟩ _) ?_
      rintro _ T1 ⟨hHT1, w4, z3, rfl, w3⟩
      have hFT1 : FR md_tu_succeeds S T1 := FR.tr hF w4 rfl
      show Rl _ _ _ _ _ [iv z3] _ _
      refine l_ireturn rfl (retI_z (by omega)) ?_
      exact ⟨hHT1, hFT1, _, rfl, ⟨by omega, by omega⟩, (by first | assumption | exact TX_FR hFT1 rfl hX)⟩
    | 1, hii =>
      cases hii
      have w5 : action = 2 := by simpa using w1
      refine l_aload_n rfl rfl ?_
      refine l_iload_n rfl rfl ?_
      refine l_callV rfl rfl rfl (t_tu_playerHas hH noun ⟨by omega, by omega⟩ _) ?_
      rintro _ _ ⟨rfl, z6, rfl, w6⟩
      show Rl _ _ _ _ _ [iv z6] _ _
      refine l_if_ne rfl rfl (by unfold rg; omega) (fun w7 => ?_) (fun w8 => ?_)
      · refine l_aload_n rfl rfl ?_
        refine l_gfr rfl rfl rfl rfl rfl (hH.r 900 1 20 rfl) ?_
        refine l_iload_n rfl rfl ?_
        refine l_aload_n rfl rfl ?_
        refine l_gfr rfl rfl rfl rfl rfl (hH.r 900 1 20 rfl) ?_
        refine l_gfr rfl rfl rfl rfl rfl (hH.r 20 3 22 rfl) ?_
        refine l_iconst rfl ?_
        refine l_iaload (n := 24) rfl rfl (by omega) (by omega) (by unfold rg; omega) ?_
        have w9 : 0 ≤ (Xi S 22 ((0 : Int).toNat)) ∧ (Xi S 22 ((0 : Int).toNat)) ≤ 5 := hH.c _ _
        have w10 : (Xi S 22 ((0 : Int).toNat)) = Xi S 22 0 := rfl
        refine l_aload_n rfl rfl ?_
        refine l_gfr rfl rfl rfl rfl rfl (hH.r 900 1 20 rfl) ?_
        refine l_gfr rfl rfl rfl rfl rfl (hH.r 20 4 23 rfl) ?_
        refine l_iconst rfl ?_
        refine l_iaload (n := 24) rfl rfl (by omega) (by omega) (by unfold rg; omega) ?_
        have w11 : -1 ≤ (Xi S 23 ((0 : Int).toNat)) ∧ (Xi S 23 ((0 : Int).toNat)) ≤ 23 := hH.c _ _
        have w12 : (Xi S 23 ((0 : Int).toNat)) = Xi S 23 0 := rfl
        refine l_callV rfl rfl rfl (t_wo_place hH noun (Xi S 22 ((0 : Int).toNat)) (Xi S 23 ((0 : Int).toNat)) ⟨by omega, by omega⟩ ⟨by omega, by omega⟩ ⟨by omega, by omega⟩ _) ?_
        rintro _ T2 ⟨hHT2, w14, rfl⟩
        have hFT2 : FR md_tu_succeeds S T2 := FR.tr hF w14 rfl
        show Rl _ _ _ _ _ [] _ _
        refine l_iconst rfl ?_
        refine l_ireturn rfl rfl ?_
        exact ⟨hHT2, hFT2, _, rfl, ⟨by omega, by omega⟩, (by first | assumption | exact TX_FR hFT2 rfl hX)⟩
      · refine l_iconst rfl ?_
        refine l_ireturn rfl rfl ?_
        exact ⟨hH, hF, _, rfl, ⟨by omega, by omega⟩, (by first | assumption | exact TX_FR hF rfl hX)⟩
    | 2, hii =>
      cases hii
      have w15 : action = 3 := by simpa using w1
      refine l_aload_n rfl rfl ?_
      refine l_aload_n rfl rfl ?_
      refine l_gfr rfl rfl rfl rfl rfl (hH.r 900 1 20 rfl) ?_
      refine l_iload_n rfl rfl ?_
      refine l_iconst rfl ?_
      refine l_callV rfl rfl rfl (t_wo_valueOf hH noun 0 ⟨by omega, by omega⟩ ⟨by omega, by omega⟩ _) ?_
      rintro _ _ ⟨rfl, z17, rfl, w17, w16⟩
      show Rl _ _ _ _ _ [iv z17, .ref 900] _ _
      refine l_aload_n rfl rfl ?_
      refine l_gfr rfl rfl rfl rfl rfl (hH.r 900 1 20 rfl) ?_
      refine l_iload_n rfl rfl ?_
      refine l_iconst rfl ?_
      refine l_callV rfl rfl rfl (t_wo_lengthOf hH noun 0 ⟨by omega, by omega⟩ ⟨by omega, by omega⟩ _) ?_
      rintro _ _ ⟨rfl, z19, rfl, w19, w18⟩
      show Rl _ _ _ _ _ [iv z19, iv z17, .ref 900] _ _
      refine l_callV rfl rfl rfl (t_tu_writeText hH z17 z19 ⟨by omega, by omega⟩ ⟨by omega, by omega⟩ (txd hX hH (by assumption) (by assumption) (by omega) (by omega)) _) ?_
      rintro _ T3 ⟨hHT3, w21, rfl⟩
      have hFT3 : FR md_tu_succeeds S T3 := FR.tr hF w21 rfl
      show Rl _ _ _ _ _ [] _ _
      refine l_aload_n rfl rfl ?_
      refine l_bipush rfl rfl ?_
      refine l_callV rfl rfl rfl (t_tu_write hHT3 10 ⟨by omega, by omega⟩ _) ?_
      rintro _ T4 ⟨hHT4, w23, rfl⟩
      have hFT4 : FR md_tu_succeeds S T4 := FR.tr hFT3 w23 rfl
      show Rl _ _ _ _ _ [] _ _
      refine l_iconst rfl ?_
      refine l_ireturn rfl rfl ?_
      exact ⟨hHT4, hFT4, _, rfl, ⟨by omega, by omega⟩, (by first | assumption | exact TX_FR hFT4 rfl hX)⟩
    | 3, hii =>
      cases hii
      have w24 : action = 4 := by simpa using w1
      refine l_aload_n rfl rfl ?_
      refine l_iload_n rfl rfl ?_
      refine l_callV rfl rfl rfl (t_tu_go hH noun ⟨by omega, by omega⟩ _) ?_
      rintro _ T5 ⟨hHT5, w26, z25, rfl, w25⟩
      have hFT5 : FR md_tu_succeeds S T5 := FR.tr hF w26 rfl
      show Rl _ _ _ _ _ [iv z25] _ _
      refine l_ireturn rfl (retI_z (by omega)) ?_
      exact ⟨hHT5, hFT5, _, rfl, ⟨by omega, by omega⟩, (by first | assumption | exact TX_FR hFT5 rfl hX)⟩
    | n + 4, hii => exact absurd hii (by simp)
abbrev Q_tu_holds (S : sS) (cl : Nat) (self : Int) (depth : Int) : pst := fun r S1 => S = S1 ∧ (∃ z : Int, r = some (iv z) ∧ (0 ≤ z ∧ z ≤ 1))
abbrev Q_tu_adjectiveHolds (S : sS) (o : Int) (a : Int) (dp : Int) : pst := fun r S1 => S = S1 ∧ (∃ z : Int, r = some (iv z) ∧ (0 ≤ z ∧ z ≤ 1))
set_option maxRecDepth 100000 in
theorem u_tu_adjectiveHolds {S : sS} (hH : HI S) (o : Int) (a : Int) (dp : Int) (ho : 0 ≤ o ∧ o ≤ 23) (ha : 0 ≤ a ∧ a ≤ 23) (hdp : 0 ≤ dp ∧ dp ≤ 8) (ha2 : a < Xi S 5 3) (hD : DEF S) (hX : TX S) (d : Nat) (hrec : ∀ {S : sS} (_ : HI S) (cl : Nat) (self : Int) (depth : Int) (hcl : cl < 600) (hself : -1 ≤ self ∧ self ≤ 23) (hdepth : 0 ≤ depth ∧ depth ≤ 8) (hk : TSok S (0 ≤ self) cl) (hD : DEF S) (hX : TX S), (dp < 8 ∧ depth = dp + 1) → Mt lay0 (d + 8) m_tu_holds [.ref 900, .ref (276 + cl), iv self, iv depth] S (Q_tu_holds S cl self depth)) : Mt lay0 (d + 9) m_tu_adjectiveHolds [.ref 900, iv o, iv a, iv dp] S (Q_tu_adjectiveHolds S o a dp) := by
  refine Mt_R rfl rfl ?_
  have w1 : 0 ≤ Xi S 5 3 ∧ Xi S 5 3 ≤ 24 := hH.c _ _
  have hdb : Xi S 11 a.toNat = -1 → 0 ≤ Xi S 12 a.toNat ∧ Xi S 12 a.toNat + Xi S 13 a.toNat ≤ 600 := fun h => DEF_b hD (by omega) ha2 h
  have C62 : ∀ (n62 : Nat) (v4 : Int), (0 ≤ v4 ∧ v4 ≤ 6) → (Xi S 11 a.toNat = -1) → (dp < 8) → n62 = (7 - v4).toNat → Rl lay0 (d + 8) m_tu_adjectiveHolds 62 [(0, .ref 900), (1, iv o), (2, iv a), (3, iv dp), (4, iv v4)] [] S (Q_tu_adjectiveHolds S o a dp) := by
    intro n62
    induction n62 using Nat.strongRecOn with
    | ind n62 ih62 =>
      intro v4 w2 w3 w4 hm62
      refine l_iload rfl rfl ?_
      refine l_aload_n rfl rfl ?_
      refine l_gfr rfl rfl rfl rfl rfl (hH.r 900 0 1 rfl) ?_
      refine l_gfr rfl rfl rfl rfl rfl (hH.r 1 12 13 rfl) ?_
      refine l_iload_n rfl rfl ?_
      refine l_iaload (n := 24) rfl rfl (by omega) (by omega) (by unfold rg; omega) ?_
      have w5 : 0 ≤ (Xi S 13 ((a).toNat)) ∧ (Xi S 13 ((a).toNat)) ≤ 6 := hH.c _ _
      refine l_icmp_ge rfl rfl (by unfold rg; omega) (by unfold rg; omega) (fun w6 => ?_) (fun w7 => ?_)
      · refine l_iconst rfl ?_
        refine l_ireturn rfl rfl ?_
        exact ⟨rfl, _, rfl, ⟨by omega, by omega⟩⟩
      · refine l_aload_n rfl rfl ?_
        refine l_aload_n rfl rfl ?_
        refine l_gfr rfl rfl rfl rfl rfl (hH.r 900 2 246 rfl) ?_
        refine l_aload_n rfl rfl ?_
        refine l_gfr rfl rfl rfl rfl rfl (hH.r 900 0 1 rfl) ?_
        refine l_gfr rfl rfl rfl rfl rfl (hH.r 1 11 12 rfl) ?_
        refine l_iload_n rfl rfl ?_
        refine l_iaload (n := 24) rfl rfl (by omega) (by omega) (by unfold rg; omega) ?_
        have w8 : -2147483648 ≤ (Xi S 12 ((a).toNat)) ∧ (Xi S 12 ((a).toNat)) ≤ 2147483647 := Xi_rgI
        refine l_iload rfl rfl ?_
        refine l_iadd rfl ?_
        refine l_callV rfl rfl rfl (t_bo_clauseAt hH ((Xi S 12 ((a).toNat)) + v4) ⟨by omega, by omega⟩ _) ?_
        rintro _ _ ⟨rfl, z10, rfl, w10, w9⟩
        show Rl _ _ _ _ _ [.ref (276 + z10), .ref 900] _ _
        refine l_iload_n rfl rfl ?_
        refine l_iload_n rfl rfl ?_
        refine l_iconst rfl ?_
        refine l_iadd rfl ?_
        refine l_callV rfl rfl rfl (hrec hH z10 o (dp + 1) (by omega) ⟨by omega, by omega⟩ ⟨by omega, by omega⟩ (DEF_at (i := v4) hD (by omega) ha2 (by omega) (by omega) (by omega) (by omega) (by omega)) (by first | assumption | exact (by assumption : DEF S)) (by first | assumption | exact (by assumption : TX S)) (by omega)) ?_
        rintro _ _ ⟨rfl, z11, rfl, w11⟩
        show Rl _ _ _ _ _ [iv z11] _ _
        refine l_if_ne rfl rfl (by unfold rg; omega) (fun w12 => ?_) (fun w13 => ?_)
        · refine l_iinc rfl rfl rfl rfl ?_
          refine l_goto rfl rfl ?_
          exact Rl_weak (ih62 _ (by omega) ((v4 + 1)) (by omega) (by omega) (by omega) rfl) (And.intro rfl (And.intro rfl (And.intro rfl (And.intro rfl (And.intro rfl (True.intro))))))
        · refine l_iconst rfl ?_
          refine l_ireturn rfl rfl ?_
          exact ⟨rfl, _, rfl, ⟨by omega, by omega⟩⟩
  refine l_aload_n rfl rfl ?_
  refine l_gfr rfl rfl rfl rfl rfl (hH.r 900 0 1 rfl) ?_
  refine l_gfr rfl rfl rfl rfl rfl (hH.r 1 10 11 rfl) ?_
  refine l_iload_n rfl rfl ?_
  refine l_iaload (n := 24) rfl rfl (by omega) (by omega) (by unfold rg; omega) ?_
  have w14 : -1 ≤ (Xi S 11 ((a).toNat)) ∧ (Xi S 11 ((a).toNat)) ≤ 23 := hH.c _ _
  refine l_iconst rfl ?_
  refine l_icmp_eq rfl rfl (by unfold rg; omega) (by unfold rg; omega) (fun w15 => ?_) (fun w16 => ?_)
  · refine l_iload_n rfl rfl ?_
    refine l_bipush rfl rfl ?_
    refine l_icmp_ge rfl rfl (by unfold rg; omega) (by unfold rg; omega) (fun w17 => ?_) (fun w18 => ?_)
    · refine l_iconst rfl ?_
      refine l_ireturn rfl rfl ?_
      exact ⟨rfl, _, rfl, ⟨by omega, by omega⟩⟩
    · refine l_aload_n rfl rfl ?_
      refine l_gfr rfl rfl rfl rfl rfl (hH.r 900 0 1 rfl) ?_
      refine l_aload_n rfl rfl ?_
      refine l_gfr rfl rfl rfl rfl rfl (hH.r 900 1 20 rfl) ?_
      refine l_gfr rfl rfl rfl rfl rfl (hH.r 20 2 21 rfl) ?_
      refine l_iload_n rfl rfl ?_
      refine l_iaload (n := 24) rfl rfl (by omega) (by omega) (by unfold rg; omega) ?_
      have w19 : 0 ≤ (Xi S 21 ((o).toNat)) ∧ (Xi S 21 ((o).toNat)) ≤ 15 := hH.c _ _
      refine l_aload_n rfl rfl ?_
      refine l_gfr rfl rfl rfl rfl rfl (hH.r 900 0 1 rfl) ?_
      refine l_gfr rfl rfl rfl rfl rfl (hH.r 1 9 10 rfl) ?_
      refine l_iload_n rfl rfl ?_
      refine l_iaload (n := 24) rfl rfl (by omega) (by omega) (by unfold rg; omega) ?_
      have w20 : 0 ≤ (Xi S 10 ((a).toNat)) ∧ (Xi S 10 ((a).toNat)) ≤ 15 := hH.c _ _
      refine l_callV rfl rfl rfl (t_vo_isKind hH (Xi S 21 ((o).toNat)) (Xi S 10 ((a).toNat)) ⟨by omega, by omega⟩ ⟨by omega, by omega⟩ _) ?_
      rintro _ _ ⟨rfl, z22, rfl, w22, w21⟩
      show Rl _ _ _ _ _ [iv z22] _ _
      refine l_if_ne rfl rfl (by unfold rg; omega) (fun w23 => ?_) (fun w24 => ?_)
      · refine l_iconst rfl ?_
        refine l_istore rfl rfl rfl ?_
        exact Rl_weak (C62 _ (0) (by omega) (by omega) (by omega) rfl) (And.intro rfl (And.intro rfl (And.intro rfl (And.intro rfl (And.intro rfl (True.intro))))))
      · refine l_iconst rfl ?_
        refine l_ireturn rfl rfl ?_
        exact ⟨rfl, _, rfl, ⟨by omega, by omega⟩⟩
  · refine l_aload_n rfl rfl ?_
    refine l_gfr rfl rfl rfl rfl rfl (hH.r 900 1 20 rfl) ?_
    refine l_iload_n rfl rfl ?_
    refine l_iload_n rfl rfl ?_
    refine l_callV rfl rfl rfl (t_wo_hasAdjective hH o a ⟨by omega, by omega⟩ ⟨by omega, by omega⟩ _) ?_
    rintro _ _ ⟨rfl, z26, rfl, w26, w25⟩
    show Rl _ _ _ _ _ [iv z26] _ _
    refine l_ireturn rfl (retI_z (by omega)) ?_
    exact ⟨rfl, _, rfl, ⟨by omega, by omega⟩⟩
set_option maxRecDepth 100000 in
theorem u_tu_holds {S : sS} (hH : HI S) (cl : Nat) (self : Int) (depth : Int) (hcl : cl < 600) (hself : -1 ≤ self ∧ self ≤ 23) (hdepth : 0 ≤ depth ∧ depth ≤ 8) (hk : TSok S (0 ≤ self) cl) (hD : DEF S) (hX : TX S) (d : Nat) (hrec : ∀ {S : sS} (_ : HI S) (o : Int) (a : Int) (dp : Int) (ho : 0 ≤ o ∧ o ≤ 23) (ha : 0 ≤ a ∧ a ≤ 23) (hdp : 0 ≤ dp ∧ dp ≤ 8) (ha2 : a < Xi S 5 3) (hD : DEF S) (hX : TX S), (dp = depth) → Mt lay0 (d + 7) m_tu_adjectiveHolds [.ref 900, iv o, iv a, iv dp] S (Q_tu_adjectiveHolds S o a dp)) : Mt lay0 (d + 8) m_tu_holds [.ref 900, .ref (276 + cl), iv self, iv depth] S (Q_tu_holds S cl self depth) := by
  refine Mt_R rfl rfl ?_
  have hf6 := hk.2
  have hc3 : 0 ≤ Xi S 5 3 ∧ Xi S 5 3 ≤ 24 := hH.c _ _
  have C275 : ∀  (v6 : Int), (0 ≤ v6 ∧ v6 ≤ 1) → Rl lay0 (d + 7) m_tu_holds 275 [(1, .ref (276 + cl)), (6, iv v6)] [] S (Q_tu_holds S cl self depth) := by
    intro v6 w1
    refine l_iload rfl rfl ?_
    refine l_aload_n rfl rfl ?_
    refine l_gfi rfl rfl rfl (layCl (by omega)) rfl ?_
    have w2 : 0 ≤ (Xi S (276 + cl) 1) ∧ (Xi S (276 + cl) 1) ≤ 1 := clc1 hH (by omega)
    refine l_icmp_eq rfl rfl (by unfold rg; omega) (by unfold rg; omega) (fun w3 => ?_) (fun w4 => ?_)
    · refine l_iconst rfl ?_
      refine l_ireturn rfl rfl ?_
      exact ⟨rfl, _, rfl, ⟨by omega, by omega⟩⟩
    · refine l_iconst rfl ?_
      refine l_goto rfl rfl ?_
      refine l_ireturn rfl rfl ?_
      exact ⟨rfl, _, rfl, ⟨by omega, by omega⟩⟩
  refine l_aload_n rfl rfl ?_
  refine l_gfi rfl rfl rfl (layCl (by omega)) rfl ?_
  have w5 : -2 ≤ (Xi S (276 + cl) 2) ∧ (Xi S (276 + cl) 2) ≤ 23 := clc2 hH (by omega)
  refine l_iload_n rfl rfl ?_
  refine l_callS rfl rfl (by decide) rfl (t_tu_whoIs hH (Xi S (276 + cl) 2) self ⟨by omega, by omega⟩ ⟨by omega, by omega⟩ _) ?_
  rintro _ _ ⟨rfl, z7, rfl, w7, w6⟩
  show Rl _ _ _ _ _ [iv z7] _ _
  refine l_istore rfl rfl rfl ?_
  refine l_aload_n rfl rfl ?_
  refine l_gfi rfl rfl rfl (layCl (by omega)) rfl ?_
  have w8 : -2 ≤ (Xi S (276 + cl) 6) ∧ (Xi S (276 + cl) 6) ≤ 23 := clc6 hH (by omega)
  refine l_iload_n rfl rfl ?_
  refine l_callS rfl rfl (by decide) rfl (t_tu_whoIs hH (Xi S (276 + cl) 6) self ⟨by omega, by omega⟩ ⟨by omega, by omega⟩ _) ?_
  rintro _ _ ⟨rfl, z10, rfl, w10, w9⟩
  show Rl _ _ _ _ _ [iv z10] _ _
  refine l_istore rfl rfl rfl ?_
  refine l_aload_n rfl rfl ?_
  refine l_gfi rfl rfl rfl (layCl (by omega)) rfl ?_
  have w11 : 0 ≤ (Xi S (276 + cl) 0) ∧ (Xi S (276 + cl) 0) ≤ 11 := clc0 hH (by omega)
  refine l_tsw rfl rfl rfl rfl (by unfold rg; omega) (fun w12 => ?_) (fun ii tt hii w12 => ?_)
  · refine l_aload_n rfl rfl ?_
    have hk6 : (0 ≤ Xi S (276 + cl) 2 ∨ (Xi S (276 + cl) 2 = -2 ∧ 0 ≤ self)) ∧ (0 ≤ Xi S (276 + cl) 6 ∨ (Xi S (276 + cl) 6 = -2 ∧ 0 ≤ self)) ∧ 0 ≤ Xi S (276 + cl) 3 ∧ Xi S (276 + cl) 3 ≤ 5 := hk.1.2.2.2.2.1 (by omega)
    refine l_gfr rfl rfl rfl rfl rfl (hH.r 900 1 20 rfl) ?_
    refine l_aload_n rfl rfl ?_
    refine l_gfi rfl rfl rfl (layCl (by omega)) rfl ?_
    have w13 : -1 ≤ (Xi S (276 + cl) 3) ∧ (Xi S (276 + cl) 3) ≤ 1666 := clc3 hH (by omega)
    refine l_iload rfl rfl ?_
    refine l_iload rfl rfl ?_
    refine l_callV rfl rfl rfl (t_wo_isRelated hH (Xi S (276 + cl) 3) z7 z10 ⟨by omega, by omega⟩ ⟨by omega, by omega⟩ ⟨by omega, by omega⟩ _) ?_
    rintro _ _ ⟨rfl, z15, rfl, w15, w14⟩
    show Rl _ _ _ _ _ [iv z15] _ _
    refine l_istore rfl rfl rfl ?_
    exact Rl_weak (C275 (z15) (by omega)) (And.intro rfl (And.intro rfl (True.intro)))
  · match ii, hii with
    | 0, hii =>
      cases hii
      have w16 : (Xi S (276 + cl) 0) = 0 := by simpa using w12
      refine l_aload_n rfl rfl ?_
      have hk0 : (0 ≤ Xi S (276 + cl) 2 ∨ (Xi S (276 + cl) 2 = -2 ∧ 0 ≤ self)) ∧ 0 ≤ Xi S (276 + cl) 3 ∧ Xi S (276 + cl) 3 < Xi S 5 3 := hk.1.1 (by omega)
      refine l_iload rfl rfl ?_
      refine l_aload_n rfl rfl ?_
      refine l_gfi rfl rfl rfl (layCl (by omega)) rfl ?_
      have w17 : -1 ≤ (Xi S (276 + cl) 3) ∧ (Xi S (276 + cl) 3) ≤ 1666 := clc3 hH (by omega)
      refine l_iload_n rfl rfl ?_
      have w18 : 0 ≤ Xi S 5 3 ∧ Xi S 5 3 ≤ 24 := hH.c _ _
      refine l_callV rfl rfl rfl (hrec hH z7 (Xi S (276 + cl) 3) depth ⟨by omega, by omega⟩ ⟨by omega, by omega⟩ ⟨by omega, by omega⟩ (by first | assumption | omega) (by first | assumption | exact (by assumption : DEF S)) (by first | assumption | exact (by assumption : TX S)) (by omega)) ?_
      rintro _ _ ⟨rfl, z19, rfl, w19⟩
      show Rl _ _ _ _ _ [iv z19] _ _
      refine l_istore rfl rfl rfl ?_
      refine l_goto rfl rfl ?_
      exact Rl_weak (C275 (z19) (by omega)) (And.intro rfl (And.intro rfl (True.intro)))
    | 1, hii =>
      cases hii
      have w20 : (Xi S (276 + cl) 0) = 1 := by simpa using w12
      refine l_aload_n rfl rfl ?_
      have hk1 : (0 ≤ Xi S (276 + cl) 2 ∨ (Xi S (276 + cl) 2 = -2 ∧ 0 ≤ self)) ∧ 0 ≤ Xi S (276 + cl) 3 ∧ Xi S (276 + cl) 3 ≤ 11 := (hk.1.2.1 (by omega)).1
      refine l_gfr rfl rfl rfl rfl rfl (hH.r 900 1 20 rfl) ?_
      refine l_iload rfl rfl ?_
      refine l_aload_n rfl rfl ?_
      refine l_gfi rfl rfl rfl (layCl (by omega)) rfl ?_
      have w21 : -1 ≤ (Xi S (276 + cl) 3) ∧ (Xi S (276 + cl) 3) ≤ 1666 := clc3 hH (by omega)
      refine l_callV rfl rfl rfl (t_wo_valueOf hH z7 (Xi S (276 + cl) 3) ⟨by omega, by omega⟩ ⟨by omega, by omega⟩ _) ?_
      rintro _ _ ⟨rfl, z23, rfl, w23, w22⟩
      show Rl _ _ _ _ _ [iv z23] _ _
      refine l_aload_n rfl rfl ?_
      refine l_gfi rfl rfl rfl (layCl (by omega)) rfl ?_
      have w24 : -2147483648 ≤ (Xi S (276 + cl) 4) ∧ (Xi S (276 + cl) 4) ≤ 2147483647 := Xi_rgI
      refine l_icmp_ne rfl rfl (by unfold rg; omega) (by unfold rg; omega) (fun w25 => ?_) (fun w26 => ?_)
      · refine l_iconst rfl ?_
        refine l_istore rfl rfl rfl ?_
        refine l_goto rfl rfl ?_
        exact Rl_weak (C275 (0) (by omega)) (And.intro rfl (And.intro rfl (True.intro)))
      · refine l_iconst rfl ?_
        refine l_goto rfl rfl ?_
        refine l_istore rfl rfl rfl ?_
        refine l_goto rfl rfl ?_
        exact Rl_weak (C275 (1) (by omega)) (And.intro rfl (And.intro rfl (True.intro)))
    | 2, hii =>
      cases hii
      have w27 : (Xi S (276 + cl) 0) = 2 := by simpa using w12
      refine l_aload_n rfl rfl ?_
      have hk1 : (0 ≤ Xi S (276 + cl) 2 ∨ (Xi S (276 + cl) 2 = -2 ∧ 0 ≤ self)) ∧ 0 ≤ Xi S (276 + cl) 3 ∧ Xi S (276 + cl) 3 ≤ 11 := hk.1.2.2.1 (by omega)
      refine l_gfr rfl rfl rfl rfl rfl (hH.r 900 1 20 rfl) ?_
      refine l_iload rfl rfl ?_
      refine l_aload_n rfl rfl ?_
      refine l_gfi rfl rfl rfl (layCl (by omega)) rfl ?_
      have w28 : -1 ≤ (Xi S (276 + cl) 3) ∧ (Xi S (276 + cl) 3) ≤ 1666 := clc3 hH (by omega)
      refine l_callV rfl rfl rfl (t_wo_valueOf hH z7 (Xi S (276 + cl) 3) ⟨by omega, by omega⟩ ⟨by omega, by omega⟩ _) ?_
      rintro _ _ ⟨rfl, z30, rfl, w30, w29⟩
      show Rl _ _ _ _ _ [iv z30] _ _
      refine l_aload_n rfl rfl ?_
      refine l_gfi rfl rfl rfl (layCl (by omega)) rfl ?_
      have w31 : -2147483648 ≤ (Xi S (276 + cl) 4) ∧ (Xi S (276 + cl) 4) ≤ 2147483647 := Xi_rgI
      refine l_icmp_ge rfl rfl (by unfold rg; omega) (by unfold rg; omega) (fun w32 => ?_) (fun w33 => ?_)
      · refine l_iconst rfl ?_
        refine l_istore rfl rfl rfl ?_
        refine l_goto rfl rfl ?_
        exact Rl_weak (C275 (0) (by omega)) (And.intro rfl (And.intro rfl (True.intro)))
      · refine l_iconst rfl ?_
        refine l_goto rfl rfl ?_
        refine l_istore rfl rfl rfl ?_
        refine l_goto rfl rfl ?_
        exact Rl_weak (C275 (1) (by omega)) (And.intro rfl (And.intro rfl (True.intro)))
    | 3, hii =>
      cases hii
      have w34 : (Xi S (276 + cl) 0) = 3 := by simpa using w12
      refine l_aload_n rfl rfl ?_
      have hk1 : (0 ≤ Xi S (276 + cl) 2 ∨ (Xi S (276 + cl) 2 = -2 ∧ 0 ≤ self)) ∧ 0 ≤ Xi S (276 + cl) 3 ∧ Xi S (276 + cl) 3 ≤ 11 := hk.1.2.2.1 (by omega)
      refine l_gfr rfl rfl rfl rfl rfl (hH.r 900 1 20 rfl) ?_
      refine l_iload rfl rfl ?_
      refine l_aload_n rfl rfl ?_
      refine l_gfi rfl rfl rfl (layCl (by omega)) rfl ?_
      have w35 : -1 ≤ (Xi S (276 + cl) 3) ∧ (Xi S (276 + cl) 3) ≤ 1666 := clc3 hH (by omega)
      refine l_callV rfl rfl rfl (t_wo_valueOf hH z7 (Xi S (276 + cl) 3) ⟨by omega, by omega⟩ ⟨by omega, by omega⟩ _) ?_
      rintro _ _ ⟨rfl, z37, rfl, w37, w36⟩
      show Rl _ _ _ _ _ [iv z37] _ _
      refine l_aload_n rfl rfl ?_
      refine l_gfi rfl rfl rfl (layCl (by omega)) rfl ?_
      have w38 : -2147483648 ≤ (Xi S (276 + cl) 4) ∧ (Xi S (276 + cl) 4) ≤ 2147483647 := Xi_rgI
      refine l_icmp_le rfl rfl (by unfold rg; omega) (by unfold rg; omega) (fun w39 => ?_) (fun w40 => ?_)
      · refine l_iconst rfl ?_
        refine l_istore rfl rfl rfl ?_
        refine l_goto rfl rfl ?_
        exact Rl_weak (C275 (0) (by omega)) (And.intro rfl (And.intro rfl (True.intro)))
      · refine l_iconst rfl ?_
        refine l_goto rfl rfl ?_
        refine l_istore rfl rfl rfl ?_
        refine l_goto rfl rfl ?_
        exact Rl_weak (C275 (1) (by omega)) (And.intro rfl (And.intro rfl (True.intro)))
    | 4, hii =>
      cases hii
      have w41 : (Xi S (276 + cl) 0) = 4 := by simpa using w12
      refine l_aload_n rfl rfl ?_
      have hk1 : (0 ≤ Xi S (276 + cl) 2 ∨ (Xi S (276 + cl) 2 = -2 ∧ 0 ≤ self)) ∧ 0 ≤ Xi S (276 + cl) 3 ∧ Xi S (276 + cl) 3 ≤ 11 := (hk.1.2.1 (by omega)).1
      refine l_gfr rfl rfl rfl rfl rfl (hH.r 900 1 20 rfl) ?_
      refine l_aload_n rfl rfl ?_
      refine l_gfr rfl rfl rfl rfl rfl (hH.r 900 1 20 rfl) ?_
      refine l_iload rfl rfl ?_
      refine l_aload_n rfl rfl ?_
      refine l_gfi rfl rfl rfl (layCl (by omega)) rfl ?_
      have w42 : -1 ≤ (Xi S (276 + cl) 3) ∧ (Xi S (276 + cl) 3) ≤ 1666 := clc3 hH (by omega)
      refine l_callV rfl rfl rfl (t_wo_valueOf hH z7 (Xi S (276 + cl) 3) ⟨by omega, by omega⟩ ⟨by omega, by omega⟩ _) ?_
      rintro _ _ ⟨rfl, z44, rfl, w44, w43⟩
      show Rl _ _ _ _ _ [iv z44, .ref 20] _ _
      refine l_aload_n rfl rfl ?_
      refine l_gfr rfl rfl rfl rfl rfl (hH.r 900 1 20 rfl) ?_
      refine l_iload rfl rfl ?_
      refine l_aload_n rfl rfl ?_
      refine l_gfi rfl rfl rfl (layCl (by omega)) rfl ?_
      refine l_callV rfl rfl rfl (t_wo_lengthOf hH z7 (Xi S (276 + cl) 3) ⟨by omega, by omega⟩ ⟨by omega, by omega⟩ _) ?_
      rintro _ _ ⟨rfl, z46, rfl, w46, w45⟩
      show Rl _ _ _ _ _ [iv z46, iv z44, .ref 20] _ _
      refine l_aload_n rfl rfl ?_
      refine l_gfi rfl rfl rfl (layCl (by omega)) rfl ?_
      have w47 : -2147483648 ≤ (Xi S (276 + cl) 4) ∧ (Xi S (276 + cl) 4) ≤ 2147483647 := Xi_rgI
      refine l_aload_n rfl rfl ?_
      refine l_gfi rfl rfl rfl (layCl (by omega)) rfl ?_
      have w48 : -2147483648 ≤ (Xi S (276 + cl) 5) ∧ (Xi S (276 + cl) 5) ≤ 2147483647 := Xi_rgI
      refine l_callV rfl rfl rfl (t_wo_sameText hH z44 z46 (Xi S (276 + cl) 4) (Xi S (276 + cl) 5) ⟨by omega, by omega⟩ ⟨by omega, by omega⟩ ⟨by omega, by omega⟩ ⟨by omega, by omega⟩ (TX_v hX hH (by assumption) (by assumption) (by omega) (by omega) (by omega)) ((hk.1.2.1 (by omega)).2) _) ?_
      rintro _ _ ⟨rfl, z50, rfl, w50, w49⟩
      show Rl _ _ _ _ _ [iv z50] _ _
      refine l_istore rfl rfl rfl ?_
      refine l_goto rfl rfl ?_
      exact Rl_weak (C275 (z50) (by omega)) (And.intro rfl (And.intro rfl (True.intro)))
    | 5, hii =>
      cases hii
      have w51 : (Xi S (276 + cl) 0) = 5 := by simpa using w12
      refine l_aload_n rfl rfl ?_
      have hk5 : (0 ≤ Xi S (276 + cl) 2 ∨ (Xi S (276 + cl) 2 = -2 ∧ 0 ≤ self)) := hk.1.2.2.2.1 (by omega)
      refine l_gfr rfl rfl rfl rfl rfl (hH.r 900 1 20 rfl) ?_
      refine l_gfr rfl rfl rfl rfl rfl (hH.r 20 3 22 rfl) ?_
      refine l_iload rfl rfl ?_
      refine l_iaload (n := 24) rfl rfl (by omega) (by omega) (by unfold rg; omega) ?_
      have w52 : 0 ≤ (Xi S 22 ((z7).toNat)) ∧ (Xi S 22 ((z7).toNat)) ≤ 5 := hH.c _ _
      refine l_aload_n rfl rfl ?_
      refine l_gfi rfl rfl rfl (layCl (by omega)) rfl ?_
      have w53 : -2147483648 ≤ (Xi S (276 + cl) 4) ∧ (Xi S (276 + cl) 4) ≤ 2147483647 := Xi_rgI
      refine l_icmp_ne rfl rfl (by unfold rg; omega) (by unfold rg; omega) (fun w54 => ?_) (fun w55 => ?_)
      · refine l_iconst rfl ?_
        refine l_istore rfl rfl rfl ?_
        refine l_goto rfl rfl ?_
        exact Rl_weak (C275 (0) (by omega)) (And.intro rfl (And.intro rfl (True.intro)))
      · refine l_aload_n rfl rfl ?_
        refine l_gfr rfl rfl rfl rfl rfl (hH.r 900 1 20 rfl) ?_
        refine l_gfr rfl rfl rfl rfl rfl (hH.r 20 4 23 rfl) ?_
        refine l_iload rfl rfl ?_
        refine l_iaload (n := 24) rfl rfl (by omega) (by omega) (by unfold rg; omega) ?_
        have w56 : -1 ≤ (Xi S 23 ((z7).toNat)) ∧ (Xi S 23 ((z7).toNat)) ≤ 23 := hH.c _ _
        refine l_iload rfl rfl ?_
        refine l_icmp_ne rfl rfl (by unfold rg; omega) (by unfold rg; omega) (fun w57 => ?_) (fun w58 => ?_)
        · refine l_iconst rfl ?_
          refine l_istore rfl rfl rfl ?_
          refine l_goto rfl rfl ?_
          exact Rl_weak (C275 (0) (by omega)) (And.intro rfl (And.intro rfl (True.intro)))
        · refine l_iconst rfl ?_
          refine l_goto rfl rfl ?_
          refine l_istore rfl rfl rfl ?_
          refine l_goto rfl rfl ?_
          exact Rl_weak (C275 (1) (by omega)) (And.intro rfl (And.intro rfl (True.intro)))
    | n + 6, hii => exact absurd hii (by simp)
theorem k_adj (n : Nat) : ∀ (d : Nat) {S : sS} (_ : HI S) (o : Int) (a : Int) (dp : Int) (ho : 0 ≤ o ∧ o ≤ 23) (ha : 0 ≤ a ∧ a ≤ 23) (hdp : 0 ≤ dp ∧ dp ≤ 8) (ha2 : a < Xi S 5 3) (hD : DEF S) (hX : TX S), (8 - dp).toNat = n → Mt lay0 (d + 2 * n + 9) m_tu_adjectiveHolds [.ref 900, iv o, iv a, iv dp] S (Q_tu_adjectiveHolds S o a dp) := by
  induction n with
  | zero => intro d S hH o a dp ho ha hdp ha2 hD hX hm; exact u_tu_adjectiveHolds hH o a dp ho ha hdp ha2 hD hX d (fun {_} _ _ _ _ _ _ _ _ _ _ hlt => absurd hlt.1 (by omega))
  | succ n ih =>
    intro d S hH o a dp ho ha hdp ha2 hD hX hm
    have t := u_tu_adjectiveHolds hH o a dp ho ha hdp ha2 hD hX (d + 2 * n + 2) (fun {S} hH xcl xself xdepth xhcl xhself xhdepth xhk xhD xhX hlt => u_tu_holds hH xcl xself xdepth xhcl xhself xhdepth xhk xhD xhX (d + 2 * n + 2) (fun {S} hH2 yo ya ydp yho yha yhdp yha2 yhD yhX he => by
      have t := ih d hH2 yo ya ydp yho yha yhdp yha2 yhD yhX (by omega)
      rw [show d + 2 * n + 9 = d + 2 * n + 2 + 7 by omega] at t
      exact t))
    rw [show d + 2 * n + 2 + 9 = d + 2 * (n + 1) + 9 by omega] at t
    exact t
theorem t_tu_adjectiveHolds {S : sS} (hH : HI S) (o : Int) (a : Int) (dp : Int) (ho : 0 ≤ o ∧ o ≤ 23) (ha : 0 ≤ a ∧ a ≤ 23) (hdp : 0 ≤ dp ∧ dp ≤ 8) (ha2 : a < Xi S 5 3) (hD : DEF S) (hX : TX S) (d : Nat) : Mt lay0 (d + 25) m_tu_adjectiveHolds [.ref 900, iv o, iv a, iv dp] S (Q_tu_adjectiveHolds S o a dp) := by
  have t := k_adj (8 - dp).toNat (d + (16 - 2 * (8 - dp).toNat)) hH o a dp ho ha hdp ha2 hD hX rfl
  rw [show d + (16 - 2 * (8 - dp).toNat) + 2 * (8 - dp).toNat + 9 = d + 25 by omega] at t
  exact t
theorem t_tu_holds {S : sS} (hH : HI S) (cl : Nat) (self : Int) (depth : Int) (hcl : cl < 600) (hself : -1 ≤ self ∧ self ≤ 23) (hdepth : 0 ≤ depth ∧ depth ≤ 8) (hk : TSok S (0 ≤ self) cl) (hD : DEF S) (hX : TX S) (d : Nat) : Mt lay0 (d + 26) m_tu_holds [.ref 900, .ref (276 + cl), iv self, iv depth] S (Q_tu_holds S cl self depth) :=
  u_tu_holds hH cl self depth hcl hself hdepth hk hD hX (d + 18) (fun {S} hH2 yo ya ydp yho yha yhdp yha2 yhD yhX he => t_tu_adjectiveHolds hH2 yo ya ydp yho yha yhdp yha2 yhD yhX d)

abbrev Q_tu_applies (S : sS) (ri : Nat) (action : Int) (noun : Int) : pst := fun r S1 => S = S1 ∧ (∃ z : Int, r = some (iv z) ∧ (0 ≤ z ∧ z ≤ 1) ∧ (z = 1 → Xi S (248 + ri) 1 = action))
set_option maxRecDepth 100000 in
theorem t_tu_applies {S : sS} (hH : HI S) (ri : Nat) (action : Int) (noun : Int) (hri : ri < 24) (haction : -1 ≤ action ∧ action ≤ 11) (hnoun : -1 ≤ noun ∧ noun ≤ 23) (hi : (ri : Int) < Xi S 246 2) (hR : RUL S) (hD : DEF S) (hX : TX S) (hn : 0 ≤ action → Xi S 19 action.toNat ≠ -1 → 0 ≤ noun) (d : Nat) : Mt lay0 (d + 27) m_tu_applies [.ref 900, .ref (248 + ri), iv action, iv noun] S (Q_tu_applies S ri action noun) := by
  refine Mt_R rfl rfl ?_
  have w1 : 0 ≤ Xi S 246 2 ∧ Xi S 246 2 ≤ 24 := hH.c _ _
  have hrb := RUL_b hR hi
  have e1 : Xi S (248 + ri) (1 : Int).toNat = Xi S (248 + ri) 1 := rfl
  have e3 : Xi S (248 + ri) (3 : Int).toNat = Xi S (248 + ri) 3 := rfl
  have e4 : Xi S (248 + ri) (4 : Int).toNat = Xi S (248 + ri) 4 := rfl
  have e5 : Xi S (248 + ri) (5 : Int).toNat = Xi S (248 + ri) 5 := rfl
  have e7 : Xi S (248 + ri) (7 : Int).toNat = Xi S (248 + ri) 7 := rfl
  have e6 : Xi S (248 + ri) (6 : Int).toNat = Xi S (248 + ri) 6 := rfl
  have hkn : Xi S (248 + ri) 1 = action → Xi S (248 + ri) 3 ≠ -1 → 0 ≤ noun := fun e h => RUL_k hR hi (rN_n hn e) h
  have p4 := ruc4 hH hri
  have p5 := ruc5 hH hri
  have p6 := ruc6 hH hri
  have C21 : (Xi S (248 + ri) 1 = action) → Rl lay0 (d + 26) m_tu_applies 21 [(0, .ref 900), (1, .ref (248 + ri)), (3, iv noun)] [] S (Q_tu_applies S ri action noun) := by
    intro w2
    have C44 : (Xi S (248 + ri) 1 = action) → Rl lay0 (d + 26) m_tu_applies 44 [(0, .ref 900), (1, .ref (248 + ri)), (3, iv noun)] [] S (Q_tu_applies S ri action noun) := by
      intro w3
      have C47 : ∀ (n47 : Nat) (v4 : Int), (0 ≤ v4 ∧ v4 ≤ 11) → (Xi S (248 + ri) 1 = action) → n47 = (12 - v4).toNat → Rl lay0 (d + 26) m_tu_applies 47 [(0, .ref 900), (1, .ref (248 + ri)), (3, iv noun), (4, iv v4)] [] S (Q_tu_applies S ri action noun) := by
        intro n47
        induction n47 using Nat.strongRecOn with
        | ind n47 ih47 =>
          intro v4 w4 w5 hm47
          refine l_iload rfl rfl ?_
          refine l_aload_n rfl rfl ?_
          refine l_iconst rfl ?_
          refine l_iaload (n := 8) rfl (lay_248 (by omega)) (by omega) (by omega) (by unfold rg; omega) ?_
          have w6 : 0 ≤ (Xi S (248 + ri) ((4 : Int).toNat)) ∧ (Xi S (248 + ri) ((4 : Int).toNat)) ≤ 5 := ruc4 hH (by omega)
          have w7 : (Xi S (248 + ri) ((4 : Int).toNat)) = Xi S (248 + ri) 4 := rfl
          refine l_aload_n rfl rfl ?_
          refine l_iconst rfl ?_
          refine l_iaload (n := 8) rfl (lay_248 (by omega)) (by omega) (by omega) (by unfold rg; omega) ?_
          have w8 : 0 ≤ (Xi S (248 + ri) ((5 : Int).toNat)) ∧ (Xi S (248 + ri) ((5 : Int).toNat)) ≤ 6 := ruc5 hH (by omega)
          have w9 : (Xi S (248 + ri) ((5 : Int).toNat)) = Xi S (248 + ri) 5 := rfl
          refine l_iadd rfl ?_
          refine l_icmp_ge rfl rfl (by unfold rg; omega) (by unfold rg; omega) (fun w10 => ?_) (fun w11 => ?_)
          · refine l_iconst rfl ?_
            refine l_ireturn rfl rfl ?_
            exact ⟨rfl, _, rfl, ⟨by omega, by omega⟩, (by first | assumption | omega)⟩
          · refine l_aload_n rfl rfl ?_
            refine l_aload_n rfl rfl ?_
            refine l_gfr rfl rfl rfl rfl rfl (hH.r 900 2 246 rfl) ?_
            refine l_aload_n rfl rfl ?_
            refine l_bipush rfl rfl ?_
            refine l_iaload (n := 8) rfl (lay_248 (by omega)) (by omega) (by omega) (by unfold rg; omega) ?_
            have w12 : 0 ≤ (Xi S (248 + ri) ((7 : Int).toNat)) ∧ (Xi S (248 + ri) ((7 : Int).toNat)) ≤ 200000 := ruc7 hH (by omega)
            have w13 : (Xi S (248 + ri) ((7 : Int).toNat)) = Xi S (248 + ri) 7 := rfl
            refine l_iload rfl rfl ?_
            refine l_iadd rfl ?_
            refine l_callV rfl rfl rfl (t_bo_clauseAt hH ((Xi S (248 + ri) ((7 : Int).toNat)) + v4) ⟨by omega, by omega⟩ _) ?_
            rintro _ _ ⟨rfl, z15, rfl, w15, w14⟩
            show Rl _ _ _ _ _ [.ref (276 + z15), .ref 900] _ _
            refine l_iload_n rfl rfl ?_
            refine l_iconst rfl ?_
            refine l_callV rfl rfl rfl (t_tu_holds hH z15 noun 0 (by omega) ⟨by omega, by omega⟩ ⟨by omega, by omega⟩ (RUL_ts (k := v4) hR hi (rN_n hn (by omega)) (by omega) (by omega) (by omega)) (by first | assumption | exact (by assumption : DEF S)) (by first | assumption | exact (by assumption : TX S)) _) ?_
            rintro _ _ ⟨rfl, z16, rfl, w16⟩
            show Rl _ _ _ _ _ [iv z16] _ _
            refine l_if_ne rfl rfl (by unfold rg; omega) (fun w17 => ?_) (fun w18 => ?_)
            · refine l_iinc rfl rfl rfl rfl ?_
              refine l_goto rfl rfl ?_
              exact Rl_weak (ih47 _ (by omega) ((v4 + 1)) (by omega) (by omega) rfl) (And.intro rfl (And.intro rfl (And.intro rfl (And.intro rfl (True.intro)))))
            · refine l_iconst rfl ?_
              refine l_ireturn rfl rfl ?_
              exact ⟨rfl, _, rfl, ⟨by omega, by omega⟩, (by first | assumption | omega)⟩
      refine l_iconst rfl ?_
      refine l_istore rfl rfl rfl ?_
      exact Rl_weak (C47 _ (0) (by omega) (by omega) rfl) (And.intro rfl (And.intro rfl (And.intro rfl (And.intro rfl (True.intro)))))
    refine l_aload_n rfl rfl ?_
    refine l_iconst rfl ?_
    refine l_iaload (n := 8) rfl (lay_248 (by omega)) (by omega) (by omega) (by unfold rg; omega) ?_
    have w19 : -1 ≤ (Xi S (248 + ri) ((3 : Int).toNat)) ∧ (Xi S (248 + ri) ((3 : Int).toNat)) ≤ 15 := ruc3 hH (by omega)
    have w20 : (Xi S (248 + ri) ((3 : Int).toNat)) = Xi S (248 + ri) 3 := rfl
    refine l_iconst rfl ?_
    refine l_icmp_eq rfl rfl (by unfold rg; omega) (by unfold rg; omega) (fun w21 => ?_) (fun w22 => ?_)
    · exact Rl_weak (C44  (by omega)) (And.intro rfl (And.intro rfl (And.intro rfl (True.intro))))
    · refine l_aload_n rfl rfl ?_
      refine l_gfr rfl rfl rfl rfl rfl (hH.r 900 1 20 rfl) ?_
      refine l_iload_n rfl rfl ?_
      refine l_aload_n rfl rfl ?_
      refine l_iconst rfl ?_
      refine l_iaload (n := 8) rfl (lay_248 (by omega)) (by omega) (by omega) (by unfold rg; omega) ?_
      refine l_callV rfl rfl rfl (t_wo_isA hH noun (Xi S (248 + ri) ((3 : Int).toNat)) ⟨by omega, by omega⟩ ⟨by omega, by omega⟩ _) ?_
      rintro _ _ ⟨rfl, z24, rfl, w24, w23⟩
      show Rl _ _ _ _ _ [iv z24] _ _
      refine l_if_ne rfl rfl (by unfold rg; omega) (fun w25 => ?_) (fun w26 => ?_)
      · exact Rl_weak (C44  (by omega)) (And.intro rfl (And.intro rfl (And.intro rfl (True.intro))))
      · refine l_iconst rfl ?_
        refine l_ireturn rfl rfl ?_
        exact ⟨rfl, _, rfl, ⟨by omega, by omega⟩, (by first | assumption | omega)⟩
  refine l_aload_n rfl rfl ?_
  refine l_iconst rfl ?_
  refine l_iaload (n := 8) rfl (lay_248 (by omega)) (by omega) (by omega) (by unfold rg; omega) ?_
  have w27 : -1 ≤ (Xi S (248 + ri) ((1 : Int).toNat)) ∧ (Xi S (248 + ri) ((1 : Int).toNat)) ≤ 11 := ruc1 hH (by omega)
  have w28 : (Xi S (248 + ri) ((1 : Int).toNat)) = Xi S (248 + ri) 1 := rfl
  refine l_iload_n rfl rfl ?_
  refine l_icmp_ne rfl rfl (by unfold rg; omega) (by unfold rg; omega) (fun w29 => ?_) (fun w30 => ?_)
  · refine l_iconst rfl ?_
    refine l_ireturn rfl rfl ?_
    exact ⟨rfl, _, rfl, ⟨by omega, by omega⟩, (by first | assumption | omega)⟩
  · refine l_aload_n rfl rfl ?_
    refine l_iconst rfl ?_
    refine l_iaload (n := 8) rfl (lay_248 (by omega)) (by omega) (by omega) (by unfold rg; omega) ?_
    have w31 : -1 ≤ (Xi S (248 + ri) ((2 : Int).toNat)) ∧ (Xi S (248 + ri) ((2 : Int).toNat)) ≤ 23 := ruc2 hH (by omega)
    have w32 : (Xi S (248 + ri) ((2 : Int).toNat)) = Xi S (248 + ri) 2 := rfl
    refine l_iconst rfl ?_
    refine l_icmp_eq rfl rfl (by unfold rg; omega) (by unfold rg; omega) (fun w33 => ?_) (fun w34 => ?_)
    · exact Rl_weak (C21  (by omega)) (And.intro rfl (And.intro rfl (And.intro rfl (True.intro))))
    · refine l_aload_n rfl rfl ?_
      refine l_iconst rfl ?_
      refine l_iaload (n := 8) rfl (lay_248 (by omega)) (by omega) (by omega) (by unfold rg; omega) ?_
      refine l_iload_n rfl rfl ?_
      refine l_icmp_ne rfl rfl (by unfold rg; omega) (by unfold rg; omega) (fun w35 => ?_) (fun w36 => ?_)
      · refine l_iconst rfl ?_
        refine l_ireturn rfl rfl ?_
        exact ⟨rfl, _, rfl, ⟨by omega, by omega⟩, (by first | assumption | omega)⟩
      · exact Rl_weak (C21  (by omega)) (And.intro rfl (And.intro rfl (And.intro rfl (True.intro))))

