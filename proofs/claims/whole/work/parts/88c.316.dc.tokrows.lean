section
abbrev Q_rs_letterOf__f (S : sS) (b : Int) : pst := fun r S1 => S = S1 ∧ (∃ z : Int, r = some (iv z) ∧ (0 ≤ z ∧ z ≤ 26) ∧ (z = lt7 b))
set_option maxRecDepth 100000 in
theorem t_rs_letterOf__f {S : sS} (hH : HI S) (b : Int) (hb : -128 ≤ b ∧ b ≤ 127) (d : Nat) : Mt lay0 (d + 1) m_rs_letterOf [iv b] S (Q_rs_letterOf__f S b) := by
  refine Mt_R rfl rfl ?_
  refine l_iload_n rfl rfl ?_
  refine l_bipush rfl rfl ?_
  refine l_iorF rfl ?_
  have w1 : -2147483648 ≤ (iorF b 32) ∧ (iorF b 32) ≤ 2147483647 := iorF_rg
  have w1b : (0 : Int) ≤ b → (0 : Int) ≤ 32 → 0 ≤ (iorF b 32) := iorF_nn (by unfold rg; omega) (by unfold rg; omega)
  refine l_bipush rfl rfl ?_
  refine l_isub rfl ?_
  refine l_iconst rfl ?_
  refine l_iadd rfl ?_
  refine l_istore_n rfl rfl rfl ?_
  refine l_iload_n rfl rfl ?_
  refine l_if_le rfl rfl (by unfold rg; omega) (fun w2 => ?_) (fun w3 => ?_)
  · refine l_iconst rfl ?_
    refine l_ireturn rfl rfl ?_
    exact ⟨rfl, _, rfl, ⟨by omega, by omega⟩, (by first | exact lt7_y hb (by omega) (by omega) (by omega) | exact lt7_n hb (fun _ _ _ => by omega))⟩
  · refine l_iload_n rfl rfl ?_
    refine l_iconst rfl ?_
    refine l_icmp_lt rfl rfl (by unfold rg; omega) (by unfold rg; omega) (fun w4 => ?_) (fun w5 => ?_)
    · refine l_iconst rfl ?_
      refine l_ireturn rfl rfl ?_
      exact ⟨rfl, _, rfl, ⟨by omega, by omega⟩, (by first | exact lt7_y hb (by omega) (by omega) (by omega) | exact lt7_n hb (fun _ _ _ => by omega))⟩
    · refine l_iload_n rfl rfl ?_
      refine l_bipush rfl rfl ?_
      refine l_icmp_gt rfl rfl (by unfold rg; omega) (by unfold rg; omega) (fun w6 => ?_) (fun w7 => ?_)
      · refine l_iconst rfl ?_
        refine l_ireturn rfl rfl ?_
        exact ⟨rfl, _, rfl, ⟨by omega, by omega⟩, (by first | exact lt7_y hb (by omega) (by omega) (by omega) | exact lt7_n hb (fun _ _ _ => by omega))⟩
      · refine l_iload_n rfl rfl ?_
        refine l_goto rfl rfl ?_
        refine l_ireturn rfl rfl ?_
        exact ⟨rfl, _, rfl, ⟨by omega, by omega⟩, (by first | exact lt7_y hb (by omega) (by omega) (by omega) | exact lt7_n hb (fun _ _ _ => by omega))⟩
abbrev Q_to_closing__f (S : sS) (ts : Nat) (from_ : Int) : pst := fun r S1 => S = S1 ∧ (∃ z : Int, r = some (iv z) ∧ (-1 ≤ z ∧ z ≤ 4999) ∧ (z = -1 ∨ (from_ ≤ z ∧ z < Xi S 876 5)) ∧ (z = cl7 (Xi S ts) (Xi S 876 5) from_))
set_option maxRecDepth 100000 in
theorem t_to_closing__f {S : sS} (hH : HI S) (ts : Nat) (from_ : Int) (hfrom_ : 0 ≤ from_ ∧ from_ ≤ 5000) (hts : S.2.2 876 4 = some ts) (htp : tp ts) (d : Nat) : Mt lay0 (d + 1) m_to_closing [.ref 876, iv from_] S (Q_to_closing__f S ts from_) := by
  refine Mt_R rfl rfl ?_
  have w1 : 0 ≤ Xi S 876 5 ∧ Xi S 876 5 ≤ 5000 := hH.c _ _
  have C2 : ∀ (n2 : Nat) (v2 : Int), (0 ≤ v2 ∧ v2 ≤ 5000) → (from_ ≤ v2) → (cl7 (Xi S ts) (Xi S 876 5) from_ = cl7 (Xi S ts) (Xi S 876 5) v2) → n2 = (5001 - v2).toNat → Rl lay0 (d + 0) m_to_closing 2 [(0, .ref 876), (2, iv v2)] [] S (Q_to_closing__f S ts from_) := by
    intro n2
    induction n2 using Nat.strongRecOn with
    | ind n2 ih2 =>
      intro v2 w2 w3 c2 hm2
      refine l_iload_n rfl rfl ?_
      refine l_aload_n rfl rfl ?_
      refine l_gfi rfl rfl rfl rfl rfl ?_
      refine l_icmp_ge rfl rfl (by unfold rg; omega) (by unfold rg; omega) (fun w4 => ?_) (fun w5 => ?_)
      · refine l_iconst rfl ?_
        refine l_ireturn rfl rfl ?_
        exact ⟨rfl, _, rfl, ⟨by omega, by omega⟩, (by omega), (by first | exact (c2.trans (cl7_h (by omega) (by omega))).symm | exact (c2.trans (cl7_e (by omega))).symm)⟩
      · refine l_aload_n rfl rfl ?_
        refine l_gfr rfl rfl rfl rfl rfl hts ?_
        refine l_iload_n rfl rfl ?_
        refine l_baload (n := 5000) rfl (tp_sv (by assumption)) (lay_tp (by assumption)) (by decide) (by omega) (by omega) (by unfold rg; omega) ?_
        have w7 : -128 ≤ (Xi S ts ((v2).toNat)) ∧ (Xi S ts ((v2).toNat)) ≤ 127 := tpc hH (by assumption)
        refine l_bipush rfl rfl ?_
        refine l_icmp_ne rfl rfl (by unfold rg; omega) (by unfold rg; omega) (fun w8 => ?_) (fun w9 => ?_)
        · refine l_iinc rfl rfl rfl rfl ?_
          refine l_goto rfl rfl ?_
          exact Rl_weak (ih2 _ (by omega) ((v2 + 1)) (by omega) (by omega) (by first | rfl | exact c2.trans (cl7_s (by omega) (by omega))) rfl) (And.intro rfl (And.intro rfl (True.intro)))
        · refine l_iload_n rfl rfl ?_
          refine l_ireturn rfl rfl ?_
          exact ⟨rfl, _, rfl, ⟨by omega, by omega⟩, (by omega), (by first | exact (c2.trans (cl7_h (by omega) (by omega))).symm | exact (c2.trans (cl7_e (by omega))).symm)⟩
  refine l_iload_n rfl rfl ?_
  refine l_istore_n rfl rfl rfl ?_
  exact Rl_weak (C2 _ (from_) (by omega) (by omega) (by first | rfl | exact c2.trans (cl7_s (by omega) (by omega))) rfl) (And.intro rfl (And.intro rfl (True.intro)))
abbrev Q_to_skip__f (S : sS) (ts : Nat) (from_ : Int) : pst := fun r S1 => S = S1 ∧ (∃ z : Int, r = some (iv z) ∧ (0 ≤ z ∧ z ≤ 5000) ∧ (from_ ≤ z ∧ z ≤ Xi S 876 5) ∧ (z = sk7 (Xi S ts) (Xi S 876 5) from_))
set_option maxRecDepth 100000 in
theorem t_to_skip__f {S : sS} (hH : HI S) (ts : Nat) (from_ : Int) (hfrom_ : 0 ≤ from_ ∧ from_ ≤ 5000) (hts : S.2.2 876 4 = some ts) (htp : tp ts) (h5 : from_ ≤ Xi S 876 5) (d : Nat) : Mt lay0 (d + 2) m_to_skip [.ref 876, iv from_] S (Q_to_skip__f S ts from_) := by
  refine Mt_R rfl rfl ?_
  have w1 : 0 ≤ Xi S 876 5 ∧ Xi S 876 5 ≤ 5000 := hH.c _ _
  have C2 : ∀ (n2 : Nat) (v2 : Int), (0 ≤ v2 ∧ v2 ≤ 5000) → (from_ ≤ v2 ∧ v2 ≤ Xi S 876 5) → (sk7 (Xi S ts) (Xi S 876 5) from_ = sk7 (Xi S ts) (Xi S 876 5) v2) → n2 = (5001 - v2).toNat → Rl lay0 (d + 1) m_to_skip 2 [(0, .ref 876), (2, iv v2)] [] S (Q_to_skip__f S ts from_) := by
    intro n2
    induction n2 using Nat.strongRecOn with
    | ind n2 ih2 =>
      intro v2 w2 w3 s2 hm2
      refine l_iload_n rfl rfl ?_
      refine l_aload_n rfl rfl ?_
      refine l_gfi rfl rfl rfl rfl rfl ?_
      refine l_icmp_ge rfl rfl (by unfold rg; omega) (by unfold rg; omega) (fun w4 => ?_) (fun w5 => ?_)
      · refine l_aload_n rfl rfl ?_
        refine l_gfi rfl rfl rfl rfl rfl ?_
        refine l_ireturn rfl rfl ?_
        exact ⟨rfl, _, rfl, ⟨by omega, by omega⟩, (by first | assumption | omega), (by first | exact (s2.trans (sk7_n (by omega) (by omega) (by omega) (by unfold bl7; omega))).symm | exact (s2.trans (sk7_o (by omega) (by omega) (by omega) (by omega))).symm | (rw [s2, sk7_e (by omega)]; omega))⟩
      · refine l_aload_n rfl rfl ?_
        refine l_gfr rfl rfl rfl rfl rfl hts ?_
        refine l_iload_n rfl rfl ?_
        refine l_baload (n := 5000) rfl (tp_sv (by assumption)) (lay_tp (by assumption)) (by decide) (by omega) (by omega) (by unfold rg; omega) ?_
        have w7 : -128 ≤ (Xi S ts ((v2).toNat)) ∧ (Xi S ts ((v2).toNat)) ≤ 127 := tpc hH (by assumption)
        refine l_istore_n rfl rfl rfl ?_
        refine l_iload_n rfl rfl ?_
        refine l_bipush rfl rfl ?_
        refine l_icmp_ne rfl rfl (by unfold rg; omega) (by unfold rg; omega) (fun w8 => ?_) (fun w9 => ?_)
        · refine l_iload_n rfl rfl ?_
          refine l_bipush rfl rfl ?_
          refine l_icmp_eq rfl rfl (by unfold rg; omega) (by unfold rg; omega) (fun w10 => ?_) (fun w11 => ?_)
          · refine l_iinc rfl rfl rfl rfl ?_
            refine l_goto rfl rfl ?_
            refine l_goto rfl rfl ?_
            exact Rl_weak (ih2 _ (by omega) ((v2 + 1)) (by omega) (by omega) (by first | rfl | exact s2.trans (sk7_b (by omega) (by omega) (by unfold bl7; omega)) | exact s2.trans (sk7_c (by omega) (by omega) (by omega) (by assumption) (by omega))) rfl) (And.intro rfl (And.intro rfl (True.intro)))
          · refine l_iload_n rfl rfl ?_
            refine l_bipush rfl rfl ?_
            refine l_icmp_eq rfl rfl (by unfold rg; omega) (by unfold rg; omega) (fun w12 => ?_) (fun w13 => ?_)
            · refine l_iinc rfl rfl rfl rfl ?_
              refine l_goto rfl rfl ?_
              refine l_goto rfl rfl ?_
              exact Rl_weak (ih2 _ (by omega) ((v2 + 1)) (by omega) (by omega) (by first | rfl | exact s2.trans (sk7_b (by omega) (by omega) (by unfold bl7; omega)) | exact s2.trans (sk7_c (by omega) (by omega) (by omega) (by assumption) (by omega))) rfl) (And.intro rfl (And.intro rfl (True.intro)))
            · refine l_iload_n rfl rfl ?_
              refine l_bipush rfl rfl ?_
              refine l_icmp_eq rfl rfl (by unfold rg; omega) (by unfold rg; omega) (fun w14 => ?_) (fun w15 => ?_)
              · refine l_iinc rfl rfl rfl rfl ?_
                refine l_goto rfl rfl ?_
                refine l_goto rfl rfl ?_
                exact Rl_weak (ih2 _ (by omega) ((v2 + 1)) (by omega) (by omega) (by first | rfl | exact s2.trans (sk7_b (by omega) (by omega) (by unfold bl7; omega)) | exact s2.trans (sk7_c (by omega) (by omega) (by omega) (by assumption) (by omega))) rfl) (And.intro rfl (And.intro rfl (True.intro)))
              · refine l_iload_n rfl rfl ?_
                refine l_bipush rfl rfl ?_
                refine l_icmp_ne rfl rfl (by unfold rg; omega) (by unfold rg; omega) (fun w16 => ?_) (fun w17 => ?_)
                · refine l_iload_n rfl rfl ?_
                  refine l_ireturn rfl rfl ?_
                  exact ⟨rfl, _, rfl, ⟨by omega, by omega⟩, (by first | assumption | omega), (by first | exact (s2.trans (sk7_n (by omega) (by omega) (by omega) (by unfold bl7; omega))).symm | exact (s2.trans (sk7_o (by omega) (by omega) (by omega) (by omega))).symm | (rw [s2, sk7_e (by omega)]; omega))⟩
                · refine l_iinc rfl rfl rfl rfl ?_
                  refine l_goto rfl rfl ?_
                  refine l_goto rfl rfl ?_
                  exact Rl_weak (ih2 _ (by omega) ((v2 + 1)) (by omega) (by omega) (by first | rfl | exact s2.trans (sk7_b (by omega) (by omega) (by unfold bl7; omega)) | exact s2.trans (sk7_c (by omega) (by omega) (by omega) (by assumption) (by omega))) rfl) (And.intro rfl (And.intro rfl (True.intro)))
        · refine l_aload_n rfl rfl ?_
          refine l_iload_n rfl rfl ?_
          refine l_callV rfl rfl rfl (t_to_closing__f hH ts v2 ⟨by omega, by omega⟩ hts htp _) ?_
          rintro _ _ ⟨rfl, z21, rfl, w21, w19, w20⟩
          show Rl _ _ _ _ _ [iv z21] _ _
          refine l_istore rfl rfl rfl ?_
          refine l_iload rfl rfl ?_
          refine l_iconst rfl ?_
          refine l_icmp_ne rfl rfl (by unfold rg; omega) (by unfold rg; omega) (fun w22 => ?_) (fun w23 => ?_)
          · refine l_iload rfl rfl ?_
            refine l_iconst rfl ?_
            refine l_iadd rfl ?_
            refine l_istore_n rfl rfl rfl ?_
            refine l_goto rfl rfl ?_
            refine l_goto rfl rfl ?_
            exact Rl_weak (ih2 _ (by omega) ((z21 + 1)) (by omega) (by omega) (by first | rfl | exact s2.trans (sk7_b (by omega) (by omega) (by unfold bl7; omega)) | exact s2.trans (sk7_c (by omega) (by omega) (by omega) (by assumption) (by omega))) rfl) (And.intro rfl (And.intro rfl (True.intro)))
          · refine l_iload_n rfl rfl ?_
            refine l_ireturn rfl rfl ?_
            exact ⟨rfl, _, rfl, ⟨by omega, by omega⟩, (by first | assumption | omega), (by first | exact (s2.trans (sk7_n (by omega) (by omega) (by omega) (by unfold bl7; omega))).symm | exact (s2.trans (sk7_o (by omega) (by omega) (by omega) (by omega))).symm | (rw [s2, sk7_e (by omega)]; omega))⟩
  refine l_iload_n rfl rfl ?_
  refine l_istore_n rfl rfl rfl ?_
  exact Rl_weak (C2 _ (from_) (by omega) (by omega) (by first | rfl | exact s2.trans (sk7_b (by omega) (by omega) (by unfold bl7; omega)) | exact s2.trans (sk7_c (by omega) (by omega) (by omega) (by assumption) (by omega))) rfl) (And.intro rfl (And.intro rfl (True.intro)))
abbrev Q_to_keyOf__f (S : sS) (code : Int) : pst := fun r S1 => S = S1 ∧ (∃ z : Int, r = some (iv z) ∧ (0 ≤ z ∧ z ≤ 100) ∧ (z = ky7 (Xj S 880) code 100))
set_option maxRecDepth 100000 in
theorem t_to_keyOf__f {S : sS} (hH : HI S) (code : Int) (hw : rgL code) (d : Nat) : Mt lay0 (d + 1) m_to_keyOf [.ref 876, jw code] S (Q_to_keyOf__f S code) := by
  refine Mt_R rfl rfl ?_
  have hw2 : -9223372036854775808 ≤ code ∧ code < 9223372036854775808 := hw
  have C2 : ∀ (n2 : Nat) (v3 : Int), (0 ≤ v3 ∧ v3 ≤ 55) → (ky7 (Xj S 880) code 100 = kyF (Xj S 880) code 100 (55 - v3).toNat v3) → n2 = (56 - v3).toNat → Rl lay0 (d + 0) m_to_keyOf 2 [(0, .ref 876), (1, jw code), (3, iv v3)] [] S (Q_to_keyOf__f S code) := by
    intro n2
    induction n2 using Nat.strongRecOn with
    | ind n2 ih2 =>
      intro v3 w1 k2 hm2
      refine l_iload_n rfl rfl ?_
      refine l_bipush rfl rfl ?_
      refine l_icmp_ge rfl rfl (by unfold rg; omega) (by unfold rg; omega) (fun w2 => ?_) (fun w3 => ?_)
      · refine l_bipush rfl rfl ?_
        refine l_ireturn rfl rfl ?_
        exact ⟨rfl, _, rfl, ⟨by omega, by omega⟩, (by first | exact (k2.trans (kyF_h (by omega) (by omega))).symm | exact (k2.trans (kyF_e (by omega))).symm)⟩
      · refine l_aload_n rfl rfl ?_
        refine l_gfr rfl rfl rfl rfl rfl (hH.r 876 3 880 rfl) ?_
        refine l_iload_n rfl rfl ?_
        refine l_laload (n := 55) rfl rfl (by omega) (by omega) (by unfold rg; omega) ?_
        have w4 : -9223372036854775808 ≤ (Xj S 880 ((v3).toNat)) ∧ (Xj S 880 ((v3).toNat)) < 9223372036854775808 := Xj_rg
        refine l_lload_n rfl rfl ?_
        refine l_lcmp rfl (by unfold rgL; omega) (by unfold rgL; omega) (fun c5 w5 w5a w5b w5c => ?_)
        refine l_if_ne rfl rfl (by unfold rg; omega) (fun w6 => ?_) (fun w7 => ?_)
        · refine l_iinc rfl rfl rfl rfl ?_
          refine l_goto rfl rfl ?_
          exact Rl_weak (ih2 _ (by omega) ((v3 + 1)) (by omega) (by first | rfl | exact k2.trans (kyF_s (by omega) (by omega))) rfl) (And.intro rfl (And.intro rfl (And.intro rfl (True.intro))))
        · refine l_iload_n rfl rfl ?_
          refine l_ireturn rfl rfl ?_
          exact ⟨rfl, _, rfl, ⟨by omega, by omega⟩, (by first | exact (k2.trans (kyF_h (by omega) (by omega))).symm | exact (k2.trans (kyF_e (by omega))).symm)⟩
  refine l_iconst rfl ?_
  refine l_istore_n rfl rfl rfl ?_
  exact Rl_weak (C2 _ (0) (by omega) (by first | rfl | exact k2.trans (kyF_s (by omega) (by omega))) rfl) (And.intro rfl (And.intro rfl (And.intro rfl (True.intro))))
def md_to_note__f : List rec := [(876, 877, 7, 8), (877, 878, 0, 100000), (878, 879, 0, 100000), (879, 880, 0, 100000)]
abbrev Q_to_note__f (S : sS) (ty : Int) (pl : Int) (v : Int) : pst := fun r S1 => HI S1 ∧ FR md_to_note__f S S1 ∧ (r = none ∧ (TOK S1) ∧ (Xi S1 876 7 = Xi S 876 7 + 1) ∧ (NT S S1 ty pl v) ∧ (KR S S1 (Xi S 876 7)))
set_option maxRecDepth 100000 in
theorem t_to_note__f {S : sS} (hH : HI S) (ty : Int) (pl : Int) (v : Int) (hty : 0 ≤ ty ∧ ty ≤ 108) (hpl : 0 ≤ pl ∧ pl ≤ 5000) (hT : TOK S) (hrow : Xi S 876 7 ≤ 5124) (hv : ty = 102 → 0 ≤ v ∧ v ≤ 120 ∧ pl + v + 2 ≤ Xi S 876 5) (hvr : rgL v) (d : Nat) : Mt lay0 (d + 1) m_to_note [.ref 876, iv ty, iv pl, jw v] S (Q_to_note__f S ty pl v) := by
  refine Mt_R rfl rfl ?_
  have hF : FR md_to_note__f S S := FR.rf
  have w1 : 0 ≤ Xi S 876 5 ∧ Xi S 876 5 ≤ 5000 := hH.c _ _
  have w2 : 0 ≤ Xi S 876 7 ∧ Xi S 876 7 ≤ 5125 := hH.c _ _
  refine l_aload_n rfl rfl ?_
  refine l_gfi rfl rfl rfl rfl rfl ?_
  refine l_sipush rfl rfl ?_
  refine l_icmp_ge rfl rfl (by unfold rg; omega) (by unfold rg; omega) (fun w3 => ?_) (fun w4 => ?_)
  · refine l_return rfl rfl ?_
    exact ⟨hH, hF, rfl, (by first | exact hT | exact tok_note hT (by omega) (by omega) eU1 eU2 eU3 eU4 hty hpl hv), (by first | omega | (constructor <;> omega)), (by first | (exfalso; omega) | exact (nt_of (by omega) (by omega) eU1 eU2 eU3 eU4 hty hpl hvr).1), (by first | (exfalso; omega) | exact (nt_of (by omega) (by omega) eU1 eU2 eU3 eU4 hty hpl hvr).2)⟩
  · refine l_aload_n rfl rfl ?_
    refine l_gfr rfl rfl rfl rfl rfl (hH.r 876 0 877 rfl) ?_
    refine l_aload_n rfl rfl ?_
    refine l_gfi rfl rfl rfl rfl rfl ?_
    refine l_iload_n rfl rfl ?_
    refine l_iastore (n := 5130) rfl rfl (by omega) (by omega) (by unfold rg; omega) ?_
    obtain ⟨U1, eU1⟩ : ∃ T : sS, T = uI S 877 (((Xi S 876 7)).toNat) (Int32.ofInt ty) := ⟨_, rfl⟩
    rw [← eU1]
    have hHU1 : HI U1 := by rw [eU1]; exact HI_w hH (show 0 ≤ ty by omega) (show ty ≤ 108 by omega)
    have hFU1 : FR md_to_note__f S U1 := by rw [eU1]; exact FR.wI hF (mdf_i (r := (877, 878, 0, 100000)) (List.mem_of_getElem? (i := 1) rfl) (inR_i (by omega) (by omega) (by omega) (by omega)))
    have w6 : Xi U1 877 (((Xi S 876 7)).toNat) = ty := by rw [eU1]; exact Xi_same (by unfold rg; omega)
    refine l_aload_n rfl rfl ?_
    refine l_gfr rfl rfl rfl rfl rfl (hHU1.r 876 1 878 rfl) ?_
    refine l_aload_n rfl rfl ?_
    refine l_gfi rfl rfl rfl rfl rfl ?_
    have w7 : (Xi U1 876 7) = (Xi S 876 7) := (show Xi U1 876 7 = Xi S 876 7 from by rw [eU1]; exact Xi_ne (by omega))
    rw [w7]
    refine l_iload_n rfl rfl ?_
    refine l_iastore (n := 5130) rfl rfl (by omega) (by omega) (by unfold rg; omega) ?_
    obtain ⟨U2, eU2⟩ : ∃ T : sS, T = uI U1 878 (((Xi S 876 7)).toNat) (Int32.ofInt pl) := ⟨_, rfl⟩
    rw [← eU2]
    have hHU2 : HI U2 := by rw [eU2]; exact HI_w hHU1 (show 0 ≤ pl by omega) (show pl ≤ 5000 by omega)
    have hFU2 : FR md_to_note__f S U2 := by rw [eU2]; exact FR.wI hFU1 (mdf_i (r := (878, 879, 0, 100000)) (List.mem_of_getElem? (i := 2) rfl) (inR_i (by omega) (by omega) (by omega) (by omega)))
    have w8 : Xi U2 878 (((Xi S 876 7)).toNat) = pl := by rw [eU2]; exact Xi_same (by unfold rg; omega)
    refine l_aload_n rfl rfl ?_
    refine l_gfr rfl rfl rfl rfl rfl (hHU2.r 876 2 879 rfl) ?_
    refine l_aload_n rfl rfl ?_
    refine l_gfi rfl rfl rfl rfl rfl ?_
    have w9 : (Xi U2 876 7) = (Xi S 876 7) := (show Xi U2 876 7 = Xi U1 876 7 from by rw [eU2]; exact Xi_ne (by omega)).trans ((show Xi U1 876 7 = Xi S 876 7 from by rw [eU1]; exact Xi_ne (by omega)))
    rw [w9]
    refine l_lload_n rfl rfl ?_
    refine l_lastore (n := 5130) rfl rfl (by omega) (by omega) (by unfold rg; omega) ?_
    obtain ⟨U3, eU3⟩ : ∃ T : sS, T = uJ U2 879 (((Xi S 876 7)).toNat) (Int64.ofInt v) := ⟨_, rfl⟩
    rw [← eU3]
    have hHU3 : HI U3 := by rw [eU3]; exact HI_J hHU2
    have hFU3 : FR md_to_note__f S U3 := by rw [eU3]; exact FR.wJ hFU2 (mdf_i (r := (879, 880, 0, 100000)) (List.mem_of_getElem? (i := 3) rfl) (inR_i (by omega) (by omega) (by omega) (by omega)))
    refine l_aload_n rfl rfl ?_
    refine l_dup rfl rfl ?_
    refine l_gfi rfl rfl rfl rfl rfl ?_
    have w10 : (Xi U3 876 7) = (Xi S 876 7) := (show Xi U3 876 7 = Xi U2 876 7 from by rw [eU3]; rfl).trans ( (show Xi U2 876 7 = Xi U1 876 7 from by rw [eU2]; exact Xi_ne (by omega)).trans ((show Xi U1 876 7 = Xi S 876 7 from by rw [eU1]; exact Xi_ne (by omega))))
    rw [w10]
    refine l_iconst rfl ?_
    refine l_iadd rfl ?_
    refine l_pfi rfl rfl rfl rfl ?_
    obtain ⟨U4, eU4⟩ : ∃ T : sS, T = uI U3 876 7 (Int32.ofInt ((Xi S 876 7) + 1)) := ⟨_, rfl⟩
    rw [← eU4]
    have hHU4 : HI U4 := by rw [eU4]; exact HI_w hHU3 (show 0 ≤ ((Xi S 876 7) + 1) by omega) (show ((Xi S 876 7) + 1) ≤ 5125 by omega)
    have hFU4 : FR md_to_note__f S U4 := by rw [eU4]; exact FR.wI hFU3 (mdf_i (r := (876, 877, 7, 8)) (List.mem_of_getElem? (i := 0) rfl) (inR_i (by omega) (by omega) (by omega) (by omega)))
    have w11 : Xi U4 876 7 = ((Xi S 876 7) + 1) := by rw [eU4]; exact Xi_same (by unfold rg; omega)
    refine l_return rfl rfl ?_
    have w12 : 0 ≤ Xi U4 876 7 ∧ Xi U4 876 7 ≤ 5125 := hHU4.c _ _
    exact ⟨hHU4, hFU4, rfl, (by first | exact hT | exact tok_note hT (by omega) (by omega) eU1 eU2 eU3 eU4 hty hpl hv), (by first | omega | (constructor <;> omega)), (by first | (exfalso; omega) | exact (nt_of (by omega) (by omega) eU1 eU2 eU3 eU4 hty hpl hvr).1), (by first | (exfalso; omega) | exact (nt_of (by omega) (by omega) eU1 eU2 eU3 eU4 hty hpl hvr).2)⟩
def md_to_scanWord__f : List rec := [(876, 877, 7, 8), (877, 878, 0, 100000), (878, 879, 0, 100000), (879, 880, 0, 100000)]
abbrev Q_to_scanWord__f (S : sS) (ts : Nat) (from_ : Int) (limit : Int) : pst := fun r S1 => HI S1 ∧ FR md_to_scanWord__f S S1 ∧ (∃ z : Int, r = some (iv z) ∧ (-1 ≤ z ∧ z ≤ 5000) ∧ (TOK S1) ∧ (z = -1 ∨ (from_ < z ∧ z ≤ limit)) ∧ (Xi S 876 7 ≤ Xi S1 876 7 ∧ Xi S1 876 7 ≤ Xi S 876 7 + 1) ∧ ((z ≠ -1 → 1 ≤ Xi S1 876 7) ∧ (z = -1 → Xi S1 876 7 = Xi S 876 7)) ∧ (z = (if we7 (Xi S ts) limit from_ = from_ ∨ 12 < we7 (Xi S ts) limit from_ - from_ then -1 else we7 (Xi S ts) limit from_)) ∧ (z ≠ -1 → NT S S1 (ky7 (Xj S 880) (c27 (Xi S ts) from_.toNat (z - from_).toNat) 100) from_ (c27 (Xi S ts) from_.toNat (z - from_).toNat)) ∧ (KR S S1 (Xi S 876 7)) ∧ (z ≠ -1 → Xi S1 876 7 = Xi S 876 7 + 1))
set_option maxRecDepth 100000 in
theorem t_to_scanWord__f {S : sS} (hH : HI S) (ts : Nat) (from_ : Int) (limit : Int) (hfrom_ : 0 ≤ from_ ∧ from_ ≤ 5000) (hlimit : 0 ≤ limit ∧ limit ≤ 5000) (hts : S.2.2 876 4 = some ts) (htp : tp ts) (hT : TOK S) (hrow : Xi S 876 7 ≤ 5124) (d : Nat) : Mt lay0 (d + 2) m_to_scanWord [.ref 876, iv from_, iv limit] S (Q_to_scanWord__f S ts from_ limit) := by
  refine Mt_R rfl rfl ?_
  have hF : FR md_to_scanWord__f S S := FR.rf
  have w1 : 0 ≤ Xi S 876 7 ∧ Xi S 876 7 ≤ 5125 := hH.c _ _
  have C5 : ∀ (n5 : Nat) (v3 : Int) (v5 : Int), (0 ≤ v5 ∧ v5 ≤ 5000) → (from_ ≤ v5 ∧ (v5 ≤ limit ∨ v5 = from_)) → (v3 = c27 (Xi S ts) from_.toNat (m12 (v5 - from_))) → (we7 (Xi S ts) limit from_ = we7 (Xi S ts) limit v5) → n5 = (5001 - v5).toNat → Rl lay0 (d + 1) m_to_scanWord 5 [(0, .ref 876), (1, iv from_), (2, iv limit), (3, jw v3), (5, iv v5)] [] S (Q_to_scanWord__f S ts from_ limit) := by
    intro n5
    induction n5 using Nat.strongRecOn with
    | ind n5 ih5 =>
      intro v3 v5 w2 w3 h5 w5 hm5
      have C61 : ∀  (v3 : Int) (v5 : Int), (0 ≤ v5 ∧ v5 ≤ 5000) → (from_ ≤ v5 ∧ (v5 ≤ limit ∨ v5 = from_)) → (v3 = c27 (Xi S ts) from_.toNat (m12 (v5 - from_))) → (we7 (Xi S ts) limit from_ = v5) → Rl lay0 (d + 1) m_to_scanWord 61 [(0, .ref 876), (1, iv from_), (3, jw v3), (5, iv v5)] [] S (Q_to_scanWord__f S ts from_ limit) := by
        intro v3 v5 w4 w5 h61 w61
        refine l_iload rfl rfl ?_
        refine l_iload_n rfl rfl ?_
        refine l_icmp_eq rfl rfl (by unfold rg; omega) (by unfold rg; omega) (fun w6 => ?_) (fun w7 => ?_)
        · refine l_iconst rfl ?_
          refine l_ireturn rfl rfl ?_
          exact ⟨hH, hF, _, rfl, ⟨by omega, by omega⟩, (by first | exact hT | assumption), (by omega), (by omega), (by omega), (by first | (rw [w61, if_pos (by omega)]) | (rw [w61, if_neg (by omega)])), (by first | exact fun q => absurd rfl q | (intro _; rw [← c27_d (by omega) h61, ← k81]; assumption)), (by first | assumption | exact KR.rf), (by omega)⟩
        · refine l_iload rfl rfl ?_
          refine l_iload_n rfl rfl ?_
          refine l_isub rfl ?_
          refine l_bipush rfl rfl ?_
          refine l_icmp_le rfl rfl (by unfold rg; omega) (by unfold rg; omega) (fun w9 => ?_) (fun w10 => ?_)
          · refine l_aload_n rfl rfl ?_
            refine l_aload_n rfl rfl ?_
            refine l_lload_n rfl rfl ?_
            refine l_callV rfl rfl rfl (t_to_keyOf__f hH v3 (by rw [h61]; exact c27_g (m12_le _)) _) ?_
            rintro _ _ ⟨rfl, z12, rfl, w12, w11⟩
            show Rl _ _ _ _ _ [iv z12, .ref 876] _ _
            have k81 : z12 = ky7 (Xj S 880) v3 100 := by assumption
            refine l_iload_n rfl rfl ?_
            refine l_lload_n rfl rfl ?_
            have w13 : 0 ≤ Xi S 876 5 ∧ Xi S 876 5 ≤ 5000 := hH.c _ _
            refine l_callV rfl rfl rfl (t_to_note__f hH z12 from_ v3 ⟨by omega, by omega⟩ ⟨by omega, by omega⟩ (hT) (by first | assumption | omega) (by first | assumption | omega) (by rw [h61]; exact c27_g (m12_le _)) _) ?_
            rintro _ T1 ⟨hHT1, w20, rfl, w15, w16, w17, w18⟩
            have hFT1 : FR md_to_scanWord__f S T1 := FR.tr hF w20 rfl
            show Rl _ _ _ _ _ [] _ _
            refine l_iload rfl rfl ?_
            refine l_ireturn rfl rfl ?_
            have w21 : 0 ≤ Xi T1 876 7 ∧ Xi T1 876 7 ≤ 5125 := hHT1.c _ _
            exact ⟨hHT1, hFT1, _, rfl, ⟨by omega, by omega⟩, (by first | exact hT | assumption), (by omega), (by omega), (by omega), (by first | (rw [w61, if_pos (by omega)]) | (rw [w61, if_neg (by omega)])), (by first | exact fun q => absurd rfl q | (intro _; rw [← c27_d (by omega) h61, ← k81]; assumption)), (by first | assumption | exact KR.rf), (by omega)⟩
          · refine l_iconst rfl ?_
            refine l_ireturn rfl rfl ?_
            exact ⟨hH, hF, _, rfl, ⟨by omega, by omega⟩, (by first | exact hT | assumption), (by omega), (by omega), (by omega), (by first | (rw [w61, if_pos (by omega)]) | (rw [w61, if_neg (by omega)])), (by first | exact fun q => absurd rfl q | (intro _; rw [← c27_d (by omega) h61, ← k81]; assumption)), (by first | assumption | exact KR.rf), (by omega)⟩
      refine l_iload rfl rfl ?_
      refine l_iload_n rfl rfl ?_
      refine l_icmp_ge rfl rfl (by unfold rg; omega) (by unfold rg; omega) (fun w23 => ?_) (fun w24 => ?_)
      · exact Rl_weak (C61 (v3) (v5) (by omega) (by omega) (h5) (by first | exact w5.trans (we7_e (by omega)) | exact w5.trans (we7_n (by omega)))) (And.intro rfl (And.intro rfl (And.intro rfl (And.intro rfl (True.intro)))))
      · refine l_aload_n rfl rfl ?_
        refine l_gfr rfl rfl rfl rfl rfl ((hF 876 4 rfl).2.2.trans hts) ?_
        refine l_iload rfl rfl ?_
        refine l_baload (n := 5000) rfl (tp_sv (by assumption)) (lay_tp (by assumption)) (by decide) (by omega) (by omega) (by unfold rg; omega) ?_
        have w26 : -128 ≤ (Xi S ts ((v5).toNat)) ∧ (Xi S ts ((v5).toNat)) ≤ 127 := tpc hH (by assumption)
        refine l_callS rfl rfl (by decide) rfl (t_rs_letterOf__f hH (Xi S ts ((v5).toNat)) ⟨by omega, by omega⟩ _) ?_
        rintro _ _ ⟨rfl, z28, rfl, w28, w27⟩
        show Rl _ _ _ _ _ [iv z28] _ _
        refine l_if_le rfl rfl (by unfold rg; omega) (fun w29 => ?_) (fun w30 => ?_)
        · exact Rl_weak (C61 (v3) (v5) (by omega) (by omega) (h5) (by first | exact w5.trans (we7_e (by omega)) | exact w5.trans (we7_n (by omega)))) (And.intro rfl (And.intro rfl (And.intro rfl (And.intro rfl (True.intro)))))
        · refine l_iload rfl rfl ?_
          refine l_iload_n rfl rfl ?_
          refine l_isub rfl ?_
          refine l_bipush rfl rfl ?_
          refine l_icmp_ge rfl rfl (by unfold rg; omega) (by unfold rg; omega) (fun w31 => ?_) (fun w32 => ?_)
          · refine l_lload_n rfl rfl ?_
            refine l_lstore_n rfl rfl rfl rfl ?_
            refine l_iinc rfl rfl rfl rfl ?_
            refine l_goto rfl rfl ?_
            exact Rl_weak (ih5 _ (by omega) (v3) ((v5 + 1)) (by omega) (by omega) (by first | exact c27_0 | exact c27_m (by assumption) (by omega) (by omega) (by omega) h5 | exact c27_l (by omega) h5) (by first | rfl | exact w5.trans (we7_s (by omega) (by omega))) rfl) (And.intro rfl (And.intro rfl (And.intro rfl (And.intro rfl (And.intro rfl (True.intro))))))
          · refine l_lload_n rfl rfl ?_
            refine l_ldc2 (z := 27) rfl rfl ?_
            refine l_lmul rfl ?_
            refine l_aload_n rfl rfl ?_
            refine l_gfr rfl rfl rfl rfl rfl ((hF 876 4 rfl).2.2.trans hts) ?_
            refine l_iload rfl rfl ?_
            refine l_baload (n := 5000) rfl (tp_sv (by assumption)) (lay_tp (by assumption)) (by decide) (by omega) (by omega) (by unfold rg; omega) ?_
            refine l_callS rfl rfl (by decide) rfl (t_rs_letterOf__f hH (Xi S ts ((v5).toNat)) ⟨by omega, by omega⟩ _) ?_
            rintro _ _ ⟨rfl, z35, rfl, w35, w34⟩
            show Rl _ _ _ _ _ [iv z35, jw (v3 * 27)] _ _
            refine l_i2l rfl (by unfold rg; omega) ?_
            refine l_ladd rfl ?_
            refine l_goto rfl rfl ?_
            refine l_lstore_n rfl rfl rfl rfl ?_
            refine l_iinc rfl rfl rfl rfl ?_
            refine l_goto rfl rfl ?_
            exact Rl_weak (ih5 _ (by omega) (((v3 * 27) + z35)) ((v5 + 1)) (by omega) (by omega) (by first | exact c27_0 | exact c27_m (by assumption) (by omega) (by omega) (by omega) h5 | exact c27_l (by omega) h5) (by first | rfl | exact w5.trans (we7_s (by omega) (by omega))) rfl) (And.intro rfl (And.intro rfl (And.intro rfl (And.intro rfl (And.intro rfl (True.intro))))))
  refine l_lconst (z := 0) rfl rfl ?_
  refine l_lstore_n rfl rfl rfl rfl ?_
  refine l_iload_n rfl rfl ?_
  refine l_istore rfl rfl rfl ?_
  exact Rl_weak (C5 _ (0) (from_) (by omega) (by omega) (by first | exact c27_0 | exact c27_m (by assumption) (by omega) (by omega) (by omega) h5 | exact c27_l (by omega) h5) (by first | rfl | exact w5.trans (we7_s (by omega) (by omega))) rfl) (And.intro rfl (And.intro rfl (And.intro rfl (And.intro rfl (And.intro rfl (True.intro))))))
def md_to_scanNumber__f : List rec := [(876, 877, 7, 8), (877, 878, 0, 100000), (878, 879, 0, 100000), (879, 880, 0, 100000)]
abbrev Q_to_scanNumber__f (S : sS) (ts : Nat) (from_ : Int) : pst := fun r S1 => HI S1 ∧ FR md_to_scanNumber__f S S1 ∧ (∃ z : Int, r = some (iv z) ∧ (-1 ≤ z ∧ z ≤ 5000) ∧ (TOK S1) ∧ (z = -1 ∨ (from_ < z ∧ z ≤ Xi S 876 5)) ∧ (Xi S 876 7 ≤ Xi S1 876 7 ∧ Xi S1 876 7 ≤ Xi S 876 7 + 1) ∧ ((z ≠ -1 → 1 ≤ Xi S1 876 7) ∧ (z = -1 → Xi S1 876 7 = Xi S 876 7)) ∧ (z = (if de7 (Xi S ts) (Xi S 876 5) from_ - from_ ≤ 6 then de7 (Xi S ts) (Xi S 876 5) from_ else -1)) ∧ (z ≠ -1 → NT S S1 101 from_ (dvF (Xi S ts) from_.toNat (z - from_).toNat)) ∧ (KR S S1 (Xi S 876 7)) ∧ (z ≠ -1 → Xi S1 876 7 = Xi S 876 7 + 1))
set_option maxRecDepth 100000 in
theorem t_to_scanNumber__f {S : sS} (hH : HI S) (ts : Nat) (from_ : Int) (hfrom_ : 0 ≤ from_ ∧ from_ ≤ 4999) (hts : S.2.2 876 4 = some ts) (htp : tp ts) (hT : TOK S) (hrow : Xi S 876 7 ≤ 5124) (hb : 48 ≤ Xi S ts from_.toNat ∧ Xi S ts from_.toNat ≤ 57) (he : from_ < Xi S 876 5) (d : Nat) : Mt lay0 (d + 2) m_to_scanNumber [.ref 876, iv from_] S (Q_to_scanNumber__f S ts from_) := by
  refine Mt_R rfl rfl ?_
  have hF : FR md_to_scanNumber__f S S := FR.rf
  have w1 : 0 ≤ Xi S 876 5 ∧ Xi S 876 5 ≤ 5000 := hH.c _ _
  have w2 : 0 ≤ Xi S 876 7 ∧ Xi S 876 7 ≤ 5125 := hH.c _ _
  have C4 : ∀ (n4 : Nat) (v2 : Int) (v3 : Int), (0 ≤ v2 ∧ v2 ≤ 999999) → (0 ≤ v3 ∧ v3 ≤ 5000) → (from_ ≤ v3 ∧ v3 ≤ Xi S 876 5) → (v3 = from_ → 48 ≤ Xi S ts v3.toNat ∧ Xi S ts v3.toNat ≤ 57) → (v3 = from_ → v2 = 0) → (v3 = from_ + 1 → v2 ≤ 9) → (v3 = from_ + 2 → v2 ≤ 99) → (v3 = from_ + 3 → v2 ≤ 999) → (v3 = from_ + 4 → v2 ≤ 9999) → (v3 = from_ + 5 → v2 ≤ 99999) → (v2 = dvF (Xi S ts) from_.toNat (m6 (v3 - from_))) → (de7 (Xi S ts) (Xi S 876 5) from_ = de7 (Xi S ts) (Xi S 876 5) v3) → n4 = (5001 - v3).toNat → Rl lay0 (d + 1) m_to_scanNumber 4 [(0, .ref 876), (1, iv from_), (2, iv v2), (3, iv v3)] [] S (Q_to_scanNumber__f S ts from_) := by
    intro n4
    induction n4 using Nat.strongRecOn with
    | ind n4 ih4 =>
      intro v2 v3 w3 w4 w5 w6 w7 w8 w9 w10 w11 w12 h4 w4 hm4
      have C67 : ∀  (v2 : Int) (v3 : Int), (0 ≤ v2 ∧ v2 ≤ 999999) → (0 ≤ v3 ∧ v3 ≤ 5000) → (from_ < v3 ∧ v3 ≤ Xi S 876 5) → (v2 = dvF (Xi S ts) from_.toNat (m6 (v3 - from_))) → (de7 (Xi S ts) (Xi S 876 5) from_ = v3) → Rl lay0 (d + 1) m_to_scanNumber 67 [(0, .ref 876), (1, iv from_), (2, iv v2), (3, iv v3)] [] S (Q_to_scanNumber__f S ts from_) := by
        intro v2 v3 w13 w14 w15 h67 w67
        refine l_iload_n rfl rfl ?_
        refine l_iload_n rfl rfl ?_
        refine l_isub rfl ?_
        refine l_bipush rfl rfl ?_
        refine l_icmp_le rfl rfl (by unfold rg; omega) (by unfold rg; omega) (fun w16 => ?_) (fun w17 => ?_)
        · refine l_aload_n rfl rfl ?_
          refine l_bipush rfl rfl ?_
          refine l_iload_n rfl rfl ?_
          refine l_iload_n rfl rfl ?_
          refine l_i2l rfl (by unfold rg; omega) ?_
          refine l_callV rfl rfl rfl (t_to_note__f hH 101 from_ v2 ⟨by omega, by omega⟩ ⟨by omega, by omega⟩ (hT) (by first | assumption | omega) (by first | assumption | omega) (by unfold rgL; omega) _) ?_
          rintro _ T1 ⟨hHT1, w25, rfl, w20, w21, w22, w23⟩
          have hFT1 : FR md_to_scanNumber__f S T1 := FR.tr hF w25 rfl
          show Rl _ _ _ _ _ [] _ _
          refine l_iload_n rfl rfl ?_
          refine l_ireturn rfl rfl ?_
          have w26 : 0 ≤ Xi T1 876 7 ∧ Xi T1 876 7 ≤ 5125 := hHT1.c _ _
          exact ⟨hHT1, hFT1, _, rfl, ⟨by omega, by omega⟩, (by first | exact hT | assumption), (by omega), (by omega), (by omega), (by first | (rw [w67, if_pos (by omega)]) | (rw [w67, if_neg (by omega)])), (by first | exact fun q => absurd rfl q | (intro _; rw [← dv_d (by omega) h67]; assumption)), (by first | assumption | exact KR.rf), (by omega)⟩
        · refine l_iconst rfl ?_
          refine l_ireturn rfl rfl ?_
          exact ⟨hH, hF, _, rfl, ⟨by omega, by omega⟩, (by first | exact hT | assumption), (by omega), (by omega), (by omega), (by first | (rw [w67, if_pos (by omega)]) | (rw [w67, if_neg (by omega)])), (by first | exact fun q => absurd rfl q | (intro _; rw [← dv_d (by omega) h67]; assumption)), (by first | assumption | exact KR.rf), (by omega)⟩
      refine l_iload_n rfl rfl ?_
      refine l_aload_n rfl rfl ?_
      refine l_gfi rfl rfl rfl rfl rfl ?_
      refine l_icmp_ge rfl rfl (by unfold rg; omega) (by unfold rg; omega) (fun w28 => ?_) (fun w29 => ?_)
      · exact Rl_weak (C67 (v2) (v3) (by omega) (by omega) (by omega) (h4) (w4.trans (de7_n (fun _ _ _ => by omega)))) (And.intro rfl (And.intro rfl (And.intro rfl (And.intro rfl (True.intro)))))
      · refine l_aload_n rfl rfl ?_
        refine l_gfr rfl rfl rfl rfl rfl ((hF 876 4 rfl).2.2.trans hts) ?_
        refine l_iload_n rfl rfl ?_
        refine l_baload (n := 5000) rfl (tp_sv (by assumption)) (lay_tp (by assumption)) (by decide) (by omega) (by omega) (by unfold rg; omega) ?_
        have w31 : -128 ≤ (Xi S ts ((v3).toNat)) ∧ (Xi S ts ((v3).toNat)) ≤ 127 := tpc hH (by assumption)
        refine l_bipush rfl rfl ?_
        refine l_icmp_lt rfl rfl (by unfold rg; omega) (by unfold rg; omega) (fun w32 => ?_) (fun w33 => ?_)
        · exact Rl_weak (C67 (v2) (v3) (by omega) (by omega) (by omega) (h4) (w4.trans (de7_n (fun _ _ _ => by omega)))) (And.intro rfl (And.intro rfl (And.intro rfl (And.intro rfl (True.intro)))))
        · refine l_aload_n rfl rfl ?_
          refine l_gfr rfl rfl rfl rfl rfl ((hF 876 4 rfl).2.2.trans hts) ?_
          refine l_iload_n rfl rfl ?_
          refine l_baload (n := 5000) rfl (tp_sv (by assumption)) (lay_tp (by assumption)) (by decide) (by omega) (by omega) (by unfold rg; omega) ?_
          refine l_bipush rfl rfl ?_
          refine l_icmp_gt rfl rfl (by unfold rg; omega) (by unfold rg; omega) (fun w35 => ?_) (fun w36 => ?_)
          · exact Rl_weak (C67 (v2) (v3) (by omega) (by omega) (by omega) (h4) (w4.trans (de7_n (fun _ _ _ => by omega)))) (And.intro rfl (And.intro rfl (And.intro rfl (And.intro rfl (True.intro)))))
          · refine l_iload_n rfl rfl ?_
            refine l_iload_n rfl rfl ?_
            refine l_isub rfl ?_
            refine l_bipush rfl rfl ?_
            refine l_icmp_ge rfl rfl (by unfold rg; omega) (by unfold rg; omega) (fun w37 => ?_) (fun w38 => ?_)
            · refine l_iload_n rfl rfl ?_
              refine l_istore_n rfl rfl rfl ?_
              refine l_iinc rfl rfl rfl rfl ?_
              refine l_goto rfl rfl ?_
              exact Rl_weak (ih4 _ (by omega) (v2) ((v3 + 1)) (by omega) (by omega) (by omega) (by omega) (by omega) (by omega) (by omega) (by omega) (by omega) (by omega) (by first | exact dv_0 | exact dv_m (by omega) (by omega) (by omega) h4 rfl | exact dv_l (by omega) h4) (by first | rfl | exact w4.trans (de7_s (by omega) (by omega) (by omega))) rfl) (And.intro rfl (And.intro rfl (And.intro rfl (And.intro rfl (True.intro)))))
            · refine l_iload_n rfl rfl ?_
              refine l_bipush rfl rfl ?_
              refine l_imul rfl ?_
              refine l_aload_n rfl rfl ?_
              refine l_gfr rfl rfl rfl rfl rfl ((hF 876 4 rfl).2.2.trans hts) ?_
              refine l_iload_n rfl rfl ?_
              refine l_baload (n := 5000) rfl (tp_sv (by assumption)) (lay_tp (by assumption)) (by decide) (by omega) (by omega) (by unfold rg; omega) ?_
              refine l_iadd rfl ?_
              refine l_bipush rfl rfl ?_
              refine l_isub rfl ?_
              refine l_goto rfl rfl ?_
              refine l_istore_n rfl rfl rfl ?_
              refine l_iinc rfl rfl rfl rfl ?_
              refine l_goto rfl rfl ?_
              exact Rl_weak (ih4 _ (by omega) ((((v2 * 10) + (Xi S ts ((v3).toNat))) - 48)) ((v3 + 1)) (by omega) (by omega) (by omega) (by omega) (by omega) (by omega) (by omega) (by omega) (by omega) (by omega) (by first | exact dv_0 | exact dv_m (by omega) (by omega) (by omega) h4 rfl | exact dv_l (by omega) h4) (by first | rfl | exact w4.trans (de7_s (by omega) (by omega) (by omega))) rfl) (And.intro rfl (And.intro rfl (And.intro rfl (And.intro rfl (True.intro)))))
  refine l_iconst rfl ?_
  refine l_istore_n rfl rfl rfl ?_
  refine l_iload_n rfl rfl ?_
  refine l_istore_n rfl rfl rfl ?_
  exact Rl_weak (C4 _ (0) (from_) (by omega) (by omega) (by omega) (by omega) (by omega) (by omega) (by omega) (by omega) (by omega) (by omega) (by first | exact dv_0 | exact dv_m (by omega) (by omega) (by omega) h4 rfl | exact dv_l (by omega) h4) (by first | rfl | exact w4.trans (de7_s (by omega) (by omega) (by omega))) rfl) (And.intro rfl (And.intro rfl (And.intro rfl (And.intro rfl (True.intro)))))
def md_to_scanText__f : List rec := [(876, 877, 7, 8), (877, 878, 0, 100000), (878, 879, 0, 100000), (879, 880, 0, 100000)]
abbrev Q_to_scanText__f (S : sS) (ts : Nat) (from_ : Int) : pst := fun r S1 => HI S1 ∧ FR md_to_scanText__f S S1 ∧ (∃ z : Int, r = some (iv z) ∧ (-1 ≤ z ∧ z ≤ 5000) ∧ (TOK S1) ∧ (z = -1 ∨ (from_ < z ∧ z ≤ Xi S 876 5)) ∧ (Xi S 876 7 ≤ Xi S1 876 7 ∧ Xi S1 876 7 ≤ Xi S 876 7 + 1) ∧ ((z ≠ -1 → 1 ≤ Xi S1 876 7) ∧ (z = -1 → Xi S1 876 7 = Xi S 876 7)) ∧ (z = (if tx7 (Xi S ts) (Xi S 876 5) from_ then te7 (Xi S ts) (Xi S 876 5) (from_ + 1) + 1 else -1)) ∧ (z ≠ -1 → NT S S1 102 from_ (z - from_ - 2)) ∧ (KR S S1 (Xi S 876 7)) ∧ (z ≠ -1 → Xi S1 876 7 = Xi S 876 7 + 1))
set_option maxRecDepth 100000 in
theorem t_to_scanText__f {S : sS} (hH : HI S) (ts : Nat) (from_ : Int) (hfrom_ : 0 ≤ from_ ∧ from_ ≤ 4999) (hts : S.2.2 876 4 = some ts) (htp : tp ts) (hT : TOK S) (hrow : Xi S 876 7 ≤ 5124) (he : from_ < Xi S 876 5) (d : Nat) : Mt lay0 (d + 2) m_to_scanText [.ref 876, iv from_] S (Q_to_scanText__f S ts from_) := by
  refine Mt_R rfl rfl ?_
  have hF : FR md_to_scanText__f S S := FR.rf
  have w1 : 0 ≤ Xi S 876 5 ∧ Xi S 876 5 ≤ 5000 := hH.c _ _
  have w2 : 0 ≤ Xi S 876 7 ∧ Xi S 876 7 ≤ 5125 := hH.c _ _
  have C4 : ∀ (n4 : Nat) (v2 : Int), (1 ≤ v2 ∧ v2 ≤ 5000) → (from_ < v2 ∧ v2 ≤ Xi S 876 5) → (te7 (Xi S ts) (Xi S 876 5) (from_ + 1) = te7 (Xi S ts) (Xi S 876 5) v2) → (gdF (Xi S ts) (from_ + 1).toNat (v2 - (from_ + 1)).toNat = 1) → n4 = (5001 - v2).toNat → Rl lay0 (d + 1) m_to_scanText 4 [(0, .ref 876), (1, iv from_), (2, iv v2)] [] S (Q_to_scanText__f S ts from_) := by
    intro n4
    induction n4 using Nat.strongRecOn with
    | ind n4 ih4 =>
      intro v2 w3 w4 hc4 g4 hm4
      have C53 : ∀  (v2 : Int), (1 ≤ v2 ∧ v2 ≤ 5000) → (from_ < v2 ∧ v2 ≤ Xi S 876 5) → (te7 (Xi S ts) (Xi S 876 5) (from_ + 1) = v2) → (gdF (Xi S ts) (from_ + 1).toNat (v2 - (from_ + 1)).toNat = 1) → Rl lay0 (d + 1) m_to_scanText 53 [(0, .ref 876), (1, iv from_), (2, iv v2)] [] S (Q_to_scanText__f S ts from_) := by
        intro v2 w5 w6 hc53 g53
        refine l_iload_n rfl rfl ?_
        refine l_aload_n rfl rfl ?_
        refine l_gfi rfl rfl rfl rfl rfl ?_
        refine l_icmp_ge rfl rfl (by unfold rg; omega) (by unfold rg; omega) (fun w7 => ?_) (fun w8 => ?_)
        · refine l_iconst rfl ?_
          refine l_ireturn rfl rfl ?_
          exact ⟨hH, hF, _, rfl, ⟨by omega, by omega⟩, (by first | exact hT | assumption), (by omega), (by omega), (by omega), (by first | exact tx_b hc4 (by omega) (by omega) (by omega) (by omega) (fun _ _ => by omega) | exact tx_z hc53 (by omega) | exact tx_y hc53 g53 (by omega) (by omega)), (by first | exact fun q => absurd rfl q | (intro _; rw [show v2 + 1 - from_ - 2 = v2 - from_ - 1 by omega]; assumption)), (by first | assumption | exact KR.rf), (by omega)⟩
        · refine l_iload_n rfl rfl ?_
          refine l_iload_n rfl rfl ?_
          refine l_isub rfl ?_
          refine l_iconst rfl ?_
          refine l_isub rfl ?_
          refine l_bipush rfl rfl ?_
          refine l_icmp_le rfl rfl (by unfold rg; omega) (by unfold rg; omega) (fun w10 => ?_) (fun w11 => ?_)
          · refine l_aload_n rfl rfl ?_
            refine l_bipush rfl rfl ?_
            refine l_iload_n rfl rfl ?_
            refine l_iload_n rfl rfl ?_
            refine l_iload_n rfl rfl ?_
            refine l_isub rfl ?_
            refine l_iconst rfl ?_
            refine l_isub rfl ?_
            refine l_i2l rfl (by unfold rg; omega) ?_
            refine l_callV rfl rfl rfl (t_to_note__f hH 102 from_ ((v2 - from_) - 1) ⟨by omega, by omega⟩ ⟨by omega, by omega⟩ (hT) (by first | assumption | omega) (by first | assumption | omega) (by unfold rgL; omega) _) ?_
            rintro _ T1 ⟨hHT1, w19, rfl, w14, w15, w16, w17⟩
            have hFT1 : FR md_to_scanText__f S T1 := FR.tr hF w19 rfl
            show Rl _ _ _ _ _ [] _ _
            refine l_iload_n rfl rfl ?_
            refine l_iconst rfl ?_
            refine l_iadd rfl ?_
            refine l_ireturn rfl rfl ?_
            have w20 : 0 ≤ Xi T1 876 7 ∧ Xi T1 876 7 ≤ 5125 := hHT1.c _ _
            exact ⟨hHT1, hFT1, _, rfl, ⟨by omega, by omega⟩, (by first | exact hT | assumption), (by omega), (by omega), (by omega), (by first | exact tx_b hc4 (by omega) (by omega) (by omega) (by omega) (fun _ _ => by omega) | exact tx_z hc53 (by omega) | exact tx_y hc53 g53 (by omega) (by omega)), (by first | exact fun q => absurd rfl q | (intro _; rw [show v2 + 1 - from_ - 2 = v2 - from_ - 1 by omega]; assumption)), (by first | assumption | exact KR.rf), (by omega)⟩
          · refine l_iconst rfl ?_
            refine l_ireturn rfl rfl ?_
            exact ⟨hH, hF, _, rfl, ⟨by omega, by omega⟩, (by first | exact hT | assumption), (by omega), (by omega), (by omega), (by first | exact tx_b hc4 (by omega) (by omega) (by omega) (by omega) (fun _ _ => by omega) | exact tx_z hc53 (by omega) | exact tx_y hc53 g53 (by omega) (by omega)), (by first | exact fun q => absurd rfl q | (intro _; rw [show v2 + 1 - from_ - 2 = v2 - from_ - 1 by omega]; assumption)), (by first | assumption | exact KR.rf), (by omega)⟩
      refine l_iload_n rfl rfl ?_
      refine l_aload_n rfl rfl ?_
      refine l_gfi rfl rfl rfl rfl rfl ?_
      refine l_icmp_ge rfl rfl (by unfold rg; omega) (by unfold rg; omega) (fun w22 => ?_) (fun w23 => ?_)
      · exact Rl_weak (C53 (v2) (by omega) (by omega) (hc4.trans (te7_n (fun _ => by omega))) (g4)) (And.intro rfl (And.intro rfl (And.intro rfl (True.intro))))
      · refine l_aload_n rfl rfl ?_
        refine l_gfr rfl rfl rfl rfl rfl ((hF 876 4 rfl).2.2.trans hts) ?_
        refine l_iload_n rfl rfl ?_
        refine l_baload (n := 5000) rfl (tp_sv (by assumption)) (lay_tp (by assumption)) (by decide) (by omega) (by omega) (by unfold rg; omega) ?_
        have w25 : -128 ≤ (Xi S ts ((v2).toNat)) ∧ (Xi S ts ((v2).toNat)) ≤ 127 := tpc hH (by assumption)
        refine l_bipush rfl rfl ?_
        refine l_icmp_eq rfl rfl (by unfold rg; omega) (by unfold rg; omega) (fun w26 => ?_) (fun w27 => ?_)
        · exact Rl_weak (C53 (v2) (by omega) (by omega) (hc4.trans (te7_n (fun _ => by omega))) (g4)) (And.intro rfl (And.intro rfl (And.intro rfl (True.intro))))
        · refine l_aload_n rfl rfl ?_
          refine l_gfr rfl rfl rfl rfl rfl ((hF 876 4 rfl).2.2.trans hts) ?_
          refine l_iload_n rfl rfl ?_
          refine l_baload (n := 5000) rfl (tp_sv (by assumption)) (lay_tp (by assumption)) (by decide) (by omega) (by omega) (by unfold rg; omega) ?_
          refine l_bipush rfl rfl ?_
          refine l_icmp_lt rfl rfl (by unfold rg; omega) (by unfold rg; omega) (fun w29 => ?_) (fun w30 => ?_)
          · refine l_iconst rfl ?_
            refine l_ireturn rfl rfl ?_
            exact ⟨hH, hF, _, rfl, ⟨by omega, by omega⟩, (by first | exact hT | assumption), (by omega), (by omega), (by omega), (by first | exact tx_b hc4 (by omega) (by omega) (by omega) (by omega) (fun _ _ => by omega) | exact tx_z hc53 (by omega) | exact tx_y hc53 g53 (by omega) (by omega)), (by first | exact fun q => absurd rfl q | (intro _; rw [show v2 + 1 - from_ - 2 = v2 - from_ - 1 by omega]; assumption)), (by first | assumption | exact KR.rf), (by omega)⟩
          · refine l_aload_n rfl rfl ?_
            refine l_gfr rfl rfl rfl rfl rfl ((hF 876 4 rfl).2.2.trans hts) ?_
            refine l_iload_n rfl rfl ?_
            refine l_baload (n := 5000) rfl (tp_sv (by assumption)) (lay_tp (by assumption)) (by decide) (by omega) (by omega) (by unfold rg; omega) ?_
            refine l_bipush rfl rfl ?_
            refine l_icmp_le rfl rfl (by unfold rg; omega) (by unfold rg; omega) (fun w33 => ?_) (fun w34 => ?_)
            · refine l_iinc rfl rfl rfl rfl ?_
              refine l_goto rfl rfl ?_
              exact Rl_weak (ih4 _ (by omega) ((v2 + 1)) (by omega) (by omega) (by first | rfl | exact hc4.trans (te7_s (by omega) (by omega))) (by first | exact gd_0 | exact gd_y (by omega) (by omega) g4 (by omega) (by omega)) rfl) (And.intro rfl (And.intro rfl (And.intro rfl (True.intro))))
            · refine l_iconst rfl ?_
              refine l_ireturn rfl rfl ?_
              exact ⟨hH, hF, _, rfl, ⟨by omega, by omega⟩, (by first | exact hT | assumption), (by omega), (by omega), (by omega), (by first | exact tx_b hc4 (by omega) (by omega) (by omega) (by omega) (fun _ _ => by omega) | exact tx_z hc53 (by omega) | exact tx_y hc53 g53 (by omega) (by omega)), (by first | exact fun q => absurd rfl q | (intro _; rw [show v2 + 1 - from_ - 2 = v2 - from_ - 1 by omega]; assumption)), (by first | assumption | exact KR.rf), (by omega)⟩
  refine l_iload_n rfl rfl ?_
  refine l_iconst rfl ?_
  refine l_iadd rfl ?_
  refine l_istore_n rfl rfl rfl ?_
  exact Rl_weak (C4 _ ((from_ + 1)) (by omega) (by omega) (by first | rfl | exact hc4.trans (te7_s (by omega) (by omega))) (by first | exact gd_0 | exact gd_y (by omega) (by omega) g4 (by omega) (by omega)) rfl) (And.intro rfl (And.intro rfl (And.intro rfl (True.intro))))
def md_to_scan__f : List rec := [(876, 877, 7, 8), (877, 878, 0, 100000), (878, 879, 0, 100000), (879, 880, 0, 100000)]
abbrev Q_to_scan__f (S : sS) (ts : Nat) (p : Int) : pst := fun r S1 => HI S1 ∧ FR md_to_scan__f S S1 ∧ (∃ z : Int, r = some (iv z) ∧ (-1 ≤ z ∧ z ≤ 5000) ∧ (TOK S1) ∧ (z = -1 ∨ (p < z ∧ z ≤ Xi S 876 5)) ∧ (Xi S 876 7 ≤ Xi S1 876 7 ∧ Xi S1 876 7 ≤ Xi S 876 7 + 1) ∧ ((z ≠ -1 → 1 ≤ Xi S1 876 7) ∧ (z = -1 → Xi S1 876 7 = Xi S 876 7)) ∧ (z = q7 (Xi S ts) (Xi S 876 5) p) ∧ (z ≠ -1 → NT S S1 (t7 (Xj S 880) (Xi S ts) (Xi S 876 5) p) p (v7 (Xi S ts) (Xi S 876 5) p)) ∧ (KR S S1 (Xi S 876 7)) ∧ (z ≠ -1 → Xi S1 876 7 = Xi S 876 7 + 1))
set_option maxRecDepth 100000 in
theorem t_to_scan__f {S : sS} (hH : HI S) (ts : Nat) (p : Int) (hp : 0 ≤ p ∧ p ≤ 4999) (hts : S.2.2 876 4 = some ts) (htp : tp ts) (hT : TOK S) (hrow : Xi S 876 7 ≤ 5124) (he : p < Xi S 876 5) (d : Nat) : Mt lay0 (d + 3) m_to_scan [.ref 876, iv p] S (Q_to_scan__f S ts p) := by
  refine Mt_R rfl rfl ?_
  have hF : FR md_to_scan__f S S := FR.rf
  have w1 : 0 ≤ Xi S 876 5 ∧ Xi S 876 5 ≤ 5000 := hH.c _ _
  have w2 : 0 ≤ Xi S 876 7 ∧ Xi S 876 7 ≤ 5125 := hH.c _ _
  refine l_aload_n rfl rfl ?_
  refine l_gfr rfl rfl rfl rfl rfl ((hF 876 4 rfl).2.2.trans hts) ?_
  refine l_iload_n rfl rfl ?_
  refine l_baload (n := 5000) rfl (tp_sv (by assumption)) (lay_tp (by assumption)) (by decide) (by omega) (by omega) (by unfold rg; omega) ?_
  have w4 : -128 ≤ (Xi S ts ((p).toNat)) ∧ (Xi S ts ((p).toNat)) ≤ 127 := tpc hH (by assumption)
  refine l_istore_n rfl rfl rfl ?_
  refine l_iload_n rfl rfl ?_
  refine l_callS rfl rfl (by decide) rfl (t_rs_letterOf__f hH (Xi S ts ((p).toNat)) ⟨by omega, by omega⟩ _) ?_
  rintro _ _ ⟨rfl, z6, rfl, w6, w5⟩
  show Rl _ _ _ _ _ [iv z6] _ _
  refine l_if_le rfl rfl (by unfold rg; omega) (fun w7 => ?_) (fun w8 => ?_)
  · refine l_iload_n rfl rfl ?_
    refine l_bipush rfl rfl ?_
    refine l_icmp_lt rfl rfl (by unfold rg; omega) (by unfold rg; omega) (fun w9 => ?_) (fun w10 => ?_)
    · refine l_iload_n rfl rfl ?_
      refine l_bipush rfl rfl ?_
      refine l_icmp_ne rfl rfl (by unfold rg; omega) (by unfold rg; omega) (fun w11 => ?_) (fun w12 => ?_)
      · refine l_iload_n rfl rfl ?_
        refine l_bipush rfl rfl ?_
        refine l_icmp_eq rfl rfl (by unfold rg; omega) (by unfold rg; omega) (fun w13 => ?_) (fun w14 => ?_)
        · refine l_aload_n rfl rfl ?_
          refine l_iload_n rfl rfl ?_
          refine l_bipush rfl rfl ?_
          refine l_icmp_ne rfl rfl (by unfold rg; omega) (by unfold rg; omega) (fun w15 => ?_) (fun w16 => ?_)
          · refine l_bipush rfl rfl ?_
            refine l_iload_n rfl rfl ?_
            refine l_lconst (z := 0) rfl rfl ?_
            refine l_callV rfl rfl rfl (t_to_note__f hH 104 p 0 ⟨by omega, by omega⟩ ⟨by omega, by omega⟩ (hT) (by first | assumption | omega) (by first | assumption | omega) (by unfold rgL; omega) _) ?_
            rintro _ T1 ⟨hHT1, w24, rfl, w19, w20, w21, w22⟩
            have hFT1 : FR md_to_scan__f S T1 := FR.tr hF w24 rfl
            show Rl _ _ _ _ _ [] _ _
            refine l_iload_n rfl rfl ?_
            refine l_iconst rfl ?_
            refine l_iadd rfl ?_
            refine l_ireturn rfl rfl ?_
            have w25 : 0 ≤ Xi T1 876 7 ∧ Xi T1 876 7 ≤ 5125 := hHT1.c _ _
            exact ⟨hHT1, hFT1, _, rfl, ⟨by omega, by omega⟩, (by first | exact hT | assumption), (by omega), (by omega), (by omega), (by first | exact q7_w he (by omega) (by assumption) | exact q7_d (by omega) ⟨by omega, by omega⟩ (by assumption) | exact q7_t (by omega) (by assumption) | exact q7_p (by omega) (by omega) | exact q7_n (by omega) (by omega) (by omega) (by omega)), (by first | exact fun q => absurd rfl q | exact nt_w he (by omega) (by assumption) (by assumption) | exact nt_d (by omega) ⟨by omega, by omega⟩ (by assumption) (by assumption) | exact nt_t (by omega) (by assumption) (by assumption) | exact fun _ => nt_p (ty := 103) (by omega) (by omega) (by omega) (by assumption) | exact fun _ => nt_p (ty := 104) (by omega) (by omega) (by omega) (by assumption) | exact fun _ => nt_p (ty := 105) (by omega) (by omega) (by omega) (by assumption) | exact fun _ => nt_p (ty := 106) (by omega) (by omega) (by omega) (by assumption)), (by first | assumption | exact KR.rf), (by omega)⟩
          · refine l_bipush rfl rfl ?_
            refine l_goto rfl rfl ?_
            refine l_iload_n rfl rfl ?_
            refine l_lconst (z := 0) rfl rfl ?_
            refine l_callV rfl rfl rfl (t_to_note__f hH 103 p 0 ⟨by omega, by omega⟩ ⟨by omega, by omega⟩ (hT) (by first | assumption | omega) (by first | assumption | omega) (by unfold rgL; omega) _) ?_
            rintro _ T2 ⟨hHT2, w33, rfl, w28, w29, w30, w31⟩
            have hFT2 : FR md_to_scan__f S T2 := FR.tr hF w33 rfl
            show Rl _ _ _ _ _ [] _ _
            refine l_iload_n rfl rfl ?_
            refine l_iconst rfl ?_
            refine l_iadd rfl ?_
            refine l_ireturn rfl rfl ?_
            have w34 : 0 ≤ Xi T2 876 7 ∧ Xi T2 876 7 ≤ 5125 := hHT2.c _ _
            exact ⟨hHT2, hFT2, _, rfl, ⟨by omega, by omega⟩, (by first | exact hT | assumption), (by omega), (by omega), (by omega), (by first | exact q7_w he (by omega) (by assumption) | exact q7_d (by omega) ⟨by omega, by omega⟩ (by assumption) | exact q7_t (by omega) (by assumption) | exact q7_p (by omega) (by omega) | exact q7_n (by omega) (by omega) (by omega) (by omega)), (by first | exact fun q => absurd rfl q | exact nt_w he (by omega) (by assumption) (by assumption) | exact nt_d (by omega) ⟨by omega, by omega⟩ (by assumption) (by assumption) | exact nt_t (by omega) (by assumption) (by assumption) | exact fun _ => nt_p (ty := 103) (by omega) (by omega) (by omega) (by assumption) | exact fun _ => nt_p (ty := 104) (by omega) (by omega) (by omega) (by assumption) | exact fun _ => nt_p (ty := 105) (by omega) (by omega) (by omega) (by assumption) | exact fun _ => nt_p (ty := 106) (by omega) (by omega) (by omega) (by assumption)), (by first | assumption | exact KR.rf), (by omega)⟩
        · refine l_iload_n rfl rfl ?_
          refine l_bipush rfl rfl ?_
          refine l_icmp_ne rfl rfl (by unfold rg; omega) (by unfold rg; omega) (fun w35 => ?_) (fun w36 => ?_)
          · refine l_iload_n rfl rfl ?_
            refine l_bipush rfl rfl ?_
            refine l_icmp_eq rfl rfl (by unfold rg; omega) (by unfold rg; omega) (fun w37 => ?_) (fun w38 => ?_)
            · refine l_aload_n rfl rfl ?_
              refine l_iload_n rfl rfl ?_
              refine l_bipush rfl rfl ?_
              refine l_icmp_ne rfl rfl (by unfold rg; omega) (by unfold rg; omega) (fun w39 => ?_) (fun w40 => ?_)
              · refine l_bipush rfl rfl ?_
                refine l_iload_n rfl rfl ?_
                refine l_lconst (z := 0) rfl rfl ?_
                refine l_callV rfl rfl rfl (t_to_note__f hH 106 p 0 ⟨by omega, by omega⟩ ⟨by omega, by omega⟩ (hT) (by first | assumption | omega) (by first | assumption | omega) (by unfold rgL; omega) _) ?_
                rintro _ T3 ⟨hHT3, w48, rfl, w43, w44, w45, w46⟩
                have hFT3 : FR md_to_scan__f S T3 := FR.tr hF w48 rfl
                show Rl _ _ _ _ _ [] _ _
                refine l_iload_n rfl rfl ?_
                refine l_iconst rfl ?_
                refine l_iadd rfl ?_
                refine l_ireturn rfl rfl ?_
                have w49 : 0 ≤ Xi T3 876 7 ∧ Xi T3 876 7 ≤ 5125 := hHT3.c _ _
                exact ⟨hHT3, hFT3, _, rfl, ⟨by omega, by omega⟩, (by first | exact hT | assumption), (by omega), (by omega), (by omega), (by first | exact q7_w he (by omega) (by assumption) | exact q7_d (by omega) ⟨by omega, by omega⟩ (by assumption) | exact q7_t (by omega) (by assumption) | exact q7_p (by omega) (by omega) | exact q7_n (by omega) (by omega) (by omega) (by omega)), (by first | exact fun q => absurd rfl q | exact nt_w he (by omega) (by assumption) (by assumption) | exact nt_d (by omega) ⟨by omega, by omega⟩ (by assumption) (by assumption) | exact nt_t (by omega) (by assumption) (by assumption) | exact fun _ => nt_p (ty := 103) (by omega) (by omega) (by omega) (by assumption) | exact fun _ => nt_p (ty := 104) (by omega) (by omega) (by omega) (by assumption) | exact fun _ => nt_p (ty := 105) (by omega) (by omega) (by omega) (by assumption) | exact fun _ => nt_p (ty := 106) (by omega) (by omega) (by omega) (by assumption)), (by first | assumption | exact KR.rf), (by omega)⟩
              · refine l_bipush rfl rfl ?_
                refine l_goto rfl rfl ?_
                refine l_iload_n rfl rfl ?_
                refine l_lconst (z := 0) rfl rfl ?_
                refine l_callV rfl rfl rfl (t_to_note__f hH 105 p 0 ⟨by omega, by omega⟩ ⟨by omega, by omega⟩ (hT) (by first | assumption | omega) (by first | assumption | omega) (by unfold rgL; omega) _) ?_
                rintro _ T4 ⟨hHT4, w57, rfl, w52, w53, w54, w55⟩
                have hFT4 : FR md_to_scan__f S T4 := FR.tr hF w57 rfl
                show Rl _ _ _ _ _ [] _ _
                refine l_iload_n rfl rfl ?_
                refine l_iconst rfl ?_
                refine l_iadd rfl ?_
                refine l_ireturn rfl rfl ?_
                have w58 : 0 ≤ Xi T4 876 7 ∧ Xi T4 876 7 ≤ 5125 := hHT4.c _ _
                exact ⟨hHT4, hFT4, _, rfl, ⟨by omega, by omega⟩, (by first | exact hT | assumption), (by omega), (by omega), (by omega), (by first | exact q7_w he (by omega) (by assumption) | exact q7_d (by omega) ⟨by omega, by omega⟩ (by assumption) | exact q7_t (by omega) (by assumption) | exact q7_p (by omega) (by omega) | exact q7_n (by omega) (by omega) (by omega) (by omega)), (by first | exact fun q => absurd rfl q | exact nt_w he (by omega) (by assumption) (by assumption) | exact nt_d (by omega) ⟨by omega, by omega⟩ (by assumption) (by assumption) | exact nt_t (by omega) (by assumption) (by assumption) | exact fun _ => nt_p (ty := 103) (by omega) (by omega) (by omega) (by assumption) | exact fun _ => nt_p (ty := 104) (by omega) (by omega) (by omega) (by assumption) | exact fun _ => nt_p (ty := 105) (by omega) (by omega) (by omega) (by assumption) | exact fun _ => nt_p (ty := 106) (by omega) (by omega) (by omega) (by assumption)), (by first | assumption | exact KR.rf), (by omega)⟩
            · refine l_iload_n rfl rfl ?_
              refine l_bipush rfl rfl ?_
              refine l_icmp_ne rfl rfl (by unfold rg; omega) (by unfold rg; omega) (fun w59 => ?_) (fun w60 => ?_)
              · refine l_iconst rfl ?_
                refine l_ireturn rfl rfl ?_
                exact ⟨hH, hF, _, rfl, ⟨by omega, by omega⟩, (by first | exact hT | assumption), (by omega), (by omega), (by omega), (by first | exact q7_w he (by omega) (by assumption) | exact q7_d (by omega) ⟨by omega, by omega⟩ (by assumption) | exact q7_t (by omega) (by assumption) | exact q7_p (by omega) (by omega) | exact q7_n (by omega) (by omega) (by omega) (by omega)), (by first | exact fun q => absurd rfl q | exact nt_w he (by omega) (by assumption) (by assumption) | exact nt_d (by omega) ⟨by omega, by omega⟩ (by assumption) (by assumption) | exact nt_t (by omega) (by assumption) (by assumption) | exact fun _ => nt_p (ty := 103) (by omega) (by omega) (by omega) (by assumption) | exact fun _ => nt_p (ty := 104) (by omega) (by omega) (by omega) (by assumption) | exact fun _ => nt_p (ty := 105) (by omega) (by omega) (by omega) (by assumption) | exact fun _ => nt_p (ty := 106) (by omega) (by omega) (by omega) (by assumption)), (by first | assumption | exact KR.rf), (by omega)⟩
              · refine l_aload_n rfl rfl ?_
                refine l_iload_n rfl rfl ?_
                refine l_bipush rfl rfl ?_
                refine l_icmp_ne rfl rfl (by unfold rg; omega) (by unfold rg; omega) (fun w62 => ?_) (fun w63 => ?_)
                · refine l_bipush rfl rfl ?_
                  refine l_iload_n rfl rfl ?_
                  refine l_lconst (z := 0) rfl rfl ?_
                  refine l_callV rfl rfl rfl (t_to_note__f hH 106 p 0 ⟨by omega, by omega⟩ ⟨by omega, by omega⟩ (hT) (by first | assumption | omega) (by first | assumption | omega) (by unfold rgL; omega) _) ?_
                  rintro _ T5 ⟨hHT5, w71, rfl, w66, w67, w68, w69⟩
                  have hFT5 : FR md_to_scan__f S T5 := FR.tr hF w71 rfl
                  show Rl _ _ _ _ _ [] _ _
                  refine l_iload_n rfl rfl ?_
                  refine l_iconst rfl ?_
                  refine l_iadd rfl ?_
                  refine l_ireturn rfl rfl ?_
                  have w72 : 0 ≤ Xi T5 876 7 ∧ Xi T5 876 7 ≤ 5125 := hHT5.c _ _
                  exact ⟨hHT5, hFT5, _, rfl, ⟨by omega, by omega⟩, (by first | exact hT | assumption), (by omega), (by omega), (by omega), (by first | exact q7_w he (by omega) (by assumption) | exact q7_d (by omega) ⟨by omega, by omega⟩ (by assumption) | exact q7_t (by omega) (by assumption) | exact q7_p (by omega) (by omega) | exact q7_n (by omega) (by omega) (by omega) (by omega)), (by first | exact fun q => absurd rfl q | exact nt_w he (by omega) (by assumption) (by assumption) | exact nt_d (by omega) ⟨by omega, by omega⟩ (by assumption) (by assumption) | exact nt_t (by omega) (by assumption) (by assumption) | exact fun _ => nt_p (ty := 103) (by omega) (by omega) (by omega) (by assumption) | exact fun _ => nt_p (ty := 104) (by omega) (by omega) (by omega) (by assumption) | exact fun _ => nt_p (ty := 105) (by omega) (by omega) (by omega) (by assumption) | exact fun _ => nt_p (ty := 106) (by omega) (by omega) (by omega) (by assumption)), (by first | assumption | exact KR.rf), (by omega)⟩
                · refine l_bipush rfl rfl ?_
                  refine l_goto rfl rfl ?_
                  refine l_iload_n rfl rfl ?_
                  refine l_lconst (z := 0) rfl rfl ?_
                  refine l_callV rfl rfl rfl (t_to_note__f hH 105 p 0 ⟨by omega, by omega⟩ ⟨by omega, by omega⟩ (hT) (by first | assumption | omega) (by first | assumption | omega) (by unfold rgL; omega) _) ?_
                  rintro _ T6 ⟨hHT6, w80, rfl, w75, w76, w77, w78⟩
                  have hFT6 : FR md_to_scan__f S T6 := FR.tr hF w80 rfl
                  show Rl _ _ _ _ _ [] _ _
                  refine l_iload_n rfl rfl ?_
                  refine l_iconst rfl ?_
                  refine l_iadd rfl ?_
                  refine l_ireturn rfl rfl ?_
                  have w81 : 0 ≤ Xi T6 876 7 ∧ Xi T6 876 7 ≤ 5125 := hHT6.c _ _
                  exact ⟨hHT6, hFT6, _, rfl, ⟨by omega, by omega⟩, (by first | exact hT | assumption), (by omega), (by omega), (by omega), (by first | exact q7_w he (by omega) (by assumption) | exact q7_d (by omega) ⟨by omega, by omega⟩ (by assumption) | exact q7_t (by omega) (by assumption) | exact q7_p (by omega) (by omega) | exact q7_n (by omega) (by omega) (by omega) (by omega)), (by first | exact fun q => absurd rfl q | exact nt_w he (by omega) (by assumption) (by assumption) | exact nt_d (by omega) ⟨by omega, by omega⟩ (by assumption) (by assumption) | exact nt_t (by omega) (by assumption) (by assumption) | exact fun _ => nt_p (ty := 103) (by omega) (by omega) (by omega) (by assumption) | exact fun _ => nt_p (ty := 104) (by omega) (by omega) (by omega) (by assumption) | exact fun _ => nt_p (ty := 105) (by omega) (by omega) (by omega) (by assumption) | exact fun _ => nt_p (ty := 106) (by omega) (by omega) (by omega) (by assumption)), (by first | assumption | exact KR.rf), (by omega)⟩
          · refine l_aload_n rfl rfl ?_
            refine l_iload_n rfl rfl ?_
            refine l_bipush rfl rfl ?_
            refine l_icmp_ne rfl rfl (by unfold rg; omega) (by unfold rg; omega) (fun w82 => ?_) (fun w83 => ?_)
            · refine l_bipush rfl rfl ?_
              refine l_iload_n rfl rfl ?_
              refine l_lconst (z := 0) rfl rfl ?_
              refine l_callV rfl rfl rfl (t_to_note__f hH 104 p 0 ⟨by omega, by omega⟩ ⟨by omega, by omega⟩ (hT) (by first | assumption | omega) (by first | assumption | omega) (by unfold rgL; omega) _) ?_
              rintro _ T7 ⟨hHT7, w91, rfl, w86, w87, w88, w89⟩
              have hFT7 : FR md_to_scan__f S T7 := FR.tr hF w91 rfl
              show Rl _ _ _ _ _ [] _ _
              refine l_iload_n rfl rfl ?_
              refine l_iconst rfl ?_
              refine l_iadd rfl ?_
              refine l_ireturn rfl rfl ?_
              have w92 : 0 ≤ Xi T7 876 7 ∧ Xi T7 876 7 ≤ 5125 := hHT7.c _ _
              exact ⟨hHT7, hFT7, _, rfl, ⟨by omega, by omega⟩, (by first | exact hT | assumption), (by omega), (by omega), (by omega), (by first | exact q7_w he (by omega) (by assumption) | exact q7_d (by omega) ⟨by omega, by omega⟩ (by assumption) | exact q7_t (by omega) (by assumption) | exact q7_p (by omega) (by omega) | exact q7_n (by omega) (by omega) (by omega) (by omega)), (by first | exact fun q => absurd rfl q | exact nt_w he (by omega) (by assumption) (by assumption) | exact nt_d (by omega) ⟨by omega, by omega⟩ (by assumption) (by assumption) | exact nt_t (by omega) (by assumption) (by assumption) | exact fun _ => nt_p (ty := 103) (by omega) (by omega) (by omega) (by assumption) | exact fun _ => nt_p (ty := 104) (by omega) (by omega) (by omega) (by assumption) | exact fun _ => nt_p (ty := 105) (by omega) (by omega) (by omega) (by assumption) | exact fun _ => nt_p (ty := 106) (by omega) (by omega) (by omega) (by assumption)), (by first | assumption | exact KR.rf), (by omega)⟩
            · refine l_bipush rfl rfl ?_
              refine l_goto rfl rfl ?_
              refine l_iload_n rfl rfl ?_
              refine l_lconst (z := 0) rfl rfl ?_
              refine l_callV rfl rfl rfl (t_to_note__f hH 103 p 0 ⟨by omega, by omega⟩ ⟨by omega, by omega⟩ (hT) (by first | assumption | omega) (by first | assumption | omega) (by unfold rgL; omega) _) ?_
              rintro _ T8 ⟨hHT8, w100, rfl, w95, w96, w97, w98⟩
              have hFT8 : FR md_to_scan__f S T8 := FR.tr hF w100 rfl
              show Rl _ _ _ _ _ [] _ _
              refine l_iload_n rfl rfl ?_
              refine l_iconst rfl ?_
              refine l_iadd rfl ?_
              refine l_ireturn rfl rfl ?_
              have w101 : 0 ≤ Xi T8 876 7 ∧ Xi T8 876 7 ≤ 5125 := hHT8.c _ _
              exact ⟨hHT8, hFT8, _, rfl, ⟨by omega, by omega⟩, (by first | exact hT | assumption), (by omega), (by omega), (by omega), (by first | exact q7_w he (by omega) (by assumption) | exact q7_d (by omega) ⟨by omega, by omega⟩ (by assumption) | exact q7_t (by omega) (by assumption) | exact q7_p (by omega) (by omega) | exact q7_n (by omega) (by omega) (by omega) (by omega)), (by first | exact fun q => absurd rfl q | exact nt_w he (by omega) (by assumption) (by assumption) | exact nt_d (by omega) ⟨by omega, by omega⟩ (by assumption) (by assumption) | exact nt_t (by omega) (by assumption) (by assumption) | exact fun _ => nt_p (ty := 103) (by omega) (by omega) (by omega) (by assumption) | exact fun _ => nt_p (ty := 104) (by omega) (by omega) (by omega) (by assumption) | exact fun _ => nt_p (ty := 105) (by omega) (by omega) (by omega) (by assumption) | exact fun _ => nt_p (ty := 106) (by omega) (by omega) (by omega) (by assumption)), (by first | assumption | exact KR.rf), (by omega)⟩
      · refine l_aload_n rfl rfl ?_
        refine l_iload_n rfl rfl ?_
        refine l_callV rfl rfl rfl (t_to_scanText__f hH ts p ⟨by omega, by omega⟩ ((hF 876 4 rfl).2.2.trans hts) htp (hT) (by first | assumption | omega) (by first | assumption | omega) _) ?_
        rintro _ T9 ⟨hHT9, w113, z112, rfl, w112, w104, w105, w106, w107, w108, w109, w110, w111⟩
        have hFT9 : FR md_to_scan__f S T9 := FR.tr hF w113 rfl
        show Rl _ _ _ _ _ [iv z112] _ _
        refine l_ireturn rfl rfl ?_
        have w114 : 0 ≤ Xi T9 876 7 ∧ Xi T9 876 7 ≤ 5125 := hHT9.c _ _
        exact ⟨hHT9, hFT9, _, rfl, ⟨by omega, by omega⟩, (by first | exact hT | assumption), (by omega), (by omega), (by omega), (by first | exact q7_w he (by omega) (by assumption) | exact q7_d (by omega) ⟨by omega, by omega⟩ (by assumption) | exact q7_t (by omega) (by assumption) | exact q7_p (by omega) (by omega) | exact q7_n (by omega) (by omega) (by omega) (by omega)), (by first | exact fun q => absurd rfl q | exact nt_w he (by omega) (by assumption) (by assumption) | exact nt_d (by omega) ⟨by omega, by omega⟩ (by assumption) (by assumption) | exact nt_t (by omega) (by assumption) (by assumption) | exact fun _ => nt_p (ty := 103) (by omega) (by omega) (by omega) (by assumption) | exact fun _ => nt_p (ty := 104) (by omega) (by omega) (by omega) (by assumption) | exact fun _ => nt_p (ty := 105) (by omega) (by omega) (by omega) (by assumption) | exact fun _ => nt_p (ty := 106) (by omega) (by omega) (by omega) (by assumption)), (by first | assumption | exact KR.rf), (by omega)⟩
    · refine l_iload_n rfl rfl ?_
      refine l_bipush rfl rfl ?_
      refine l_icmp_gt rfl rfl (by unfold rg; omega) (by unfold rg; omega) (fun w115 => ?_) (fun w116 => ?_)
      · refine l_iload_n rfl rfl ?_
        refine l_bipush rfl rfl ?_
        refine l_icmp_ne rfl rfl (by unfold rg; omega) (by unfold rg; omega) (fun w117 => ?_) (fun w118 => ?_)
        · refine l_iload_n rfl rfl ?_
          refine l_bipush rfl rfl ?_
          refine l_icmp_eq rfl rfl (by unfold rg; omega) (by unfold rg; omega) (fun w119 => ?_) (fun w120 => ?_)
          · refine l_aload_n rfl rfl ?_
            refine l_iload_n rfl rfl ?_
            refine l_bipush rfl rfl ?_
            refine l_icmp_ne rfl rfl (by unfold rg; omega) (by unfold rg; omega) (fun w121 => ?_) (fun w122 => ?_)
            · refine l_bipush rfl rfl ?_
              refine l_iload_n rfl rfl ?_
              refine l_lconst (z := 0) rfl rfl ?_
              refine l_callV rfl rfl rfl (t_to_note__f hH 104 p 0 ⟨by omega, by omega⟩ ⟨by omega, by omega⟩ (hT) (by first | assumption | omega) (by first | assumption | omega) (by unfold rgL; omega) _) ?_
              rintro _ T10 ⟨hHT10, w130, rfl, w125, w126, w127, w128⟩
              have hFT10 : FR md_to_scan__f S T10 := FR.tr hF w130 rfl
              show Rl _ _ _ _ _ [] _ _
              refine l_iload_n rfl rfl ?_
              refine l_iconst rfl ?_
              refine l_iadd rfl ?_
              refine l_ireturn rfl rfl ?_
              have w131 : 0 ≤ Xi T10 876 7 ∧ Xi T10 876 7 ≤ 5125 := hHT10.c _ _
              exact ⟨hHT10, hFT10, _, rfl, ⟨by omega, by omega⟩, (by first | exact hT | assumption), (by omega), (by omega), (by omega), (by first | exact q7_w he (by omega) (by assumption) | exact q7_d (by omega) ⟨by omega, by omega⟩ (by assumption) | exact q7_t (by omega) (by assumption) | exact q7_p (by omega) (by omega) | exact q7_n (by omega) (by omega) (by omega) (by omega)), (by first | exact fun q => absurd rfl q | exact nt_w he (by omega) (by assumption) (by assumption) | exact nt_d (by omega) ⟨by omega, by omega⟩ (by assumption) (by assumption) | exact nt_t (by omega) (by assumption) (by assumption) | exact fun _ => nt_p (ty := 103) (by omega) (by omega) (by omega) (by assumption) | exact fun _ => nt_p (ty := 104) (by omega) (by omega) (by omega) (by assumption) | exact fun _ => nt_p (ty := 105) (by omega) (by omega) (by omega) (by assumption) | exact fun _ => nt_p (ty := 106) (by omega) (by omega) (by omega) (by assumption)), (by first | assumption | exact KR.rf), (by omega)⟩
            · refine l_bipush rfl rfl ?_
              refine l_goto rfl rfl ?_
              refine l_iload_n rfl rfl ?_
              refine l_lconst (z := 0) rfl rfl ?_
              refine l_callV rfl rfl rfl (t_to_note__f hH 103 p 0 ⟨by omega, by omega⟩ ⟨by omega, by omega⟩ (hT) (by first | assumption | omega) (by first | assumption | omega) (by unfold rgL; omega) _) ?_
              rintro _ T11 ⟨hHT11, w139, rfl, w134, w135, w136, w137⟩
              have hFT11 : FR md_to_scan__f S T11 := FR.tr hF w139 rfl
              show Rl _ _ _ _ _ [] _ _
              refine l_iload_n rfl rfl ?_
              refine l_iconst rfl ?_
              refine l_iadd rfl ?_
              refine l_ireturn rfl rfl ?_
              have w140 : 0 ≤ Xi T11 876 7 ∧ Xi T11 876 7 ≤ 5125 := hHT11.c _ _
              exact ⟨hHT11, hFT11, _, rfl, ⟨by omega, by omega⟩, (by first | exact hT | assumption), (by omega), (by omega), (by omega), (by first | exact q7_w he (by omega) (by assumption) | exact q7_d (by omega) ⟨by omega, by omega⟩ (by assumption) | exact q7_t (by omega) (by assumption) | exact q7_p (by omega) (by omega) | exact q7_n (by omega) (by omega) (by omega) (by omega)), (by first | exact fun q => absurd rfl q | exact nt_w he (by omega) (by assumption) (by assumption) | exact nt_d (by omega) ⟨by omega, by omega⟩ (by assumption) (by assumption) | exact nt_t (by omega) (by assumption) (by assumption) | exact fun _ => nt_p (ty := 103) (by omega) (by omega) (by omega) (by assumption) | exact fun _ => nt_p (ty := 104) (by omega) (by omega) (by omega) (by assumption) | exact fun _ => nt_p (ty := 105) (by omega) (by omega) (by omega) (by assumption) | exact fun _ => nt_p (ty := 106) (by omega) (by omega) (by omega) (by assumption)), (by first | assumption | exact KR.rf), (by omega)⟩
          · refine l_iload_n rfl rfl ?_
            refine l_bipush rfl rfl ?_
            refine l_icmp_ne rfl rfl (by unfold rg; omega) (by unfold rg; omega) (fun w141 => ?_) (fun w142 => ?_)
            · refine l_iload_n rfl rfl ?_
              refine l_bipush rfl rfl ?_
              refine l_icmp_eq rfl rfl (by unfold rg; omega) (by unfold rg; omega) (fun w143 => ?_) (fun w144 => ?_)
              · refine l_aload_n rfl rfl ?_
                refine l_iload_n rfl rfl ?_
                refine l_bipush rfl rfl ?_
                refine l_icmp_ne rfl rfl (by unfold rg; omega) (by unfold rg; omega) (fun w145 => ?_) (fun w146 => ?_)
                · refine l_bipush rfl rfl ?_
                  refine l_iload_n rfl rfl ?_
                  refine l_lconst (z := 0) rfl rfl ?_
                  refine l_callV rfl rfl rfl (t_to_note__f hH 106 p 0 ⟨by omega, by omega⟩ ⟨by omega, by omega⟩ (hT) (by first | assumption | omega) (by first | assumption | omega) (by unfold rgL; omega) _) ?_
                  rintro _ T12 ⟨hHT12, w154, rfl, w149, w150, w151, w152⟩
                  have hFT12 : FR md_to_scan__f S T12 := FR.tr hF w154 rfl
                  show Rl _ _ _ _ _ [] _ _
                  refine l_iload_n rfl rfl ?_
                  refine l_iconst rfl ?_
                  refine l_iadd rfl ?_
                  refine l_ireturn rfl rfl ?_
                  have w155 : 0 ≤ Xi T12 876 7 ∧ Xi T12 876 7 ≤ 5125 := hHT12.c _ _
                  exact ⟨hHT12, hFT12, _, rfl, ⟨by omega, by omega⟩, (by first | exact hT | assumption), (by omega), (by omega), (by omega), (by first | exact q7_w he (by omega) (by assumption) | exact q7_d (by omega) ⟨by omega, by omega⟩ (by assumption) | exact q7_t (by omega) (by assumption) | exact q7_p (by omega) (by omega) | exact q7_n (by omega) (by omega) (by omega) (by omega)), (by first | exact fun q => absurd rfl q | exact nt_w he (by omega) (by assumption) (by assumption) | exact nt_d (by omega) ⟨by omega, by omega⟩ (by assumption) (by assumption) | exact nt_t (by omega) (by assumption) (by assumption) | exact fun _ => nt_p (ty := 103) (by omega) (by omega) (by omega) (by assumption) | exact fun _ => nt_p (ty := 104) (by omega) (by omega) (by omega) (by assumption) | exact fun _ => nt_p (ty := 105) (by omega) (by omega) (by omega) (by assumption) | exact fun _ => nt_p (ty := 106) (by omega) (by omega) (by omega) (by assumption)), (by first | assumption | exact KR.rf), (by omega)⟩
                · refine l_bipush rfl rfl ?_
                  refine l_goto rfl rfl ?_
                  refine l_iload_n rfl rfl ?_
                  refine l_lconst (z := 0) rfl rfl ?_
                  refine l_callV rfl rfl rfl (t_to_note__f hH 105 p 0 ⟨by omega, by omega⟩ ⟨by omega, by omega⟩ (hT) (by first | assumption | omega) (by first | assumption | omega) (by unfold rgL; omega) _) ?_
                  rintro _ T13 ⟨hHT13, w163, rfl, w158, w159, w160, w161⟩
                  have hFT13 : FR md_to_scan__f S T13 := FR.tr hF w163 rfl
                  show Rl _ _ _ _ _ [] _ _
                  refine l_iload_n rfl rfl ?_
                  refine l_iconst rfl ?_
                  refine l_iadd rfl ?_
                  refine l_ireturn rfl rfl ?_
                  have w164 : 0 ≤ Xi T13 876 7 ∧ Xi T13 876 7 ≤ 5125 := hHT13.c _ _
                  exact ⟨hHT13, hFT13, _, rfl, ⟨by omega, by omega⟩, (by first | exact hT | assumption), (by omega), (by omega), (by omega), (by first | exact q7_w he (by omega) (by assumption) | exact q7_d (by omega) ⟨by omega, by omega⟩ (by assumption) | exact q7_t (by omega) (by assumption) | exact q7_p (by omega) (by omega) | exact q7_n (by omega) (by omega) (by omega) (by omega)), (by first | exact fun q => absurd rfl q | exact nt_w he (by omega) (by assumption) (by assumption) | exact nt_d (by omega) ⟨by omega, by omega⟩ (by assumption) (by assumption) | exact nt_t (by omega) (by assumption) (by assumption) | exact fun _ => nt_p (ty := 103) (by omega) (by omega) (by omega) (by assumption) | exact fun _ => nt_p (ty := 104) (by omega) (by omega) (by omega) (by assumption) | exact fun _ => nt_p (ty := 105) (by omega) (by omega) (by omega) (by assumption) | exact fun _ => nt_p (ty := 106) (by omega) (by omega) (by omega) (by assumption)), (by first | assumption | exact KR.rf), (by omega)⟩
              · refine l_iload_n rfl rfl ?_
                refine l_bipush rfl rfl ?_
                refine l_icmp_ne rfl rfl (by unfold rg; omega) (by unfold rg; omega) (fun w165 => ?_) (fun w166 => ?_)
                · refine l_iconst rfl ?_
                  refine l_ireturn rfl rfl ?_
                  exact ⟨hH, hF, _, rfl, ⟨by omega, by omega⟩, (by first | exact hT | assumption), (by omega), (by omega), (by omega), (by first | exact q7_w he (by omega) (by assumption) | exact q7_d (by omega) ⟨by omega, by omega⟩ (by assumption) | exact q7_t (by omega) (by assumption) | exact q7_p (by omega) (by omega) | exact q7_n (by omega) (by omega) (by omega) (by omega)), (by first | exact fun q => absurd rfl q | exact nt_w he (by omega) (by assumption) (by assumption) | exact nt_d (by omega) ⟨by omega, by omega⟩ (by assumption) (by assumption) | exact nt_t (by omega) (by assumption) (by assumption) | exact fun _ => nt_p (ty := 103) (by omega) (by omega) (by omega) (by assumption) | exact fun _ => nt_p (ty := 104) (by omega) (by omega) (by omega) (by assumption) | exact fun _ => nt_p (ty := 105) (by omega) (by omega) (by omega) (by assumption) | exact fun _ => nt_p (ty := 106) (by omega) (by omega) (by omega) (by assumption)), (by first | assumption | exact KR.rf), (by omega)⟩
                · refine l_aload_n rfl rfl ?_
                  refine l_iload_n rfl rfl ?_
                  refine l_bipush rfl rfl ?_
                  refine l_icmp_ne rfl rfl (by unfold rg; omega) (by unfold rg; omega) (fun w168 => ?_) (fun w169 => ?_)
                  · refine l_bipush rfl rfl ?_
                    refine l_iload_n rfl rfl ?_
                    refine l_lconst (z := 0) rfl rfl ?_
                    refine l_callV rfl rfl rfl (t_to_note__f hH 106 p 0 ⟨by omega, by omega⟩ ⟨by omega, by omega⟩ (hT) (by first | assumption | omega) (by first | assumption | omega) (by unfold rgL; omega) _) ?_
                    rintro _ T14 ⟨hHT14, w177, rfl, w172, w173, w174, w175⟩
                    have hFT14 : FR md_to_scan__f S T14 := FR.tr hF w177 rfl
                    show Rl _ _ _ _ _ [] _ _
                    refine l_iload_n rfl rfl ?_
                    refine l_iconst rfl ?_
                    refine l_iadd rfl ?_
                    refine l_ireturn rfl rfl ?_
                    have w178 : 0 ≤ Xi T14 876 7 ∧ Xi T14 876 7 ≤ 5125 := hHT14.c _ _
                    exact ⟨hHT14, hFT14, _, rfl, ⟨by omega, by omega⟩, (by first | exact hT | assumption), (by omega), (by omega), (by omega), (by first | exact q7_w he (by omega) (by assumption) | exact q7_d (by omega) ⟨by omega, by omega⟩ (by assumption) | exact q7_t (by omega) (by assumption) | exact q7_p (by omega) (by omega) | exact q7_n (by omega) (by omega) (by omega) (by omega)), (by first | exact fun q => absurd rfl q | exact nt_w he (by omega) (by assumption) (by assumption) | exact nt_d (by omega) ⟨by omega, by omega⟩ (by assumption) (by assumption) | exact nt_t (by omega) (by assumption) (by assumption) | exact fun _ => nt_p (ty := 103) (by omega) (by omega) (by omega) (by assumption) | exact fun _ => nt_p (ty := 104) (by omega) (by omega) (by omega) (by assumption) | exact fun _ => nt_p (ty := 105) (by omega) (by omega) (by omega) (by assumption) | exact fun _ => nt_p (ty := 106) (by omega) (by omega) (by omega) (by assumption)), (by first | assumption | exact KR.rf), (by omega)⟩
                  · refine l_bipush rfl rfl ?_
                    refine l_goto rfl rfl ?_
                    refine l_iload_n rfl rfl ?_
                    refine l_lconst (z := 0) rfl rfl ?_
                    refine l_callV rfl rfl rfl (t_to_note__f hH 105 p 0 ⟨by omega, by omega⟩ ⟨by omega, by omega⟩ (hT) (by first | assumption | omega) (by first | assumption | omega) (by unfold rgL; omega) _) ?_
                    rintro _ T15 ⟨hHT15, w186, rfl, w181, w182, w183, w184⟩
                    have hFT15 : FR md_to_scan__f S T15 := FR.tr hF w186 rfl
                    show Rl _ _ _ _ _ [] _ _
                    refine l_iload_n rfl rfl ?_
                    refine l_iconst rfl ?_
                    refine l_iadd rfl ?_
                    refine l_ireturn rfl rfl ?_
                    have w187 : 0 ≤ Xi T15 876 7 ∧ Xi T15 876 7 ≤ 5125 := hHT15.c _ _
                    exact ⟨hHT15, hFT15, _, rfl, ⟨by omega, by omega⟩, (by first | exact hT | assumption), (by omega), (by omega), (by omega), (by first | exact q7_w he (by omega) (by assumption) | exact q7_d (by omega) ⟨by omega, by omega⟩ (by assumption) | exact q7_t (by omega) (by assumption) | exact q7_p (by omega) (by omega) | exact q7_n (by omega) (by omega) (by omega) (by omega)), (by first | exact fun q => absurd rfl q | exact nt_w he (by omega) (by assumption) (by assumption) | exact nt_d (by omega) ⟨by omega, by omega⟩ (by assumption) (by assumption) | exact nt_t (by omega) (by assumption) (by assumption) | exact fun _ => nt_p (ty := 103) (by omega) (by omega) (by omega) (by assumption) | exact fun _ => nt_p (ty := 104) (by omega) (by omega) (by omega) (by assumption) | exact fun _ => nt_p (ty := 105) (by omega) (by omega) (by omega) (by assumption) | exact fun _ => nt_p (ty := 106) (by omega) (by omega) (by omega) (by assumption)), (by first | assumption | exact KR.rf), (by omega)⟩
            · refine l_aload_n rfl rfl ?_
              refine l_iload_n rfl rfl ?_
              refine l_bipush rfl rfl ?_
              refine l_icmp_ne rfl rfl (by unfold rg; omega) (by unfold rg; omega) (fun w188 => ?_) (fun w189 => ?_)
              · refine l_bipush rfl rfl ?_
                refine l_iload_n rfl rfl ?_
                refine l_lconst (z := 0) rfl rfl ?_
                refine l_callV rfl rfl rfl (t_to_note__f hH 104 p 0 ⟨by omega, by omega⟩ ⟨by omega, by omega⟩ (hT) (by first | assumption | omega) (by first | assumption | omega) (by unfold rgL; omega) _) ?_
                rintro _ T16 ⟨hHT16, w197, rfl, w192, w193, w194, w195⟩
                have hFT16 : FR md_to_scan__f S T16 := FR.tr hF w197 rfl
                show Rl _ _ _ _ _ [] _ _
                refine l_iload_n rfl rfl ?_
                refine l_iconst rfl ?_
                refine l_iadd rfl ?_
                refine l_ireturn rfl rfl ?_
                have w198 : 0 ≤ Xi T16 876 7 ∧ Xi T16 876 7 ≤ 5125 := hHT16.c _ _
                exact ⟨hHT16, hFT16, _, rfl, ⟨by omega, by omega⟩, (by first | exact hT | assumption), (by omega), (by omega), (by omega), (by first | exact q7_w he (by omega) (by assumption) | exact q7_d (by omega) ⟨by omega, by omega⟩ (by assumption) | exact q7_t (by omega) (by assumption) | exact q7_p (by omega) (by omega) | exact q7_n (by omega) (by omega) (by omega) (by omega)), (by first | exact fun q => absurd rfl q | exact nt_w he (by omega) (by assumption) (by assumption) | exact nt_d (by omega) ⟨by omega, by omega⟩ (by assumption) (by assumption) | exact nt_t (by omega) (by assumption) (by assumption) | exact fun _ => nt_p (ty := 103) (by omega) (by omega) (by omega) (by assumption) | exact fun _ => nt_p (ty := 104) (by omega) (by omega) (by omega) (by assumption) | exact fun _ => nt_p (ty := 105) (by omega) (by omega) (by omega) (by assumption) | exact fun _ => nt_p (ty := 106) (by omega) (by omega) (by omega) (by assumption)), (by first | assumption | exact KR.rf), (by omega)⟩
              · refine l_bipush rfl rfl ?_
                refine l_goto rfl rfl ?_
                refine l_iload_n rfl rfl ?_
                refine l_lconst (z := 0) rfl rfl ?_
                refine l_callV rfl rfl rfl (t_to_note__f hH 103 p 0 ⟨by omega, by omega⟩ ⟨by omega, by omega⟩ (hT) (by first | assumption | omega) (by first | assumption | omega) (by unfold rgL; omega) _) ?_
                rintro _ T17 ⟨hHT17, w206, rfl, w201, w202, w203, w204⟩
                have hFT17 : FR md_to_scan__f S T17 := FR.tr hF w206 rfl
                show Rl _ _ _ _ _ [] _ _
                refine l_iload_n rfl rfl ?_
                refine l_iconst rfl ?_
                refine l_iadd rfl ?_
                refine l_ireturn rfl rfl ?_
                have w207 : 0 ≤ Xi T17 876 7 ∧ Xi T17 876 7 ≤ 5125 := hHT17.c _ _
                exact ⟨hHT17, hFT17, _, rfl, ⟨by omega, by omega⟩, (by first | exact hT | assumption), (by omega), (by omega), (by omega), (by first | exact q7_w he (by omega) (by assumption) | exact q7_d (by omega) ⟨by omega, by omega⟩ (by assumption) | exact q7_t (by omega) (by assumption) | exact q7_p (by omega) (by omega) | exact q7_n (by omega) (by omega) (by omega) (by omega)), (by first | exact fun q => absurd rfl q | exact nt_w he (by omega) (by assumption) (by assumption) | exact nt_d (by omega) ⟨by omega, by omega⟩ (by assumption) (by assumption) | exact nt_t (by omega) (by assumption) (by assumption) | exact fun _ => nt_p (ty := 103) (by omega) (by omega) (by omega) (by assumption) | exact fun _ => nt_p (ty := 104) (by omega) (by omega) (by omega) (by assumption) | exact fun _ => nt_p (ty := 105) (by omega) (by omega) (by omega) (by assumption) | exact fun _ => nt_p (ty := 106) (by omega) (by omega) (by omega) (by assumption)), (by first | assumption | exact KR.rf), (by omega)⟩
        · refine l_aload_n rfl rfl ?_
          refine l_iload_n rfl rfl ?_
          refine l_callV rfl rfl rfl (t_to_scanText__f hH ts p ⟨by omega, by omega⟩ ((hF 876 4 rfl).2.2.trans hts) htp (hT) (by first | assumption | omega) (by first | assumption | omega) _) ?_
          rintro _ T18 ⟨hHT18, w219, z218, rfl, w218, w210, w211, w212, w213, w214, w215, w216, w217⟩
          have hFT18 : FR md_to_scan__f S T18 := FR.tr hF w219 rfl
          show Rl _ _ _ _ _ [iv z218] _ _
          refine l_ireturn rfl rfl ?_
          have w220 : 0 ≤ Xi T18 876 7 ∧ Xi T18 876 7 ≤ 5125 := hHT18.c _ _
          exact ⟨hHT18, hFT18, _, rfl, ⟨by omega, by omega⟩, (by first | exact hT | assumption), (by omega), (by omega), (by omega), (by first | exact q7_w he (by omega) (by assumption) | exact q7_d (by omega) ⟨by omega, by omega⟩ (by assumption) | exact q7_t (by omega) (by assumption) | exact q7_p (by omega) (by omega) | exact q7_n (by omega) (by omega) (by omega) (by omega)), (by first | exact fun q => absurd rfl q | exact nt_w he (by omega) (by assumption) (by assumption) | exact nt_d (by omega) ⟨by omega, by omega⟩ (by assumption) (by assumption) | exact nt_t (by omega) (by assumption) (by assumption) | exact fun _ => nt_p (ty := 103) (by omega) (by omega) (by omega) (by assumption) | exact fun _ => nt_p (ty := 104) (by omega) (by omega) (by omega) (by assumption) | exact fun _ => nt_p (ty := 105) (by omega) (by omega) (by omega) (by assumption) | exact fun _ => nt_p (ty := 106) (by omega) (by omega) (by omega) (by assumption)), (by first | assumption | exact KR.rf), (by omega)⟩
      · refine l_aload_n rfl rfl ?_
        refine l_iload_n rfl rfl ?_
        refine l_callV rfl rfl rfl (t_to_scanNumber__f hH ts p ⟨by omega, by omega⟩ ((hF 876 4 rfl).2.2.trans hts) htp (hT) (by first | assumption | omega) (by omega) (by first | assumption | omega) _) ?_
        rintro _ T19 ⟨hHT19, w232, z231, rfl, w231, w223, w224, w225, w226, w227, w228, w229, w230⟩
        have hFT19 : FR md_to_scan__f S T19 := FR.tr hF w232 rfl
        show Rl _ _ _ _ _ [iv z231] _ _
        refine l_ireturn rfl rfl ?_
        have w233 : 0 ≤ Xi T19 876 7 ∧ Xi T19 876 7 ≤ 5125 := hHT19.c _ _
        exact ⟨hHT19, hFT19, _, rfl, ⟨by omega, by omega⟩, (by first | exact hT | assumption), (by omega), (by omega), (by omega), (by first | exact q7_w he (by omega) (by assumption) | exact q7_d (by omega) ⟨by omega, by omega⟩ (by assumption) | exact q7_t (by omega) (by assumption) | exact q7_p (by omega) (by omega) | exact q7_n (by omega) (by omega) (by omega) (by omega)), (by first | exact fun q => absurd rfl q | exact nt_w he (by omega) (by assumption) (by assumption) | exact nt_d (by omega) ⟨by omega, by omega⟩ (by assumption) (by assumption) | exact nt_t (by omega) (by assumption) (by assumption) | exact fun _ => nt_p (ty := 103) (by omega) (by omega) (by omega) (by assumption) | exact fun _ => nt_p (ty := 104) (by omega) (by omega) (by omega) (by assumption) | exact fun _ => nt_p (ty := 105) (by omega) (by omega) (by omega) (by assumption) | exact fun _ => nt_p (ty := 106) (by omega) (by omega) (by omega) (by assumption)), (by first | assumption | exact KR.rf), (by omega)⟩
  · refine l_aload_n rfl rfl ?_
    refine l_iload_n rfl rfl ?_
    refine l_aload_n rfl rfl ?_
    refine l_gfi rfl rfl rfl rfl rfl ?_
    refine l_callV rfl rfl rfl (t_to_scanWord__f hH ts p (Xi S 876 5) ⟨by omega, by omega⟩ ⟨by omega, by omega⟩ ((hF 876 4 rfl).2.2.trans hts) htp (hT) (by first | assumption | omega) _) ?_
    rintro _ T20 ⟨hHT20, w244, z243, rfl, w243, w235, w236, w237, w238, w239, w240, w241, w242⟩
    have hFT20 : FR md_to_scan__f S T20 := FR.tr hF w244 rfl
    show Rl _ _ _ _ _ [iv z243] _ _
    refine l_ireturn rfl rfl ?_
    have w245 : 0 ≤ Xi T20 876 7 ∧ Xi T20 876 7 ≤ 5125 := hHT20.c _ _
    exact ⟨hHT20, hFT20, _, rfl, ⟨by omega, by omega⟩, (by first | exact hT | assumption), (by omega), (by omega), (by omega), (by first | exact q7_w he (by omega) (by assumption) | exact q7_d (by omega) ⟨by omega, by omega⟩ (by assumption) | exact q7_t (by omega) (by assumption) | exact q7_p (by omega) (by omega) | exact q7_n (by omega) (by omega) (by omega) (by omega)), (by first | exact fun q => absurd rfl q | exact nt_w he (by omega) (by assumption) (by assumption) | exact nt_d (by omega) ⟨by omega, by omega⟩ (by assumption) (by assumption) | exact nt_t (by omega) (by assumption) (by assumption) | exact fun _ => nt_p (ty := 103) (by omega) (by omega) (by omega) (by assumption) | exact fun _ => nt_p (ty := 104) (by omega) (by omega) (by omega) (by assumption) | exact fun _ => nt_p (ty := 105) (by omega) (by omega) (by omega) (by assumption) | exact fun _ => nt_p (ty := 106) (by omega) (by omega) (by omega) (by assumption)), (by first | assumption | exact KR.rf), (by omega)⟩
def md_to_takeDotBehindText__f : List rec := [(876, 877, 7, 8), (877, 878, 0, 100000), (878, 879, 0, 100000), (879, 880, 0, 100000)]
abbrev Q_to_takeDotBehindText__f (S : sS) (ts : Nat) (from_ : Int) : pst := fun r S1 => HI S1 ∧ FR md_to_takeDotBehindText__f S S1 ∧ (∃ z : Int, r = some (iv z) ∧ (0 ≤ z ∧ z ≤ 5000) ∧ (TOK S1) ∧ (from_ ≤ z ∧ z ≤ Xi S 876 5) ∧ (Xi S 876 7 ≤ Xi S1 876 7 ∧ Xi S1 876 7 ≤ Xi S 876 7 + 1) ∧ ((z = from_ ∧ Xi S1 876 7 = Xi S 876 7 ∧ ¬ DT7 (Xi S ts) (Xi S 876 5) from_) ∨ (z = sk7 (Xi S ts) (Xi S 876 5) from_ + 1 ∧ Xi S1 876 7 = Xi S 876 7 + 1 ∧ DT7 (Xi S ts) (Xi S 876 5) from_ ∧ NT S S1 103 (sk7 (Xi S ts) (Xi S 876 5) from_) 0)) ∧ (KR S S1 (Xi S 876 7)))
set_option maxRecDepth 100000 in
theorem t_to_takeDotBehindText__f {S : sS} (hH : HI S) (ts : Nat) (from_ : Int) (hfrom_ : 0 ≤ from_ ∧ from_ ≤ 5000) (hts : S.2.2 876 4 = some ts) (htp : tp ts) (hT : TOK S) (hrow : Xi S 876 7 ≤ 5124) (he : from_ ≤ Xi S 876 5) (d : Nat) : Mt lay0 (d + 3) m_to_takeDotBehindText [.ref 876, iv from_] S (Q_to_takeDotBehindText__f S ts from_) := by
  refine Mt_R rfl rfl ?_
  have hF : FR md_to_takeDotBehindText__f S S := FR.rf
  have w1 : 0 ≤ Xi S 876 5 ∧ Xi S 876 5 ≤ 5000 := hH.c _ _
  have w2 : 0 ≤ Xi S 876 7 ∧ Xi S 876 7 ≤ 5125 := hH.c _ _
  refine l_aload_n rfl rfl ?_
  refine l_iload_n rfl rfl ?_
  refine l_callV rfl rfl rfl (t_to_skip__f hH ts from_ ⟨by omega, by omega⟩ ((hF 876 4 rfl).2.2.trans hts) htp (by first | assumption | omega) _) ?_
  rintro _ _ ⟨rfl, z6, rfl, w6, w4, w5⟩
  show Rl _ _ _ _ _ [iv z6] _ _
  have s2 : z6 = sk7 (Xi S ts) (Xi S 876 5) from_ := by assumption
  refine l_istore_n rfl rfl rfl ?_
  refine l_iload_n rfl rfl ?_
  refine l_aload_n rfl rfl ?_
  refine l_gfi rfl rfl rfl rfl rfl ?_
  refine l_icmp_ge rfl rfl (by unfold rg; omega) (by unfold rg; omega) (fun w7 => ?_) (fun w8 => ?_)
  · refine l_iload_n rfl rfl ?_
    refine l_ireturn rfl rfl ?_
    exact ⟨hH, hF, _, rfl, ⟨by omega, by omega⟩, (by first | exact hT | assumption), (by omega), (by omega), (by first | exact Or.inr ⟨by omega, by omega, by unfold DT7; rw [← s2]; exact ⟨by omega, by omega⟩, by rw [← s2]; assumption⟩ | exact Or.inl ⟨rfl, by omega, by unfold DT7; rw [← s2]; omega⟩), (by first | assumption | exact KR.rf)⟩
  · refine l_aload_n rfl rfl ?_
    refine l_gfr rfl rfl rfl rfl rfl ((hF 876 4 rfl).2.2.trans hts) ?_
    refine l_iload_n rfl rfl ?_
    refine l_baload (n := 5000) rfl (tp_sv (by assumption)) (lay_tp (by assumption)) (by decide) (by omega) (by omega) (by unfold rg; omega) ?_
    have w11 : -128 ≤ (Xi S ts ((z6).toNat)) ∧ (Xi S ts ((z6).toNat)) ≤ 127 := tpc hH (by assumption)
    refine l_bipush rfl rfl ?_
    refine l_icmp_ne rfl rfl (by unfold rg; omega) (by unfold rg; omega) (fun w12 => ?_) (fun w13 => ?_)
    · refine l_iload_n rfl rfl ?_
      refine l_ireturn rfl rfl ?_
      exact ⟨hH, hF, _, rfl, ⟨by omega, by omega⟩, (by first | exact hT | assumption), (by omega), (by omega), (by first | exact Or.inr ⟨by omega, by omega, by unfold DT7; rw [← s2]; exact ⟨by omega, by omega⟩, by rw [← s2]; assumption⟩ | exact Or.inl ⟨rfl, by omega, by unfold DT7; rw [← s2]; omega⟩), (by first | assumption | exact KR.rf)⟩
    · refine l_aload_n rfl rfl ?_
      refine l_bipush rfl rfl ?_
      refine l_iload_n rfl rfl ?_
      refine l_lconst (z := 0) rfl rfl ?_
      refine l_callV rfl rfl rfl (t_to_note__f hH 103 z6 0 ⟨by omega, by omega⟩ ⟨by omega, by omega⟩ (hT) (by first | assumption | omega) (by first | assumption | omega) (by unfold rgL; omega) _) ?_
      rintro _ T1 ⟨hHT1, w22, rfl, w17, w18, w19, w20⟩
      have hFT1 : FR md_to_takeDotBehindText__f S T1 := FR.tr hF w22 rfl
      show Rl _ _ _ _ _ [] _ _
      refine l_iload_n rfl rfl ?_
      refine l_iconst rfl ?_
      refine l_iadd rfl ?_
      refine l_ireturn rfl rfl ?_
      have w23 : 0 ≤ Xi T1 876 7 ∧ Xi T1 876 7 ≤ 5125 := hHT1.c _ _
      exact ⟨hHT1, hFT1, _, rfl, ⟨by omega, by omega⟩, (by first | exact hT | assumption), (by omega), (by omega), (by first | exact Or.inr ⟨by omega, by omega, by unfold DT7; rw [← s2]; exact ⟨by omega, by omega⟩, by rw [← s2]; assumption⟩ | exact Or.inl ⟨rfl, by omega, by unfold DT7; rw [← s2]; omega⟩), (by first | assumption | exact KR.rf)⟩
def md_to_takeSentence__f : List rec := [(876, 877, 6, 7), (876, 877, 7, 8), (877, 878, 0, 100000), (878, 879, 0, 100000), (879, 880, 0, 100000)]
abbrev Q_to_takeSentence__f (S : sS) (ts : Nat) (from_ : Int) : pst := fun r S1 => HI S1 ∧ FR md_to_takeSentence__f S S1 ∧ (∃ z : Int, r = some (iv z) ∧ (0 ≤ z ∧ z ≤ 5000) ∧ (TOK S1) ∧ (from_ ≤ z ∧ z ≤ Xi S 876 5) ∧ (Xi S1 876 6 = Xi S1 876 7) ∧ (Xi S1 876 7 ≤ 5002) ∧ (1 ≤ Xi S1 876 7) ∧ (SEN S1 ts from_ z))
set_option maxRecDepth 100000 in
theorem t_to_takeSentence__f {S : sS} (hH : HI S) (ts : Nat) (from_ : Int) (hfrom_ : 0 ≤ from_ ∧ from_ ≤ 5000) (hts : S.2.2 876 4 = some ts) (htp : tp ts) (he : from_ < Xi S 876 5) (d : Nat) : Mt lay0 (d + 4) m_to_takeSentence [.ref 876, iv from_] S (Q_to_takeSentence__f S ts from_) := by
  refine Mt_R rfl rfl ?_
  have hF : FR md_to_takeSentence__f S S := FR.rf
  have w1 : 0 ≤ Xi S 876 5 ∧ Xi S 876 5 ≤ 5000 := hH.c _ _
  have w2 : 0 ≤ Xi S 876 7 ∧ Xi S 876 7 ≤ 5125 := hH.c _ _
  have C9 : ∀ (n9 : Nat) (T1 : sS) (_ : HI T1) (_ : FR md_to_takeSentence__f S T1) (v2 : Int) (v3 : Int), (0 ≤ v2 ∧ v2 ≤ 5000) → (0 ≤ v3 ∧ v3 ≤ 1) → (TOK T1) → (from_ ≤ v2 ∧ v2 ≤ Xi T1 876 5) → (Xi T1 876 5 = Xi S 876 5) → (Xi T1 876 7 ≤ v2) → (v3 = 1 ∨ 1 ≤ Xi T1 876 7) → (Xi T1 876 7 = 0 → v2 = from_) → (SC T1 ts from_ (Xi T1 876 7)) → (v3 = 1 → 0 < Xi T1 876 7 → OP7 T1 ts (Xi T1 876 7) v2) → (v3 = 0 → CL7 T1 ts v2) → n9 = (5001 - v2).toNat → Rl lay0 (d + 3) m_to_takeSentence 9 [(0, .ref 876), (2, iv v2), (3, iv v3)] [] T1 (Q_to_takeSentence__f S ts from_) := by
    intro n9
    induction n9 using Nat.strongRecOn with
    | ind n9 ih9 =>
      intro T1 hHT1 hFT1 v2 v3 w3 w4 hT9 w5 w6 w7 w8 w9 hS9 ho9 hc9 hm9
      have w10 : Xi T1 876 5 = Xi S 876 5 := hFT1.x _ _ rfl
      have w11 : 0 ≤ Xi T1 876 5 ∧ Xi T1 876 5 ≤ 5000 := hHT1.c _ _
      have w12 : 0 ≤ Xi T1 876 7 ∧ Xi T1 876 7 ≤ 5125 := hHT1.c _ _
      have C48 : ∀  (T2 : sS) (_ : HI T2) (_ : FR md_to_takeSentence__f S T2) (v4 : Int), (0 ≤ v4 ∧ v4 ≤ 5000) → (TOK T2) → (from_ ≤ v2 ∧ v2 < v4 ∧ v4 ≤ Xi T2 876 5) → (Xi T2 876 5 = Xi S 876 5) → (1 ≤ Xi T2 876 7 ∧ Xi T2 876 7 ≤ v4) → (SC T2 ts from_ (Xi T2 876 7)) → (Xi T2 878 (Xi T2 876 7 - 1).toNat = v2) → (CQ7 T2 ts v2 v4) → ((5001 - v2).toNat ≤ n9) → Rl lay0 (d + 3) m_to_takeSentence 48 [(0, .ref 876), (4, iv v4)] [] T2 (Q_to_takeSentence__f S ts from_) := by
        intro T2 hHT2 hFT2 v4 w13 hT48 w14 w15 w16 hS48 hl48 hq48 w17
        have w18 : Xi T2 876 5 = Xi S 876 5 := hFT2.x _ _ rfl
        have w19 : 0 ≤ Xi T2 876 5 ∧ Xi T2 876 5 ≤ 5000 := hHT2.c _ _
        have w20 : 0 ≤ Xi T2 876 7 ∧ Xi T2 876 7 ≤ 5125 := hHT2.c _ _
        refine l_aload_n rfl rfl ?_
        refine l_gfr rfl rfl rfl rfl rfl (hHT2.r 876 0 877 rfl) ?_
        refine l_aload_n rfl rfl ?_
        refine l_gfi rfl rfl rfl rfl rfl ?_
        refine l_iconst rfl ?_
        refine l_isub rfl ?_
        refine l_iaload (n := 5130) rfl rfl (by omega) (by omega) (by unfold rg; omega) ?_
        have w21 : 0 ≤ (Xi T2 877 ((((Xi T2 876 7) - 1)).toNat)) ∧ (Xi T2 877 ((((Xi T2 876 7) - 1)).toNat)) ≤ 108 := hHT2.c _ _
        refine l_istore rfl rfl rfl ?_
        refine l_iload rfl rfl ?_
        refine l_istore_n rfl rfl rfl ?_
        refine l_iload rfl rfl ?_
        refine l_bipush rfl rfl ?_
        refine l_icmp_eq rfl rfl (by unfold rg; omega) (by unfold rg; omega) (fun w22 => ?_) (fun w23 => ?_)
        · refine l_iconst rfl ?_
          refine l_istore_n rfl rfl rfl ?_
          refine l_iload_n rfl rfl ?_
          refine l_if_eq rfl rfl (by unfold rg; omega) (fun w24 => ?_) (fun w25 => absurd w25 (by omega))
          · refine l_goto rfl rfl ?_
            exact Rl_weak (ih9 _ (by omega) T2 hHT2 hFT2 (v4) (0) (by omega) (by omega) (by first | assumption | exact (by assumption : TOK T2)) (by omega) (by omega) (by omega) (by omega) (by omega) (by first | exact SC.z (by omega) | exact hS48) (by first | exact fun a b => absurd b (by omega) | exact fun a b => absurd a (by omega) | exact fun _ _ => OP7_of hl48 hq48 (by assumption) (by omega) (by omega) (by omega)) (by first | exact fun a => absurd a (by omega) | exact fun _ => CL7_of (by omega) hl48 hq48 (by omega)) rfl) (And.intro rfl (And.intro rfl (And.intro rfl (True.intro))))
        · refine l_iload rfl rfl ?_
          refine l_bipush rfl rfl ?_
          refine l_icmp_eq rfl rfl (by unfold rg; omega) (by unfold rg; omega) (fun w28 => ?_) (fun w29 => ?_)
          · refine l_iconst rfl ?_
            refine l_istore_n rfl rfl rfl ?_
            refine l_iload_n rfl rfl ?_
            refine l_if_eq rfl rfl (by unfold rg; omega) (fun w30 => ?_) (fun w31 => absurd w31 (by omega))
            · refine l_goto rfl rfl ?_
              exact Rl_weak (ih9 _ (by omega) T2 hHT2 hFT2 (v4) (0) (by omega) (by omega) (by first | assumption | exact (by assumption : TOK T2)) (by omega) (by omega) (by omega) (by omega) (by omega) (by first | exact SC.z (by omega) | exact hS48) (by first | exact fun a b => absurd b (by omega) | exact fun a b => absurd a (by omega) | exact fun _ _ => OP7_of hl48 hq48 (by assumption) (by omega) (by omega) (by omega)) (by first | exact fun a => absurd a (by omega) | exact fun _ => CL7_of (by omega) hl48 hq48 (by omega)) rfl) (And.intro rfl (And.intro rfl (And.intro rfl (True.intro))))
          · refine l_iload rfl rfl ?_
            refine l_bipush rfl rfl ?_
            refine l_icmp_ne rfl rfl (by unfold rg; omega) (by unfold rg; omega) (fun w34 => ?_) (fun w35 => ?_)
            · refine l_iconst rfl ?_
              refine l_goto rfl rfl ?_
              refine l_istore_n rfl rfl rfl ?_
              refine l_iload_n rfl rfl ?_
              refine l_if_eq rfl rfl (by unfold rg; omega) (fun w36 => absurd w36 (by omega)) (fun w37 => ?_)
              · refine l_aload_n rfl rfl ?_
                refine l_iload_n rfl rfl ?_
                refine l_callV rfl rfl rfl (t_to_skip__f hHT2 ts v4 ⟨by omega, by omega⟩ ((hFT2 876 4 rfl).2.2.trans hts) htp (by first | assumption | omega) _) ?_
                rintro _ _ ⟨rfl, z41, rfl, w41, w39, w40⟩
                show Rl _ _ _ _ _ [iv z41] _ _
                refine l_istore_n rfl rfl rfl ?_
                refine l_goto rfl rfl ?_
                exact Rl_weak (ih9 _ (by omega) T2 hHT2 hFT2 (z41) (1) (by omega) (by omega) (by first | assumption | exact (by assumption : TOK T2)) (by omega) (by omega) (by omega) (by omega) (by omega) (by first | exact SC.z (by omega) | exact hS48) (by first | exact fun a b => absurd b (by omega) | exact fun a b => absurd a (by omega) | exact fun _ _ => OP7_of hl48 hq48 (by assumption) (by omega) (by omega) (by omega)) (by first | exact fun a => absurd a (by omega) | exact fun _ => CL7_of (by omega) hl48 hq48 (by omega)) rfl) (And.intro rfl (And.intro rfl (And.intro rfl (True.intro))))
            · refine l_aload_n rfl rfl ?_
              refine l_gfi rfl rfl rfl rfl rfl ?_
              refine l_iconst rfl ?_
              refine l_icmp_eq rfl rfl (by unfold rg; omega) (by unfold rg; omega) (fun w44 => ?_) (fun w45 => ?_)
              · refine l_iconst rfl ?_
                refine l_istore_n rfl rfl rfl ?_
                refine l_iload_n rfl rfl ?_
                refine l_if_eq rfl rfl (by unfold rg; omega) (fun w46 => ?_) (fun w47 => absurd w47 (by omega))
                · refine l_goto rfl rfl ?_
                  exact Rl_weak (ih9 _ (by omega) T2 hHT2 hFT2 (v4) (0) (by omega) (by omega) (by first | assumption | exact (by assumption : TOK T2)) (by omega) (by omega) (by omega) (by omega) (by omega) (by first | exact SC.z (by omega) | exact hS48) (by first | exact fun a b => absurd b (by omega) | exact fun a b => absurd a (by omega) | exact fun _ _ => OP7_of hl48 hq48 (by assumption) (by omega) (by omega) (by omega)) (by first | exact fun a => absurd a (by omega) | exact fun _ => CL7_of (by omega) hl48 hq48 (by omega)) rfl) (And.intro rfl (And.intro rfl (And.intro rfl (True.intro))))
              · refine l_iconst rfl ?_
                refine l_goto rfl rfl ?_
                refine l_istore_n rfl rfl rfl ?_
                refine l_iload_n rfl rfl ?_
                refine l_if_eq rfl rfl (by unfold rg; omega) (fun w50 => absurd w50 (by omega)) (fun w51 => ?_)
                · refine l_aload_n rfl rfl ?_
                  refine l_iload_n rfl rfl ?_
                  refine l_callV rfl rfl rfl (t_to_skip__f hHT2 ts v4 ⟨by omega, by omega⟩ ((hFT2 876 4 rfl).2.2.trans hts) htp (by first | assumption | omega) _) ?_
                  rintro _ _ ⟨rfl, z55, rfl, w55, w53, w54⟩
                  show Rl _ _ _ _ _ [iv z55] _ _
                  refine l_istore_n rfl rfl rfl ?_
                  refine l_goto rfl rfl ?_
                  exact Rl_weak (ih9 _ (by omega) T2 hHT2 hFT2 (z55) (1) (by omega) (by omega) (by first | assumption | exact (by assumption : TOK T2)) (by omega) (by omega) (by omega) (by omega) (by omega) (by first | exact SC.z (by omega) | exact hS48) (by first | exact fun a b => absurd b (by omega) | exact fun a b => absurd a (by omega) | exact fun _ _ => OP7_of hl48 hq48 (by assumption) (by omega) (by omega) (by omega)) (by first | exact fun a => absurd a (by omega) | exact fun _ => CL7_of (by omega) hl48 hq48 (by omega)) rfl) (And.intro rfl (And.intro rfl (And.intro rfl (True.intro))))
      refine l_iload_n rfl rfl ?_
      refine l_aload_n rfl rfl ?_
      refine l_gfi rfl rfl rfl rfl rfl ?_
      refine l_icmp_ge rfl rfl (by unfold rg; omega) (by unfold rg; omega) (fun w58 => ?_) (fun w59 => ?_)
      · refine l_iload_n rfl rfl ?_
        refine l_if_eq rfl rfl (by unfold rg; omega) (fun w60 => ?_) (fun w61 => ?_)
        · refine l_aload_n rfl rfl ?_
          refine l_gfr rfl rfl rfl rfl rfl (hHT1.r 876 0 877 rfl) ?_
          refine l_iconst rfl ?_
          refine l_iaload (n := 5130) rfl rfl (by omega) (by omega) (by unfold rg; omega) ?_
          have w62 : 0 ≤ (Xi T1 877 ((0 : Int).toNat)) ∧ (Xi T1 877 ((0 : Int).toNat)) ≤ 108 := hHT1.c _ _
          have w63 : (Xi T1 877 ((0 : Int).toNat)) = Xi T1 877 0 := rfl
          have x132 : (Xi T1 877 ((0 : Int).toNat)) = Xi T1 877 0 := rfl
          refine l_bipush rfl rfl ?_
          refine l_icmp_ne rfl rfl (by unfold rg; omega) (by unfold rg; omega) (fun w64 => ?_) (fun w65 => ?_)
          · refine l_aload_n rfl rfl ?_
            refine l_aload_n rfl rfl ?_
            refine l_gfi rfl rfl rfl rfl rfl ?_
            refine l_pfi rfl rfl rfl rfl ?_
            obtain ⟨U3, eU3⟩ : ∃ T : sS, T = uI T1 876 6 (Int32.ofInt (Xi T1 876 7)) := ⟨_, rfl⟩
            rw [← eU3]
            have hHU3 : HI U3 := by rw [eU3]; exact HI_w hHT1 (show 0 ≤ (Xi T1 876 7) by omega) (show (Xi T1 876 7) ≤ 5002 by omega)
            have hFU3 : FR md_to_takeSentence__f S U3 := by rw [eU3]; exact FR.wI hFT1 (mdf_i (r := (876, 877, 6, 7)) (List.mem_of_getElem? (i := 0) rfl) (inR_i (by omega) (by omega) (by omega) (by omega)))
            have w66 : Xi U3 876 6 = (Xi T1 876 7) := by rw [eU3]; exact Xi_same (by unfold rg; omega)
            refine l_iload_n rfl rfl ?_
            refine l_ireturn rfl rfl ?_
            have w67 : 0 ≤ Xi U3 876 6 ∧ Xi U3 876 6 ≤ 5002 := hHU3.c _ _
            have w68 : Xi U3 876 7 = Xi T1 876 7 := (show Xi U3 876 7 = Xi T1 876 7 from by rw [eU3]; exact Xi_ne (by omega))
            exact ⟨hHU3, hFU3, _, rfl, ⟨by omega, by omega⟩, (TOK_w6 eU3 (by assumption)), (by omega), (by omega), (by omega), (by omega), (SEN_w htp eU3 (by first | exact n148 | exact n124 | exact Or.inl ⟨hS9, hc9 (by omega), fun a b => absurd b (by omega)⟩ | exact Or.inl ⟨hS9, hc9 (by omega), fun a b => absurd a (by omega)⟩))⟩
          · refine l_aload_n rfl rfl ?_
            refine l_gfi rfl rfl rfl rfl rfl ?_
            refine l_iconst rfl ?_
            refine l_icmp_ne rfl rfl (by unfold rg; omega) (by unfold rg; omega) (fun w70 => ?_) (fun w71 => ?_)
            · refine l_aload_n rfl rfl ?_
              refine l_aload_n rfl rfl ?_
              refine l_gfi rfl rfl rfl rfl rfl ?_
              refine l_pfi rfl rfl rfl rfl ?_
              obtain ⟨U4, eU4⟩ : ∃ T : sS, T = uI T1 876 6 (Int32.ofInt (Xi T1 876 7)) := ⟨_, rfl⟩
              rw [← eU4]
              have hHU4 : HI U4 := by rw [eU4]; exact HI_w hHT1 (show 0 ≤ (Xi T1 876 7) by omega) (show (Xi T1 876 7) ≤ 5002 by omega)
              have hFU4 : FR md_to_takeSentence__f S U4 := by rw [eU4]; exact FR.wI hFT1 (mdf_i (r := (876, 877, 6, 7)) (List.mem_of_getElem? (i := 0) rfl) (inR_i (by omega) (by omega) (by omega) (by omega)))
              have w72 : Xi U4 876 6 = (Xi T1 876 7) := by rw [eU4]; exact Xi_same (by unfold rg; omega)
              refine l_iload_n rfl rfl ?_
              refine l_ireturn rfl rfl ?_
              have w73 : 0 ≤ Xi U4 876 6 ∧ Xi U4 876 6 ≤ 5002 := hHU4.c _ _
              have w74 : Xi U4 876 7 = Xi T1 876 7 := (show Xi U4 876 7 = Xi T1 876 7 from by rw [eU4]; exact Xi_ne (by omega))
              exact ⟨hHU4, hFU4, _, rfl, ⟨by omega, by omega⟩, (TOK_w6 eU4 (by assumption)), (by omega), (by omega), (by omega), (by omega), (SEN_w htp eU4 (by first | exact n148 | exact n124 | exact Or.inl ⟨hS9, hc9 (by omega), fun a b => absurd b (by omega)⟩ | exact Or.inl ⟨hS9, hc9 (by omega), fun a b => absurd a (by omega)⟩))⟩
            · refine l_aload_n rfl rfl ?_
              refine l_iload_n rfl rfl ?_
              refine l_callV rfl rfl rfl (t_to_takeDotBehindText__f hHT1 ts v2 ⟨by omega, by omega⟩ ((hFT1 876 4 rfl).2.2.trans hts) htp (by first | assumption | exact (by assumption : TOK T1)) (by first | assumption | omega) (by first | assumption | omega) _) ?_
              rintro _ T5 ⟨hHT5, w84, z83, rfl, w83, w78, w79, w80, w81, w82⟩
              have hFT5 : FR md_to_takeSentence__f S T5 := FR.tr hFT1 w84 rfl
              show Rl _ _ _ _ _ [iv z83] _ _
              have B148 : Xi T5 ts = Xi T1 ts := FRB (by assumption : FR md_to_takeDotBehindText__f T1 T5) rfl htp
              have K148 : Xj T5 880 = Xj T1 880 := FRK (by assumption : FR md_to_takeDotBehindText__f T1 T5) rfl
              have E148 : Xi T5 876 5 = Xi T1 876 5 := (by assumption : FR md_to_takeDotBehindText__f T1 T5).x _ _ rfl
              have n148 : SEN T5 ts from_ z83 := by first | exact SEN_dot hS9 (hc9 (by omega)) (by omega) (by omega) (by assumption) B148 E148 K148 (by assumption) | (exfalso; omega)
              refine l_istore_n rfl rfl rfl ?_
              refine l_aload_n rfl rfl ?_
              refine l_aload_n rfl rfl ?_
              refine l_gfi rfl rfl rfl rfl rfl ?_
              have w85 : 0 ≤ (Xi T5 876 7) ∧ (Xi T5 876 7) ≤ 5125 := hHT5.c _ _
              refine l_pfi rfl rfl rfl rfl ?_
              obtain ⟨U6, eU6⟩ : ∃ T : sS, T = uI T5 876 6 (Int32.ofInt (Xi T5 876 7)) := ⟨_, rfl⟩
              rw [← eU6]
              have hHU6 : HI U6 := by rw [eU6]; exact HI_w hHT5 (show 0 ≤ (Xi T5 876 7) by omega) (show (Xi T5 876 7) ≤ 5002 by omega)
              have hFU6 : FR md_to_takeSentence__f S U6 := by rw [eU6]; exact FR.wI hFT5 (mdf_i (r := (876, 877, 6, 7)) (List.mem_of_getElem? (i := 0) rfl) (inR_i (by omega) (by omega) (by omega) (by omega)))
              have w86 : Xi U6 876 6 = (Xi T5 876 7) := by rw [eU6]; exact Xi_same (by unfold rg; omega)
              refine l_iload_n rfl rfl ?_
              refine l_ireturn rfl rfl ?_
              have w87 : 0 ≤ Xi U6 876 6 ∧ Xi U6 876 6 ≤ 5002 := hHU6.c _ _
              have w88 : Xi U6 876 7 = Xi T5 876 7 := (show Xi U6 876 7 = Xi T5 876 7 from by rw [eU6]; exact Xi_ne (by omega))
              have w89 : 0 ≤ Xi T5 876 7 ∧ Xi T5 876 7 ≤ 5125 := hHT5.c _ _
              exact ⟨hHU6, hFU6, _, rfl, ⟨by omega, by omega⟩, (TOK_w6 eU6 (by assumption)), (by omega), (by omega), (by omega), (by omega), (SEN_w htp eU6 (by first | exact n148 | exact n124 | exact Or.inl ⟨hS9, hc9 (by omega), fun a b => absurd b (by omega)⟩ | exact Or.inl ⟨hS9, hc9 (by omega), fun a b => absurd a (by omega)⟩))⟩
        · refine l_aload_n rfl rfl ?_
          refine l_bipush rfl rfl ?_
          refine l_aload_n rfl rfl ?_
          refine l_gfi rfl rfl rfl rfl rfl ?_
          refine l_lconst (z := 0) rfl rfl ?_
          refine l_callV rfl rfl rfl (t_to_note__f hHT1 107 (Xi T1 876 5) 0 ⟨by omega, by omega⟩ ⟨by omega, by omega⟩ (by first | assumption | exact (by assumption : TOK T1)) (by first | assumption | omega) (by first | assumption | omega) (by unfold rgL; omega) _) ?_
          rintro _ T7 ⟨hHT7, w97, rfl, w92, w93, w94, w95⟩
          have hFT7 : FR md_to_takeSentence__f S T7 := FR.tr hFT1 w97 rfl
          show Rl _ _ _ _ _ [] _ _
          have B124 : Xi T7 ts = Xi T1 ts := FRB (by assumption : FR md_to_note__f T1 T7) rfl htp
          have K124 : Xj T7 880 = Xj T1 880 := FRK (by assumption : FR md_to_note__f T1 T7) rfl
          have E124 : Xi T7 876 5 = Xi T1 876 5 := (by assumption : FR md_to_note__f T1 T7).x _ _ rfl
          have n124 : SEN T7 ts from_ v2 := SEN_end hS9 (ho9 (by omega) (by omega)) (by assumption) B124 E124 K124 (by assumption) (by omega) (by omega) (by omega)
          refine l_aload_n rfl rfl ?_
          refine l_gfr rfl rfl rfl rfl rfl (hHT7.r 876 0 877 rfl) ?_
          refine l_iconst rfl ?_
          refine l_iaload (n := 5130) rfl rfl (by omega) (by omega) (by unfold rg; omega) ?_
          have w98 : 0 ≤ (Xi T7 877 ((0 : Int).toNat)) ∧ (Xi T7 877 ((0 : Int).toNat)) ≤ 108 := hHT7.c _ _
          have w99 : (Xi T7 877 ((0 : Int).toNat)) = Xi T7 877 0 := rfl
          have x132 : (Xi T7 877 ((0 : Int).toNat)) = Xi T7 877 0 := rfl
          refine l_bipush rfl rfl ?_
          refine l_icmp_ne rfl rfl (by unfold rg; omega) (by unfold rg; omega) (fun w100 => ?_) (fun w101 => ?_)
          · refine l_aload_n rfl rfl ?_
            refine l_aload_n rfl rfl ?_
            refine l_gfi rfl rfl rfl rfl rfl ?_
            have w102 : 0 ≤ (Xi T7 876 7) ∧ (Xi T7 876 7) ≤ 5125 := hHT7.c _ _
            refine l_pfi rfl rfl rfl rfl ?_
            obtain ⟨U8, eU8⟩ : ∃ T : sS, T = uI T7 876 6 (Int32.ofInt (Xi T7 876 7)) := ⟨_, rfl⟩
            rw [← eU8]
            have hHU8 : HI U8 := by rw [eU8]; exact HI_w hHT7 (show 0 ≤ (Xi T7 876 7) by omega) (show (Xi T7 876 7) ≤ 5002 by omega)
            have hFU8 : FR md_to_takeSentence__f S U8 := by rw [eU8]; exact FR.wI hFT7 (mdf_i (r := (876, 877, 6, 7)) (List.mem_of_getElem? (i := 0) rfl) (inR_i (by omega) (by omega) (by omega) (by omega)))
            have w103 : Xi U8 876 6 = (Xi T7 876 7) := by rw [eU8]; exact Xi_same (by unfold rg; omega)
            refine l_iload_n rfl rfl ?_
            refine l_ireturn rfl rfl ?_
            have w104 : 0 ≤ Xi U8 876 6 ∧ Xi U8 876 6 ≤ 5002 := hHU8.c _ _
            have w105 : Xi U8 876 7 = Xi T7 876 7 := (show Xi U8 876 7 = Xi T7 876 7 from by rw [eU8]; exact Xi_ne (by omega))
            have w106 : 0 ≤ Xi T7 876 7 ∧ Xi T7 876 7 ≤ 5125 := hHT7.c _ _
            exact ⟨hHU8, hFU8, _, rfl, ⟨by omega, by omega⟩, (TOK_w6 eU8 (by assumption)), (by omega), (by omega), (by omega), (by omega), (SEN_w htp eU8 (by first | exact n148 | exact n124 | exact Or.inl ⟨hS9, hc9 (by omega), fun a b => absurd b (by omega)⟩ | exact Or.inl ⟨hS9, hc9 (by omega), fun a b => absurd a (by omega)⟩))⟩
          · refine l_aload_n rfl rfl ?_
            refine l_gfi rfl rfl rfl rfl rfl ?_
            have w107 : 0 ≤ (Xi T7 876 7) ∧ (Xi T7 876 7) ≤ 5125 := hHT7.c _ _
            refine l_iconst rfl ?_
            refine l_icmp_ne rfl rfl (by unfold rg; omega) (by unfold rg; omega) (fun w108 => ?_) (fun w109 => ?_)
            · refine l_aload_n rfl rfl ?_
              refine l_aload_n rfl rfl ?_
              refine l_gfi rfl rfl rfl rfl rfl ?_
              refine l_pfi rfl rfl rfl rfl ?_
              obtain ⟨U9, eU9⟩ : ∃ T : sS, T = uI T7 876 6 (Int32.ofInt (Xi T7 876 7)) := ⟨_, rfl⟩
              rw [← eU9]
              have hHU9 : HI U9 := by rw [eU9]; exact HI_w hHT7 (show 0 ≤ (Xi T7 876 7) by omega) (show (Xi T7 876 7) ≤ 5002 by omega)
              have hFU9 : FR md_to_takeSentence__f S U9 := by rw [eU9]; exact FR.wI hFT7 (mdf_i (r := (876, 877, 6, 7)) (List.mem_of_getElem? (i := 0) rfl) (inR_i (by omega) (by omega) (by omega) (by omega)))
              have w110 : Xi U9 876 6 = (Xi T7 876 7) := by rw [eU9]; exact Xi_same (by unfold rg; omega)
              refine l_iload_n rfl rfl ?_
              refine l_ireturn rfl rfl ?_
              have w111 : 0 ≤ Xi U9 876 6 ∧ Xi U9 876 6 ≤ 5002 := hHU9.c _ _
              have w112 : Xi U9 876 7 = Xi T7 876 7 := (show Xi U9 876 7 = Xi T7 876 7 from by rw [eU9]; exact Xi_ne (by omega))
              have w113 : 0 ≤ Xi T7 876 7 ∧ Xi T7 876 7 ≤ 5125 := hHT7.c _ _
              exact ⟨hHU9, hFU9, _, rfl, ⟨by omega, by omega⟩, (TOK_w6 eU9 (by assumption)), (by omega), (by omega), (by omega), (by omega), (SEN_w htp eU9 (by first | exact n148 | exact n124 | exact Or.inl ⟨hS9, hc9 (by omega), fun a b => absurd b (by omega)⟩ | exact Or.inl ⟨hS9, hc9 (by omega), fun a b => absurd a (by omega)⟩))⟩
            · refine l_aload_n rfl rfl ?_
              refine l_iload_n rfl rfl ?_
              have w114 : Xi T7 876 5 = Xi T1 876 5 := (show Xi T7 876 5 = Xi T1 876 5 from w97.x _ _ rfl)
              have w116 : 0 ≤ Xi T7 876 7 ∧ Xi T7 876 7 ≤ 5125 := hHT7.c _ _
              refine l_callV rfl rfl rfl (t_to_takeDotBehindText__f hHT7 ts v2 ⟨by omega, by omega⟩ ((hFT7 876 4 rfl).2.2.trans hts) htp (by first | assumption | exact (by assumption : TOK T7)) (by first | assumption | omega) (by first | assumption | omega) _) ?_
              rintro _ T10 ⟨hHT10, w123, z122, rfl, w122, w117, w118, w119, w120, w121⟩
              have hFT10 : FR md_to_takeSentence__f S T10 := FR.tr hFT7 w123 rfl
              show Rl _ _ _ _ _ [iv z122] _ _
              have B148 : Xi T10 ts = Xi T7 ts := FRB (by assumption : FR md_to_takeDotBehindText__f T7 T10) rfl htp
              have K148 : Xj T10 880 = Xj T7 880 := FRK (by assumption : FR md_to_takeDotBehindText__f T7 T10) rfl
              have E148 : Xi T10 876 5 = Xi T7 876 5 := (by assumption : FR md_to_takeDotBehindText__f T7 T10).x _ _ rfl
              have n148 : SEN T10 ts from_ z122 := by first | exact SEN_dot hS9 (hc9 (by omega)) (by omega) (by omega) (by assumption) B148 E148 K148 (by assumption) | (exfalso; omega)
              refine l_istore_n rfl rfl rfl ?_
              refine l_aload_n rfl rfl ?_
              refine l_aload_n rfl rfl ?_
              refine l_gfi rfl rfl rfl rfl rfl ?_
              have w124 : 0 ≤ (Xi T10 876 7) ∧ (Xi T10 876 7) ≤ 5125 := hHT10.c _ _
              refine l_pfi rfl rfl rfl rfl ?_
              obtain ⟨U11, eU11⟩ : ∃ T : sS, T = uI T10 876 6 (Int32.ofInt (Xi T10 876 7)) := ⟨_, rfl⟩
              rw [← eU11]
              have hHU11 : HI U11 := by rw [eU11]; exact HI_w hHT10 (show 0 ≤ (Xi T10 876 7) by omega) (show (Xi T10 876 7) ≤ 5002 by omega)
              have hFU11 : FR md_to_takeSentence__f S U11 := by rw [eU11]; exact FR.wI hFT10 (mdf_i (r := (876, 877, 6, 7)) (List.mem_of_getElem? (i := 0) rfl) (inR_i (by omega) (by omega) (by omega) (by omega)))
              have w125 : Xi U11 876 6 = (Xi T10 876 7) := by rw [eU11]; exact Xi_same (by unfold rg; omega)
              refine l_iload_n rfl rfl ?_
              refine l_ireturn rfl rfl ?_
              have w126 : 0 ≤ Xi U11 876 6 ∧ Xi U11 876 6 ≤ 5002 := hHU11.c _ _
              have w127 : Xi U11 876 7 = Xi T10 876 7 := (show Xi U11 876 7 = Xi T10 876 7 from by rw [eU11]; exact Xi_ne (by omega))
              have w128 : 0 ≤ Xi T10 876 7 ∧ Xi T10 876 7 ≤ 5125 := hHT10.c _ _
              exact ⟨hHU11, hFU11, _, rfl, ⟨by omega, by omega⟩, (TOK_w6 eU11 (by assumption)), (by omega), (by omega), (by omega), (by omega), (SEN_w htp eU11 (by first | exact n148 | exact n124 | exact Or.inl ⟨hS9, hc9 (by omega), fun a b => absurd b (by omega)⟩ | exact Or.inl ⟨hS9, hc9 (by omega), fun a b => absurd a (by omega)⟩))⟩
      · refine l_iload_n rfl rfl ?_
        refine l_if_eq rfl rfl (by unfold rg; omega) (fun w129 => ?_) (fun w130 => ?_)
        · refine l_iload_n rfl rfl ?_
          refine l_if_eq rfl rfl (by unfold rg; omega) (fun w131 => ?_) (fun w132 => ?_)
          · refine l_aload_n rfl rfl ?_
            refine l_gfr rfl rfl rfl rfl rfl (hHT1.r 876 0 877 rfl) ?_
            refine l_iconst rfl ?_
            refine l_iaload (n := 5130) rfl rfl (by omega) (by omega) (by unfold rg; omega) ?_
            have w133 : 0 ≤ (Xi T1 877 ((0 : Int).toNat)) ∧ (Xi T1 877 ((0 : Int).toNat)) ≤ 108 := hHT1.c _ _
            have w134 : (Xi T1 877 ((0 : Int).toNat)) = Xi T1 877 0 := rfl
            have x132 : (Xi T1 877 ((0 : Int).toNat)) = Xi T1 877 0 := rfl
            refine l_bipush rfl rfl ?_
            refine l_icmp_ne rfl rfl (by unfold rg; omega) (by unfold rg; omega) (fun w135 => ?_) (fun w136 => ?_)
            · refine l_aload_n rfl rfl ?_
              refine l_aload_n rfl rfl ?_
              refine l_gfi rfl rfl rfl rfl rfl ?_
              refine l_pfi rfl rfl rfl rfl ?_
              obtain ⟨U12, eU12⟩ : ∃ T : sS, T = uI T1 876 6 (Int32.ofInt (Xi T1 876 7)) := ⟨_, rfl⟩
              rw [← eU12]
              have hHU12 : HI U12 := by rw [eU12]; exact HI_w hHT1 (show 0 ≤ (Xi T1 876 7) by omega) (show (Xi T1 876 7) ≤ 5002 by omega)
              have hFU12 : FR md_to_takeSentence__f S U12 := by rw [eU12]; exact FR.wI hFT1 (mdf_i (r := (876, 877, 6, 7)) (List.mem_of_getElem? (i := 0) rfl) (inR_i (by omega) (by omega) (by omega) (by omega)))
              have w137 : Xi U12 876 6 = (Xi T1 876 7) := by rw [eU12]; exact Xi_same (by unfold rg; omega)
              refine l_iload_n rfl rfl ?_
              refine l_ireturn rfl rfl ?_
              have w138 : 0 ≤ Xi U12 876 6 ∧ Xi U12 876 6 ≤ 5002 := hHU12.c _ _
              have w139 : Xi U12 876 7 = Xi T1 876 7 := (show Xi U12 876 7 = Xi T1 876 7 from by rw [eU12]; exact Xi_ne (by omega))
              exact ⟨hHU12, hFU12, _, rfl, ⟨by omega, by omega⟩, (TOK_w6 eU12 (by assumption)), (by omega), (by omega), (by omega), (by omega), (SEN_w htp eU12 (by first | exact n148 | exact n124 | exact Or.inl ⟨hS9, hc9 (by omega), fun a b => absurd b (by omega)⟩ | exact Or.inl ⟨hS9, hc9 (by omega), fun a b => absurd a (by omega)⟩))⟩
            · refine l_aload_n rfl rfl ?_
              refine l_gfi rfl rfl rfl rfl rfl ?_
              refine l_iconst rfl ?_
              refine l_icmp_ne rfl rfl (by unfold rg; omega) (by unfold rg; omega) (fun w141 => ?_) (fun w142 => ?_)
              · refine l_aload_n rfl rfl ?_
                refine l_aload_n rfl rfl ?_
                refine l_gfi rfl rfl rfl rfl rfl ?_
                refine l_pfi rfl rfl rfl rfl ?_
                obtain ⟨U13, eU13⟩ : ∃ T : sS, T = uI T1 876 6 (Int32.ofInt (Xi T1 876 7)) := ⟨_, rfl⟩
                rw [← eU13]
                have hHU13 : HI U13 := by rw [eU13]; exact HI_w hHT1 (show 0 ≤ (Xi T1 876 7) by omega) (show (Xi T1 876 7) ≤ 5002 by omega)
                have hFU13 : FR md_to_takeSentence__f S U13 := by rw [eU13]; exact FR.wI hFT1 (mdf_i (r := (876, 877, 6, 7)) (List.mem_of_getElem? (i := 0) rfl) (inR_i (by omega) (by omega) (by omega) (by omega)))
                have w143 : Xi U13 876 6 = (Xi T1 876 7) := by rw [eU13]; exact Xi_same (by unfold rg; omega)
                refine l_iload_n rfl rfl ?_
                refine l_ireturn rfl rfl ?_
                have w144 : 0 ≤ Xi U13 876 6 ∧ Xi U13 876 6 ≤ 5002 := hHU13.c _ _
                have w145 : Xi U13 876 7 = Xi T1 876 7 := (show Xi U13 876 7 = Xi T1 876 7 from by rw [eU13]; exact Xi_ne (by omega))
                exact ⟨hHU13, hFU13, _, rfl, ⟨by omega, by omega⟩, (TOK_w6 eU13 (by assumption)), (by omega), (by omega), (by omega), (by omega), (SEN_w htp eU13 (by first | exact n148 | exact n124 | exact Or.inl ⟨hS9, hc9 (by omega), fun a b => absurd b (by omega)⟩ | exact Or.inl ⟨hS9, hc9 (by omega), fun a b => absurd a (by omega)⟩))⟩
              · refine l_aload_n rfl rfl ?_
                refine l_iload_n rfl rfl ?_
                refine l_callV rfl rfl rfl (t_to_takeDotBehindText__f hHT1 ts v2 ⟨by omega, by omega⟩ ((hFT1 876 4 rfl).2.2.trans hts) htp (by first | assumption | exact (by assumption : TOK T1)) (by first | assumption | omega) (by first | assumption | omega) _) ?_
                rintro _ T14 ⟨hHT14, w155, z154, rfl, w154, w149, w150, w151, w152, w153⟩
                have hFT14 : FR md_to_takeSentence__f S T14 := FR.tr hFT1 w155 rfl
                show Rl _ _ _ _ _ [iv z154] _ _
                have B148 : Xi T14 ts = Xi T1 ts := FRB (by assumption : FR md_to_takeDotBehindText__f T1 T14) rfl htp
                have K148 : Xj T14 880 = Xj T1 880 := FRK (by assumption : FR md_to_takeDotBehindText__f T1 T14) rfl
                have E148 : Xi T14 876 5 = Xi T1 876 5 := (by assumption : FR md_to_takeDotBehindText__f T1 T14).x _ _ rfl
                have n148 : SEN T14 ts from_ z154 := by first | exact SEN_dot hS9 (hc9 (by omega)) (by omega) (by omega) (by assumption) B148 E148 K148 (by assumption) | (exfalso; omega)
                refine l_istore_n rfl rfl rfl ?_
                refine l_aload_n rfl rfl ?_
                refine l_aload_n rfl rfl ?_
                refine l_gfi rfl rfl rfl rfl rfl ?_
                have w156 : 0 ≤ (Xi T14 876 7) ∧ (Xi T14 876 7) ≤ 5125 := hHT14.c _ _
                refine l_pfi rfl rfl rfl rfl ?_
                obtain ⟨U15, eU15⟩ : ∃ T : sS, T = uI T14 876 6 (Int32.ofInt (Xi T14 876 7)) := ⟨_, rfl⟩
                rw [← eU15]
                have hHU15 : HI U15 := by rw [eU15]; exact HI_w hHT14 (show 0 ≤ (Xi T14 876 7) by omega) (show (Xi T14 876 7) ≤ 5002 by omega)
                have hFU15 : FR md_to_takeSentence__f S U15 := by rw [eU15]; exact FR.wI hFT14 (mdf_i (r := (876, 877, 6, 7)) (List.mem_of_getElem? (i := 0) rfl) (inR_i (by omega) (by omega) (by omega) (by omega)))
                have w157 : Xi U15 876 6 = (Xi T14 876 7) := by rw [eU15]; exact Xi_same (by unfold rg; omega)
                refine l_iload_n rfl rfl ?_
                refine l_ireturn rfl rfl ?_
                have w158 : 0 ≤ Xi U15 876 6 ∧ Xi U15 876 6 ≤ 5002 := hHU15.c _ _
                have w159 : Xi U15 876 7 = Xi T14 876 7 := (show Xi U15 876 7 = Xi T14 876 7 from by rw [eU15]; exact Xi_ne (by omega))
                have w160 : 0 ≤ Xi T14 876 7 ∧ Xi T14 876 7 ≤ 5125 := hHT14.c _ _
                exact ⟨hHU15, hFU15, _, rfl, ⟨by omega, by omega⟩, (TOK_w6 eU15 (by assumption)), (by omega), (by omega), (by omega), (by omega), (SEN_w htp eU15 (by first | exact n148 | exact n124 | exact Or.inl ⟨hS9, hc9 (by omega), fun a b => absurd b (by omega)⟩ | exact Or.inl ⟨hS9, hc9 (by omega), fun a b => absurd a (by omega)⟩))⟩
          · refine l_aload_n rfl rfl ?_
            refine l_bipush rfl rfl ?_
            refine l_aload_n rfl rfl ?_
            refine l_gfi rfl rfl rfl rfl rfl ?_
            refine l_lconst (z := 0) rfl rfl ?_
            refine l_callV rfl rfl rfl (t_to_note__f hHT1 107 (Xi T1 876 5) 0 ⟨by omega, by omega⟩ ⟨by omega, by omega⟩ (by first | assumption | exact (by assumption : TOK T1)) (by first | assumption | omega) (by first | assumption | omega) (by unfold rgL; omega) _) ?_
            rintro _ T16 ⟨hHT16, w168, rfl, w163, w164, w165, w166⟩
            have hFT16 : FR md_to_takeSentence__f S T16 := FR.tr hFT1 w168 rfl
            show Rl _ _ _ _ _ [] _ _
            have B124 : Xi T16 ts = Xi T1 ts := FRB (by assumption : FR md_to_note__f T1 T16) rfl htp
            have K124 : Xj T16 880 = Xj T1 880 := FRK (by assumption : FR md_to_note__f T1 T16) rfl
            have E124 : Xi T16 876 5 = Xi T1 876 5 := (by assumption : FR md_to_note__f T1 T16).x _ _ rfl
            have n124 : SEN T16 ts from_ v2 := SEN_end hS9 (ho9 (by omega) (by omega)) (by assumption) B124 E124 K124 (by assumption) (by omega) (by omega) (by omega)
            refine l_aload_n rfl rfl ?_
            refine l_gfr rfl rfl rfl rfl rfl (hHT16.r 876 0 877 rfl) ?_
            refine l_iconst rfl ?_
            refine l_iaload (n := 5130) rfl rfl (by omega) (by omega) (by unfold rg; omega) ?_
            have w169 : 0 ≤ (Xi T16 877 ((0 : Int).toNat)) ∧ (Xi T16 877 ((0 : Int).toNat)) ≤ 108 := hHT16.c _ _
            have w170 : (Xi T16 877 ((0 : Int).toNat)) = Xi T16 877 0 := rfl
            have x132 : (Xi T16 877 ((0 : Int).toNat)) = Xi T16 877 0 := rfl
            refine l_bipush rfl rfl ?_
            refine l_icmp_ne rfl rfl (by unfold rg; omega) (by unfold rg; omega) (fun w171 => ?_) (fun w172 => ?_)
            · refine l_aload_n rfl rfl ?_
              refine l_aload_n rfl rfl ?_
              refine l_gfi rfl rfl rfl rfl rfl ?_
              have w173 : 0 ≤ (Xi T16 876 7) ∧ (Xi T16 876 7) ≤ 5125 := hHT16.c _ _
              refine l_pfi rfl rfl rfl rfl ?_
              obtain ⟨U17, eU17⟩ : ∃ T : sS, T = uI T16 876 6 (Int32.ofInt (Xi T16 876 7)) := ⟨_, rfl⟩
              rw [← eU17]
              have hHU17 : HI U17 := by rw [eU17]; exact HI_w hHT16 (show 0 ≤ (Xi T16 876 7) by omega) (show (Xi T16 876 7) ≤ 5002 by omega)
              have hFU17 : FR md_to_takeSentence__f S U17 := by rw [eU17]; exact FR.wI hFT16 (mdf_i (r := (876, 877, 6, 7)) (List.mem_of_getElem? (i := 0) rfl) (inR_i (by omega) (by omega) (by omega) (by omega)))
              have w174 : Xi U17 876 6 = (Xi T16 876 7) := by rw [eU17]; exact Xi_same (by unfold rg; omega)
              refine l_iload_n rfl rfl ?_
              refine l_ireturn rfl rfl ?_
              have w175 : 0 ≤ Xi U17 876 6 ∧ Xi U17 876 6 ≤ 5002 := hHU17.c _ _
              have w176 : Xi U17 876 7 = Xi T16 876 7 := (show Xi U17 876 7 = Xi T16 876 7 from by rw [eU17]; exact Xi_ne (by omega))
              have w177 : 0 ≤ Xi T16 876 7 ∧ Xi T16 876 7 ≤ 5125 := hHT16.c _ _
              exact ⟨hHU17, hFU17, _, rfl, ⟨by omega, by omega⟩, (TOK_w6 eU17 (by assumption)), (by omega), (by omega), (by omega), (by omega), (SEN_w htp eU17 (by first | exact n148 | exact n124 | exact Or.inl ⟨hS9, hc9 (by omega), fun a b => absurd b (by omega)⟩ | exact Or.inl ⟨hS9, hc9 (by omega), fun a b => absurd a (by omega)⟩))⟩
            · refine l_aload_n rfl rfl ?_
              refine l_gfi rfl rfl rfl rfl rfl ?_
              have w178 : 0 ≤ (Xi T16 876 7) ∧ (Xi T16 876 7) ≤ 5125 := hHT16.c _ _
              refine l_iconst rfl ?_
              refine l_icmp_ne rfl rfl (by unfold rg; omega) (by unfold rg; omega) (fun w179 => ?_) (fun w180 => ?_)
              · refine l_aload_n rfl rfl ?_
                refine l_aload_n rfl rfl ?_
                refine l_gfi rfl rfl rfl rfl rfl ?_
                refine l_pfi rfl rfl rfl rfl ?_
                obtain ⟨U18, eU18⟩ : ∃ T : sS, T = uI T16 876 6 (Int32.ofInt (Xi T16 876 7)) := ⟨_, rfl⟩
                rw [← eU18]
                have hHU18 : HI U18 := by rw [eU18]; exact HI_w hHT16 (show 0 ≤ (Xi T16 876 7) by omega) (show (Xi T16 876 7) ≤ 5002 by omega)
                have hFU18 : FR md_to_takeSentence__f S U18 := by rw [eU18]; exact FR.wI hFT16 (mdf_i (r := (876, 877, 6, 7)) (List.mem_of_getElem? (i := 0) rfl) (inR_i (by omega) (by omega) (by omega) (by omega)))
                have w181 : Xi U18 876 6 = (Xi T16 876 7) := by rw [eU18]; exact Xi_same (by unfold rg; omega)
                refine l_iload_n rfl rfl ?_
                refine l_ireturn rfl rfl ?_
                have w182 : 0 ≤ Xi U18 876 6 ∧ Xi U18 876 6 ≤ 5002 := hHU18.c _ _
                have w183 : Xi U18 876 7 = Xi T16 876 7 := (show Xi U18 876 7 = Xi T16 876 7 from by rw [eU18]; exact Xi_ne (by omega))
                have w184 : 0 ≤ Xi T16 876 7 ∧ Xi T16 876 7 ≤ 5125 := hHT16.c _ _
                exact ⟨hHU18, hFU18, _, rfl, ⟨by omega, by omega⟩, (TOK_w6 eU18 (by assumption)), (by omega), (by omega), (by omega), (by omega), (SEN_w htp eU18 (by first | exact n148 | exact n124 | exact Or.inl ⟨hS9, hc9 (by omega), fun a b => absurd b (by omega)⟩ | exact Or.inl ⟨hS9, hc9 (by omega), fun a b => absurd a (by omega)⟩))⟩
              · refine l_aload_n rfl rfl ?_
                refine l_iload_n rfl rfl ?_
                have w185 : Xi T16 876 5 = Xi T1 876 5 := (show Xi T16 876 5 = Xi T1 876 5 from w168.x _ _ rfl)
                have w187 : 0 ≤ Xi T16 876 7 ∧ Xi T16 876 7 ≤ 5125 := hHT16.c _ _
                refine l_callV rfl rfl rfl (t_to_takeDotBehindText__f hHT16 ts v2 ⟨by omega, by omega⟩ ((hFT16 876 4 rfl).2.2.trans hts) htp (by first | assumption | exact (by assumption : TOK T16)) (by first | assumption | omega) (by first | assumption | omega) _) ?_
                rintro _ T19 ⟨hHT19, w194, z193, rfl, w193, w188, w189, w190, w191, w192⟩
                have hFT19 : FR md_to_takeSentence__f S T19 := FR.tr hFT16 w194 rfl
                show Rl _ _ _ _ _ [iv z193] _ _
                have B148 : Xi T19 ts = Xi T16 ts := FRB (by assumption : FR md_to_takeDotBehindText__f T16 T19) rfl htp
                have K148 : Xj T19 880 = Xj T16 880 := FRK (by assumption : FR md_to_takeDotBehindText__f T16 T19) rfl
                have E148 : Xi T19 876 5 = Xi T16 876 5 := (by assumption : FR md_to_takeDotBehindText__f T16 T19).x _ _ rfl
                have n148 : SEN T19 ts from_ z193 := by first | exact SEN_dot hS9 (hc9 (by omega)) (by omega) (by omega) (by assumption) B148 E148 K148 (by assumption) | (exfalso; omega)
                refine l_istore_n rfl rfl rfl ?_
                refine l_aload_n rfl rfl ?_
                refine l_aload_n rfl rfl ?_
                refine l_gfi rfl rfl rfl rfl rfl ?_
                have w195 : 0 ≤ (Xi T19 876 7) ∧ (Xi T19 876 7) ≤ 5125 := hHT19.c _ _
                refine l_pfi rfl rfl rfl rfl ?_
                obtain ⟨U20, eU20⟩ : ∃ T : sS, T = uI T19 876 6 (Int32.ofInt (Xi T19 876 7)) := ⟨_, rfl⟩
                rw [← eU20]
                have hHU20 : HI U20 := by rw [eU20]; exact HI_w hHT19 (show 0 ≤ (Xi T19 876 7) by omega) (show (Xi T19 876 7) ≤ 5002 by omega)
                have hFU20 : FR md_to_takeSentence__f S U20 := by rw [eU20]; exact FR.wI hFT19 (mdf_i (r := (876, 877, 6, 7)) (List.mem_of_getElem? (i := 0) rfl) (inR_i (by omega) (by omega) (by omega) (by omega)))
                have w196 : Xi U20 876 6 = (Xi T19 876 7) := by rw [eU20]; exact Xi_same (by unfold rg; omega)
                refine l_iload_n rfl rfl ?_
                refine l_ireturn rfl rfl ?_
                have w197 : 0 ≤ Xi U20 876 6 ∧ Xi U20 876 6 ≤ 5002 := hHU20.c _ _
                have w198 : Xi U20 876 7 = Xi T19 876 7 := (show Xi U20 876 7 = Xi T19 876 7 from by rw [eU20]; exact Xi_ne (by omega))
                have w199 : 0 ≤ Xi T19 876 7 ∧ Xi T19 876 7 ≤ 5125 := hHT19.c _ _
                exact ⟨hHU20, hFU20, _, rfl, ⟨by omega, by omega⟩, (TOK_w6 eU20 (by assumption)), (by omega), (by omega), (by omega), (by omega), (SEN_w htp eU20 (by first | exact n148 | exact n124 | exact Or.inl ⟨hS9, hc9 (by omega), fun a b => absurd b (by omega)⟩ | exact Or.inl ⟨hS9, hc9 (by omega), fun a b => absurd a (by omega)⟩))⟩
        · refine l_aload_n rfl rfl ?_
          refine l_iload_n rfl rfl ?_
          refine l_callV rfl rfl rfl (t_to_scan__f hHT1 ts v2 ⟨by omega, by omega⟩ ((hFT1 876 4 rfl).2.2.trans hts) htp (by first | assumption | exact (by assumption : TOK T1)) (by first | assumption | omega) (by first | assumption | omega) _) ?_
          rintro _ T21 ⟨hHT21, w211, z210, rfl, w210, w202, w203, w204, w205, w206, w207, w208, w209⟩
          have hFT21 : FR md_to_takeSentence__f S T21 := FR.tr hFT1 w211 rfl
          show Rl _ _ _ _ _ [iv z210] _ _
          have B23 : Xi T21 ts = Xi T1 ts := FRB (by assumption : FR md_to_scan__f T1 T21) rfl htp
          have K23 : Xj T21 880 = Xj T1 880 := FRK (by assumption : FR md_to_scan__f T1 T21) rfl
          have E23 : Xi T21 876 5 = Xi T1 876 5 := (by assumption : FR md_to_scan__f T1 T21).x _ _ rfl
          have q23 : z210 = q7 (Xi T1 ts) (Xi T1 876 5) v2 := by assumption
          have k23 : KR T1 T21 (Xi T1 876 7) := by assumption
          have N23 : z210 ≠ -1 → NT T1 T21 (t7 (Xj T1 880) (Xi T1 ts) (Xi T1 876 5) v2) v2 (v7 (Xi T1 ts) (Xi T1 876 5) v2) := by assumption
          have S23 : z210 ≠ -1 → SC T21 ts from_ (Xi T21 876 7) := fun q => (by rw [show Xi T21 876 7 = Xi T1 876 7 + 1 by omega]; exact hS9.add k23 B23 E23 K23 rfl (by omega) (by omega) (by omega) (N23 q) (fun _ => rfl) (by omega) (fun g => ho9 (by omega) g))
          have L23 : z210 ≠ -1 → Xi T21 878 (Xi T21 876 7 - 1).toNat = v2 := fun q => (by rw [show Xi T21 876 7 - 1 = Xi T1 876 7 by omega]; exact (N23 q).2.1)
          have Q23 : z210 ≠ -1 → CQ7 T21 ts v2 z210 := fun q => Or.inr ⟨by rw [show Xi T21 876 7 - 1 = Xi T1 876 7 by omega, (N23 q).1]; exact (t7_ne (by omega)).1, by rw [B23, E23]; exact q23, q⟩
          refine l_istore rfl rfl rfl ?_
          refine l_iload rfl rfl ?_
          refine l_iconst rfl ?_
          refine l_icmp_ne rfl rfl (by unfold rg; omega) (by unfold rg; omega) (fun w212 => ?_) (fun w213 => ?_)
          · have w214 : Xi T21 876 5 = Xi T1 876 5 := (show Xi T21 876 5 = Xi T1 876 5 from w211.x _ _ rfl)
            have w216 : 0 ≤ Xi T21 876 7 ∧ Xi T21 876 7 ≤ 5125 := hHT21.c _ _
            exact Rl_weak (C48 T21 hHT21 hFT21 (z210) (by omega) (by first | assumption | exact (by assumption : TOK T21)) (by omega) (by omega) (by omega) (by first | exact S39 | exact S23 (by omega)) (by first | exact L39 | exact L23 (by omega)) (by first | exact Q39 | (rw [show Xi T1 876 5 = Xi T21 876 5 by omega]; exact Q39) | exact Q23 (by omega)) (by omega)) (And.intro rfl (And.intro rfl (True.intro)))
          · refine l_aload_n rfl rfl ?_
            refine l_bipush rfl rfl ?_
            refine l_iload_n rfl rfl ?_
            refine l_lconst (z := 0) rfl rfl ?_
            have w217 : Xi T21 876 5 = Xi T1 876 5 := (show Xi T21 876 5 = Xi T1 876 5 from w211.x _ _ rfl)
            have w219 : 0 ≤ Xi T21 876 7 ∧ Xi T21 876 7 ≤ 5125 := hHT21.c _ _
            refine l_callV rfl rfl rfl (t_to_note__f hHT21 108 v2 0 ⟨by omega, by omega⟩ ⟨by omega, by omega⟩ (by first | assumption | exact (by assumption : TOK T21)) (by first | assumption | omega) (by first | assumption | omega) (by unfold rgL; omega) _) ?_
            rintro _ T22 ⟨hHT22, w225, rfl, w220, w221, w222, w223⟩
            have hFT22 : FR md_to_takeSentence__f S T22 := FR.tr hFT21 w225 rfl
            show Rl _ _ _ _ _ [] _ _
            have B39 : Xi T22 ts = Xi T21 ts := FRB (by assumption : FR md_to_note__f T21 T22) rfl htp
            have K39 : Xj T22 880 = Xj T21 880 := FRK (by assumption : FR md_to_note__f T21 T22) rfl
            have E39 : Xi T22 876 5 = Xi T21 876 5 := (by assumption : FR md_to_note__f T21 T22).x _ _ rfl
            have k39 : KR T21 T22 (Xi T21 876 7) := by assumption
            have N39 : NT T21 T22 108 v2 0 := by assumption
            have b39 : q7 (Xi T21 ts) (Xi T21 876 5) v2 = -1 := (by rw [B23, E23]; omega)
            have S39 : SC T22 ts from_ (Xi T22 876 7) := (by rw [show Xi T22 876 7 = Xi T1 876 7 + 1 by omega]; exact (hS9.k k23 (Int.le_refl _) B23 E23 K23).add (by rw [show Xi T1 876 7 = Xi T21 876 7 by omega]; exact k39) B39 E39 K39 (by omega) (by omega) (by omega) (by omega) (by rw [t7_b b39]; exact N39) (fun q => absurd b39 q) (by omega) (fun g => (ho9 (by omega) g).k k23 (Int.le_refl _) g B23 E23))
            have L39 : Xi T22 878 (Xi T22 876 7 - 1).toNat = v2 := (by rw [show Xi T22 876 7 - 1 = Xi T21 876 7 by omega]; exact N39.2.1)
            have Q39 : CQ7 T22 ts v2 (Xi T22 876 5) := Or.inl ⟨by rw [show Xi T22 876 7 - 1 = Xi T21 876 7 by omega]; exact N39.1, rfl⟩
            refine l_aload_n rfl rfl ?_
            refine l_gfi rfl rfl rfl rfl rfl ?_
            have w226 : (Xi T22 876 5) = (Xi T1 876 5) := (show Xi T22 876 5 = Xi T21 876 5 from w225.x _ _ rfl).trans ((show Xi T21 876 5 = Xi T1 876 5 from w211.x _ _ rfl))
            rw [w226]
            refine l_istore rfl rfl rfl ?_
            have w227 : Xi T22 876 5 = Xi T1 876 5 := (show Xi T22 876 5 = Xi T21 876 5 from w225.x _ _ rfl).trans ((show Xi T21 876 5 = Xi T1 876 5 from w211.x _ _ rfl))
            have w229 : 0 ≤ Xi T22 876 7 ∧ Xi T22 876 7 ≤ 5125 := hHT22.c _ _
            exact Rl_weak (C48 T22 hHT22 hFT22 ((Xi T1 876 5)) (by omega) (by first | assumption | exact (by assumption : TOK T22)) (by omega) (by omega) (by omega) (by first | exact S39 | exact S23 (by omega)) (by first | exact L39 | exact L23 (by omega)) (by first | exact Q39 | (rw [show Xi T1 876 5 = Xi T22 876 5 by omega]; exact Q39) | exact Q23 (by omega)) (by omega)) (And.intro rfl (And.intro rfl (True.intro)))
  refine l_iload_n rfl rfl ?_
  refine l_istore_n rfl rfl rfl ?_
  refine l_iconst rfl ?_
  refine l_istore_n rfl rfl rfl ?_
  refine l_aload_n rfl rfl ?_
  refine l_iconst rfl ?_
  refine l_pfi rfl rfl rfl rfl ?_
  obtain ⟨U23, eU23⟩ : ∃ T : sS, T = uI S 876 7 (Int32.ofInt 0) := ⟨_, rfl⟩
  rw [← eU23]
  have hHU23 : HI U23 := by rw [eU23]; exact HI_w hH (show 0 ≤ 0 by omega) (show 0 ≤ 5125 by omega)
  have hFU23 : FR md_to_takeSentence__f S U23 := by rw [eU23]; exact FR.wI hF (mdf_i (r := (876, 877, 7, 8)) (List.mem_of_getElem? (i := 1) rfl) (inR_i (by omega) (by omega) (by omega) (by omega)))
  have w230 : Xi U23 876 7 = 0 := by rw [eU23]; exact Xi_same (by unfold rg; omega)
  have hT : TOK U23 := tok0 (by omega)
  have w231 : Xi U23 876 5 = Xi S 876 5 := (show Xi U23 876 5 = Xi S 876 5 from by rw [eU23]; exact Xi_ne (by omega))
  have w233 : 0 ≤ Xi U23 876 7 ∧ Xi U23 876 7 ≤ 5125 := hHU23.c _ _
  exact Rl_weak (C9 _ U23 hHU23 hFU23 (from_) (1) (by omega) (by omega) (by first | assumption | exact (by assumption : TOK U23)) (by omega) (by omega) (by omega) (by omega) (by omega) (by first | exact SC.z (by omega) | exact hS48) (by first | exact fun a b => absurd b (by omega) | exact fun a b => absurd a (by omega) | exact fun _ _ => OP7_of hl48 hq48 (by assumption) (by omega) (by omega) (by omega)) (by first | exact fun a => absurd a (by omega) | exact fun _ => CL7_of (by omega) hl48 hq48 (by omega)) rfl) (And.intro rfl (And.intro rfl (And.intro rfl (True.intro))))
abbrev Q_mo_keyOf__f (S : sS) (w : Int) : pst := fun r S1 => S = S1 ∧ (∃ z : Int, r = some (iv z) ∧ (0 ≤ z ∧ z ≤ 154) ∧ (z ≠ 3 → 100 ≤ z ∧ w = Xj S 911 (z - 100).toNat) ∧ (z = (if ky7 (Xj S 911) w (-1) = -1 then 3 else 100 + ky7 (Xj S 911) w (-1))))
set_option maxRecDepth 100000 in
theorem t_mo_keyOf__f {S : sS} (hH : HI S) (w : Int) (hw : rgL w) (d : Nat) : Mt lay0 (d + 1) m_mo_keyOf [.ref 904, jw w] S (Q_mo_keyOf__f S w) := by
  refine Mt_R rfl rfl ?_
  have hw2 : -9223372036854775808 ≤ w ∧ w < 9223372036854775808 := hw
  have C2 : ∀ (n2 : Nat) (v3 : Int), (0 ≤ v3 ∧ v3 ≤ 55) → (ky7 (Xj S 911) w (-1) = kyF (Xj S 911) w (-1) (55 - v3).toNat v3) → n2 = (56 - v3).toNat → Rl lay0 (d + 0) m_mo_keyOf 2 [(0, .ref 904), (1, jw w), (3, iv v3)] [] S (Q_mo_keyOf__f S w) := by
    intro n2
    induction n2 using Nat.strongRecOn with
    | ind n2 ih2 =>
      intro v3 w1 k2 hm2
      refine l_iload_n rfl rfl ?_
      refine l_bipush rfl rfl ?_
      refine l_icmp_ge rfl rfl (by unfold rg; omega) (by unfold rg; omega) (fun w2 => ?_) (fun w3 => ?_)
      · refine l_iconst rfl ?_
        refine l_ireturn rfl rfl ?_
        exact ⟨rfl, _, rfl, ⟨by omega, by omega⟩, (by first | (exact fun q => absurd rfl q) | (exact fun _ => ⟨by omega, by rw [show (100 + v3 - 100 : Int) = v3 by omega]; omega⟩)), (by first | exact kr_h k2 (by omega) (by omega) (by omega) | exact kr_e k2 (by omega))⟩
      · refine l_aload_n rfl rfl ?_
        refine l_gfr rfl rfl rfl rfl rfl (hH.r 904 9 911 rfl) ?_
        refine l_iload_n rfl rfl ?_
        refine l_laload (n := 55) rfl rfl (by omega) (by omega) (by unfold rg; omega) ?_
        have w4 : -9223372036854775808 ≤ (Xj S 911 ((v3).toNat)) ∧ (Xj S 911 ((v3).toNat)) < 9223372036854775808 := Xj_rg
        refine l_lload_n rfl rfl ?_
        refine l_lcmp rfl (by unfold rgL; omega) (by unfold rgL; omega) (fun c5 w5 w5a w5b w5c => ?_)
        refine l_if_ne rfl rfl (by unfold rg; omega) (fun w6 => ?_) (fun w7 => ?_)
        · refine l_iinc rfl rfl rfl rfl ?_
          refine l_goto rfl rfl ?_
          exact Rl_weak (ih2 _ (by omega) ((v3 + 1)) (by omega) (by first | rfl | exact k2.trans (kyF_s (by omega) (by omega))) rfl) (And.intro rfl (And.intro rfl (And.intro rfl (True.intro))))
        · refine l_bipush rfl rfl ?_
          refine l_iload_n rfl rfl ?_
          refine l_iadd rfl ?_
          refine l_ireturn rfl rfl ?_
          exact ⟨rfl, _, rfl, ⟨by omega, by omega⟩, (by first | (exact fun q => absurd rfl q) | (exact fun _ => ⟨by omega, by rw [show (100 + v3 - 100 : Int) = v3 by omega]; omega⟩)), (by first | exact kr_h k2 (by omega) (by omega) (by omega) | exact kr_e k2 (by omega))⟩
  refine l_iconst rfl ?_
  refine l_istore_n rfl rfl rfl ?_
  exact Rl_weak (C2 _ (0) (by omega) (by first | rfl | exact k2.trans (kyF_s (by omega) (by omega))) rfl) (And.intro rfl (And.intro rfl (And.intro rfl (True.intro))))
abbrev Q_mo_wordOf__f (S : sS) (t : Nat) (from_ : Int) (n : Int) : pst := fun r S1 => S = S1 ∧ (∃ z : Int, r = some (jw z) ∧ (n ≤ 2 → 0 ≤ z ∧ z < 1024) ∧ (n ≤ 12 → z = c32 (Xi S t) from_.toNat n.toNat))
set_option maxRecDepth 100000 in
theorem t_mo_wordOf__f {S : sS} (hH : HI S) (t : Nat) (from_ : Int) (n : Int) (ht : bp t) (hfrom_ : 0 ≤ from_ ∧ from_ ≤ 5000) (hn : 0 ≤ n ∧ n ≤ 5000) (hn : from_ + n ≤ 5000) (hl : ∀ i : Nat, from_ ≤ (i : Int) → (i : Int) < from_ + n → ltr (Xi S t i) = 1) (d : Nat) : Mt lay0 (d + 3) m_mo_wordOf [.ref t, iv from_, iv n] S (Q_mo_wordOf__f S t from_ n) := by
  refine Mt_R rfl rfl ?_
  have C5 : ∀ (n5 : Nat) (v3 : Int) (v5 : Int), (0 ≤ v5 ∧ v5 ≤ 5000) → (v5 = 0 → v3 = 0) → (v5 = 1 → 0 ≤ v3 ∧ v3 < 32) → (v5 = 2 → 0 ≤ v3 ∧ v3 < 1024) → (v5 ≤ n) → (n ≤ 12 → v3 = c32 (Xi S t) from_.toNat (v5).toNat) → n5 = (5001 - v5).toNat → Rl lay0 (d + 2) m_mo_wordOf 5 [(0, .ref t), (1, iv from_), (2, iv n), (3, jw v3), (5, iv v5)] [] S (Q_mo_wordOf__f S t from_ n) := by
    intro n5
    induction n5 using Nat.strongRecOn with
    | ind n5 ih5 =>
      intro v3 v5 w1 w2 w3 w4 w5 c5 hm5
      refine l_iload rfl rfl ?_
      refine l_iload_n rfl rfl ?_
      refine l_icmp_ge rfl rfl (by unfold rg; omega) (by unfold rg; omega) (fun w6 => ?_) (fun w7 => ?_)
      · refine l_lload_n rfl rfl ?_
        refine l_lreturn rfl rfl ?_
        exact ⟨rfl, _, rfl, (by omega), (fun q => (by have e : v5 = n := (by omega); rw [← e]; exact c5 (by omega)))⟩
      · refine l_lload_n rfl rfl ?_
        refine l_iconst rfl ?_
        refine l_lshlF rfl ?_
        have w8 : rgL (lshlF v3 5) := lshlF_rg
        refine l_aload_n rfl rfl ?_
        refine l_iload_n rfl rfl ?_
        refine l_iload rfl rfl ?_
        refine l_iadd rfl ?_
        refine l_baload (n := 5000) rfl (bp_sv (by assumption)) (lay_bp (by assumption)) (by decide) (by omega) (by omega) (by unfold rg; omega) ?_
        have w9 : -128 ≤ (Xi S t (((from_ + v5)).toNat)) ∧ (Xi S t (((from_ + v5)).toNat)) ≤ 127 := bpc hH (by assumption)
        refine l_callS rfl rfl (by decide) rfl (t_mo_small hH (Xi S t (((from_ + v5)).toNat)) ⟨by omega, by omega⟩ _) ?_
        rintro _ _ ⟨rfl, z12, rfl, w12, w10, w11⟩
        show Rl _ _ _ _ _ [iv z12, jw (lshlF v3 5)] _ _
        have y20 : 97 ≤ z12 ∧ z12 ≤ 122 := by rw [(by assumption : z12 = sml _)]; exact ltr1 (hl (from_ + v5).toNat (by omega) (by omega))
        have s20 : z12 = sml (Xi S t (from_ + v5).toNat) := by assumption
        refine l_bipush rfl rfl ?_
        refine l_isub rfl ?_
        refine l_i2l rfl (by unfold rg; omega) ?_
        refine l_lorF rfl ?_
        have w13 : rgL (lorF (lshlF v3 5) (z12 - 96)) := lorF_rg
        have o27 : v5 = 0 → 0 ≤ (lorF (lshlF v3 5) (z12 - 96)) ∧ (lorF (lshlF v3 5) (z12 - 96)) < 32 := fun q => by rw [show v3 = 0 by omega]; exact w1i (by omega)
        have p27 : v5 = 1 → 0 ≤ (lorF (lshlF v3 5) (z12 - 96)) ∧ (lorF (lshlF v3 5) (z12 - 96)) < 1024 := fun q => w2i (by omega) (by omega)
        refine l_lstore_n rfl rfl rfl rfl ?_
        refine l_iinc rfl rfl rfl rfl ?_
        refine l_goto rfl rfl ?_
        exact Rl_weak (ih5 _ (by omega) ((lorF (lshlF v3 5) (z12 - 96))) ((v5 + 1)) (by omega) (by omega) (by omega) (by omega) (by omega) (by first | exact fun _ => rfl | exact fun q => w32_s (c5 q) s20 (hl (from_ + v5).toNat (by omega) (by omega)) (by omega) (by omega) (by omega)) rfl) (And.intro rfl (And.intro rfl (And.intro rfl (And.intro rfl (And.intro rfl (True.intro))))))
  refine l_lconst (z := 0) rfl rfl ?_
  refine l_lstore_n rfl rfl rfl rfl ?_
  refine l_iconst rfl ?_
  refine l_istore rfl rfl rfl ?_
  exact Rl_weak (C5 _ (0) (0) (by omega) (by omega) (by omega) (by omega) (by omega) (by first | exact fun _ => rfl | exact fun q => w32_s (c5 q) s20 (hl (from_ + v5).toNat (by omega) (by omega)) (by omega) (by omega) (by omega)) rfl) (And.intro rfl (And.intro rfl (And.intro rfl (And.intro rfl (And.intro rfl (True.intro))))))
abbrev Q_mo_blanks__f (S : sS) (from_ : Int) : pst := fun r S1 => S = S1 ∧ (∃ z : Int, r = some (iv z) ∧ (0 ≤ z ∧ z ≤ 5001) ∧ (from_ ≤ z) ∧ (from_ ≤ Xi S 904 3 → z ≤ Xi S 904 3) ∧ (z = sk7 (Xi S 906) (Xi S 904 3) from_))
set_option maxRecDepth 100000 in
theorem t_mo_blanks__f {S : sS} (hH : HI S) (from_ : Int) (hfrom_ : 0 ≤ from_ ∧ from_ ≤ 5001) (d : Nat) : Mt lay0 (d + 1) m_mo_blanks [.ref 904, iv from_] S (Q_mo_blanks__f S from_) := by
  refine Mt_R rfl rfl ?_
  have w1 : 0 ≤ Xi S 904 3 ∧ Xi S 904 3 ≤ 5000 := hH.c _ _
  have hst : 0 ≤ Xi S 904 3 ∧ Xi S 904 3 ≤ 5000 := hH.c _ _
  have C4 : ∀ (n4 : Nat) (v2 : Int) (v3 : Int), (0 ≤ v2 ∧ v2 ≤ 5001) → (0 ≤ v3 ∧ v3 ≤ 1) → (from_ ≤ v2) → (from_ ≤ Xi S 904 3 → v2 ≤ Xi S 904 3) → ((v3 = 1 → sk7 (Xi S 906) (Xi S 904 3) from_ = sk7 (Xi S 906) (Xi S 904 3) v2) ∧ (v3 = 0 → sk7 (Xi S 906) (Xi S 904 3) from_ = v2)) → n4 = (2 * (5002 - v2) + v3).toNat → Rl lay0 (d + 0) m_mo_blanks 4 [(0, .ref 904), (2, iv v2), (3, iv v3)] [] S (Q_mo_blanks__f S from_) := by
    intro n4
    induction n4 using Nat.strongRecOn with
    | ind n4 ih4 =>
      intro v2 v3 w2 w3 w4 w5 s4 hm4
      have C10 : ∀ (n10 : Nat) (v2 : Int) (v3 : Int), (0 ≤ v2 ∧ v2 ≤ 5001) → (0 ≤ v3 ∧ v3 ≤ 0) → (from_ ≤ v2) → (from_ ≤ Xi S 904 3 → v2 ≤ Xi S 904 3) → (sk7 (Xi S 906) (Xi S 904 3) from_ = sk7 (Xi S 906) (Xi S 904 3) v2) → ((2 * (5002 - v2) + 1).toNat ≤ n4) → n10 = (5002 - v2).toNat → Rl lay0 (d + 0) m_mo_blanks 10 [(0, .ref 904), (2, iv v2), (3, iv v3)] [] S (Q_mo_blanks__f S from_) := by
        intro n10
        induction n10 using Nat.strongRecOn with
        | ind n10 ih10 =>
          intro v2 v3 w6 w7 w8 w9 s10 w10 hm10
          have C68 : ∀  (v2 : Int) (v3 : Int), (0 ≤ v2 ∧ v2 ≤ 5001) → (0 ≤ v3 ∧ v3 ≤ 0) → (from_ ≤ v2) → (from_ ≤ Xi S 904 3 → v2 ≤ Xi S 904 3) → (sk7 (Xi S 906) (Xi S 904 3) from_ = sk7 (Xi S 906) (Xi S 904 3) v2) → (v2 < Xi S 904 3 → ¬ bl7 (Xi S 906 (v2).toNat)) → ((2 * (5002 - v2) + 1).toNat ≤ n4) → Rl lay0 (d + 0) m_mo_blanks 68 [(0, .ref 904), (2, iv v2), (3, iv v3)] [] S (Q_mo_blanks__f S from_) := by
            intro v2 v3 w11 w12 w13 w14 s68 b68 w15
            have C90 : ∀ (n90 : Nat) (v2 : Int) (v4 : Int), (0 ≤ v2 ∧ v2 ≤ 4999) → (0 ≤ v4 ∧ v4 ≤ 5000) → (from_ ≤ v2) → (v2 ≤ v4) → (v4 ≤ Xi S 904 3) → (v2 < Xi S 904 3) → (sk7 (Xi S 906) (Xi S 904 3) from_ = sk7 (Xi S 906) (Xi S 904 3) v2) → (Xi S 906 (v2).toNat = 91) → (cl7 (Xi S 906) (Xi S 904 3) v2 = cl7 (Xi S 906) (Xi S 904 3) v4) → ((2 * (5002 - v2) + 1).toNat ≤ n4) → n90 = (5002 - v4).toNat → Rl lay0 (d + 0) m_mo_blanks 90 [(0, .ref 904), (2, iv v2), (4, iv v4)] [] S (Q_mo_blanks__f S from_) := by
              intro n90
              induction n90 using Nat.strongRecOn with
              | ind n90 ih90 =>
                intro v2 v4 w16 w17 w18 w19 w20 w21 s90 w22 c90 w23 hm90
                have C117 : ∀  (v2 : Int) (v4 : Int), (0 ≤ v2 ∧ v2 ≤ 4999) → (0 ≤ v4 ∧ v4 ≤ 5000) → (from_ ≤ v2) → (v2 ≤ v4) → (v4 ≤ Xi S 904 3) → (v2 < Xi S 904 3) → (sk7 (Xi S 906) (Xi S 904 3) from_ = sk7 (Xi S 906) (Xi S 904 3) v2) → (Xi S 906 (v2).toNat = 91) → ((v4 < Xi S 904 3 → cl7 (Xi S 906) (Xi S 904 3) v2 = v4) ∧ (Xi S 904 3 ≤ v4 → cl7 (Xi S 906) (Xi S 904 3) v2 = -1)) → ((2 * (5002 - v2) + 1).toNat ≤ n4) → Rl lay0 (d + 0) m_mo_blanks 117 [(0, .ref 904), (2, iv v2), (4, iv v4)] [] S (Q_mo_blanks__f S from_) := by
                  intro v2 v4 w24 w25 w26 w27 w28 w29 s117 w30 c117 w31
                  refine l_iload rfl rfl ?_
                  refine l_aload_n rfl rfl ?_
                  refine l_gfi rfl rfl rfl rfl rfl ?_
                  refine l_icmp_ge rfl rfl (by unfold rg; omega) (by unfold rg; omega) (fun w32 => ?_) (fun w33 => ?_)
                  · refine l_iconst rfl ?_
                    refine l_istore_n rfl rfl rfl ?_
                    refine l_iload_n rfl rfl ?_
                    refine l_if_eq rfl rfl (by unfold rg; omega) (fun w34 => ?_) (fun w35 => absurd w35 (by omega))
                    · refine l_iload_n rfl rfl ?_
                      refine l_istore_n rfl rfl rfl ?_
                      refine l_goto rfl rfl ?_
                      exact Rl_weak (ih4 _ (by omega) (v2) (0) (by omega) (by omega) (by omega) (by omega) (by first | exact ⟨fun _ => rfl, fun q => absurd q (by omega)⟩ | exact ⟨fun q => absurd q (by omega), fun _ => s68.trans (sk7_e (by omega))⟩ | exact ⟨fun q => absurd q (by omega), fun _ => s68.trans (sk7_n (by omega) (by omega) (by omega) (b68 (by omega)))⟩ | exact ⟨fun _ => s117.trans (sk7_c (by omega) (by omega) (by omega) (c117.1 (by omega)).symm (by omega)), fun q => absurd q (by omega)⟩ | exact ⟨fun q => absurd q (by omega), fun _ => s117.trans (sk7_o (by omega) (by omega) (by omega) (c117.2 (by omega)).symm)⟩ | (exfalso; omega)) rfl) (And.intro rfl (And.intro rfl (And.intro rfl (True.intro))))
                  · refine l_iconst rfl ?_
                    refine l_goto rfl rfl ?_
                    refine l_istore_n rfl rfl rfl ?_
                    refine l_iload_n rfl rfl ?_
                    refine l_if_eq rfl rfl (by unfold rg; omega) (fun w36 => absurd w36 (by omega)) (fun w37 => ?_)
                    · refine l_iload rfl rfl ?_
                      refine l_iconst rfl ?_
                      refine l_iadd rfl ?_
                      refine l_goto rfl rfl ?_
                      refine l_istore_n rfl rfl rfl ?_
                      refine l_goto rfl rfl ?_
                      exact Rl_weak (ih4 _ (by omega) ((v4 + 1)) (1) (by omega) (by omega) (by omega) (by omega) (by first | exact ⟨fun _ => rfl, fun q => absurd q (by omega)⟩ | exact ⟨fun q => absurd q (by omega), fun _ => s68.trans (sk7_e (by omega))⟩ | exact ⟨fun q => absurd q (by omega), fun _ => s68.trans (sk7_n (by omega) (by omega) (by omega) (b68 (by omega)))⟩ | exact ⟨fun _ => s117.trans (sk7_c (by omega) (by omega) (by omega) (c117.1 (by omega)).symm (by omega)), fun q => absurd q (by omega)⟩ | exact ⟨fun q => absurd q (by omega), fun _ => s117.trans (sk7_o (by omega) (by omega) (by omega) (c117.2 (by omega)).symm)⟩ | (exfalso; omega)) rfl) (And.intro rfl (And.intro rfl (And.intro rfl (True.intro))))
                refine l_iload rfl rfl ?_
                refine l_aload_n rfl rfl ?_
                refine l_gfi rfl rfl rfl rfl rfl ?_
                refine l_icmp_ge rfl rfl (by unfold rg; omega) (by unfold rg; omega) (fun w38 => ?_) (fun w39 => ?_)
                · exact Rl_weak (C117 (v2) (v4) (by omega) (by omega) (by omega) (by omega) (by omega) (by omega) (s90) (by omega) (by first | exact ⟨fun q => absurd q (by omega), fun _ => c90.trans (cl7_e (by omega))⟩ | exact ⟨fun _ => c90.trans (cl7_h (by omega) (by omega)), fun q => absurd q (by omega)⟩) (by omega)) (And.intro rfl (And.intro rfl (And.intro rfl (True.intro))))
                · refine l_aload_n rfl rfl ?_
                  refine l_gfr rfl rfl rfl rfl rfl (hH.r 904 2 906 rfl) ?_
                  refine l_iload rfl rfl ?_
                  refine l_baload (n := 5000) rfl rfl rfl (by decide) (by omega) (by omega) (by unfold rg; omega) ?_
                  have w40 : -128 ≤ (Xi S 906 ((v4).toNat)) ∧ (Xi S 906 ((v4).toNat)) ≤ 127 := hH.c _ _
                  refine l_bipush rfl rfl ?_
                  refine l_icmp_eq rfl rfl (by unfold rg; omega) (by unfold rg; omega) (fun w41 => ?_) (fun w42 => ?_)
                  · exact Rl_weak (C117 (v2) (v4) (by omega) (by omega) (by omega) (by omega) (by omega) (by omega) (s90) (by omega) (by first | exact ⟨fun q => absurd q (by omega), fun _ => c90.trans (cl7_e (by omega))⟩ | exact ⟨fun _ => c90.trans (cl7_h (by omega) (by omega)), fun q => absurd q (by omega)⟩) (by omega)) (And.intro rfl (And.intro rfl (And.intro rfl (True.intro))))
                  · refine l_iinc rfl rfl rfl rfl ?_
                    refine l_goto rfl rfl ?_
                    exact Rl_weak (ih90 _ (by omega) (v2) ((v4 + 1)) (by omega) (by omega) (by omega) (by omega) (by omega) (by omega) (by first | exact s90 | exact s68) (by omega) (by first | rfl | exact c90.trans (cl7_s (by omega) (by omega))) (by omega) rfl) (And.intro rfl (And.intro rfl (And.intro rfl (True.intro))))
            refine l_iload_n rfl rfl ?_
            refine l_aload_n rfl rfl ?_
            refine l_gfi rfl rfl rfl rfl rfl ?_
            refine l_icmp_ge rfl rfl (by unfold rg; omega) (by unfold rg; omega) (fun w43 => ?_) (fun w44 => ?_)
            · exact Rl_weak (ih4 _ (by omega) (v2) (v3) (by omega) (by omega) (by omega) (by omega) (by first | exact ⟨fun _ => rfl, fun q => absurd q (by omega)⟩ | exact ⟨fun q => absurd q (by omega), fun _ => s68.trans (sk7_e (by omega))⟩ | exact ⟨fun q => absurd q (by omega), fun _ => s68.trans (sk7_n (by omega) (by omega) (by omega) (b68 (by omega)))⟩ | exact ⟨fun _ => s117.trans (sk7_c (by omega) (by omega) (by omega) (c117.1 (by omega)).symm (by omega)), fun q => absurd q (by omega)⟩ | exact ⟨fun q => absurd q (by omega), fun _ => s117.trans (sk7_o (by omega) (by omega) (by omega) (c117.2 (by omega)).symm)⟩ | (exfalso; omega)) rfl) (And.intro rfl (And.intro rfl (And.intro rfl (True.intro))))
            · refine l_aload_n rfl rfl ?_
              refine l_gfr rfl rfl rfl rfl rfl (hH.r 904 2 906 rfl) ?_
              refine l_iload_n rfl rfl ?_
              refine l_baload (n := 5000) rfl rfl rfl (by decide) (by omega) (by omega) (by unfold rg; omega) ?_
              have w45 : -128 ≤ (Xi S 906 ((v2).toNat)) ∧ (Xi S 906 ((v2).toNat)) ≤ 127 := hH.c _ _
              refine l_bipush rfl rfl ?_
              refine l_icmp_ne rfl rfl (by unfold rg; omega) (by unfold rg; omega) (fun w46 => ?_) (fun w47 => ?_)
              · exact Rl_weak (ih4 _ (by omega) (v2) (v3) (by omega) (by omega) (by omega) (by omega) (by first | exact ⟨fun _ => rfl, fun q => absurd q (by omega)⟩ | exact ⟨fun q => absurd q (by omega), fun _ => s68.trans (sk7_e (by omega))⟩ | exact ⟨fun q => absurd q (by omega), fun _ => s68.trans (sk7_n (by omega) (by omega) (by omega) (b68 (by omega)))⟩ | exact ⟨fun _ => s117.trans (sk7_c (by omega) (by omega) (by omega) (c117.1 (by omega)).symm (by omega)), fun q => absurd q (by omega)⟩ | exact ⟨fun q => absurd q (by omega), fun _ => s117.trans (sk7_o (by omega) (by omega) (by omega) (c117.2 (by omega)).symm)⟩ | (exfalso; omega)) rfl) (And.intro rfl (And.intro rfl (And.intro rfl (True.intro))))
              · refine l_iload_n rfl rfl ?_
                refine l_istore rfl rfl rfl ?_
                exact Rl_weak (C90 _ (v2) (v2) (by omega) (by omega) (by omega) (by omega) (by omega) (by omega) (by first | exact s90 | exact s68) (by omega) (by first | rfl | exact c90.trans (cl7_s (by omega) (by omega))) (by omega) rfl) (And.intro rfl (And.intro rfl (And.intro rfl (True.intro))))
          refine l_iload_n rfl rfl ?_
          refine l_aload_n rfl rfl ?_
          refine l_gfi rfl rfl rfl rfl rfl ?_
          refine l_icmp_ge rfl rfl (by unfold rg; omega) (by unfold rg; omega) (fun w48 => ?_) (fun w49 => ?_)
          · exact Rl_weak (C68 (v2) (v3) (by omega) (by omega) (by omega) (by omega) (s10) (by first | exact fun q => absurd q (by omega) | exact fun _ => (by unfold bl7; omega)) (by omega)) (And.intro rfl (And.intro rfl (And.intro rfl (True.intro))))
          · refine l_aload_n rfl rfl ?_
            refine l_gfr rfl rfl rfl rfl rfl (hH.r 904 2 906 rfl) ?_
            refine l_iload_n rfl rfl ?_
            refine l_baload (n := 5000) rfl rfl rfl (by decide) (by omega) (by omega) (by unfold rg; omega) ?_
            have w50 : -128 ≤ (Xi S 906 ((v2).toNat)) ∧ (Xi S 906 ((v2).toNat)) ≤ 127 := hH.c _ _
            refine l_bipush rfl rfl ?_
            refine l_icmp_eq rfl rfl (by unfold rg; omega) (by unfold rg; omega) (fun w51 => ?_) (fun w52 => ?_)
            · refine l_iinc rfl rfl rfl rfl ?_
              refine l_goto rfl rfl ?_
              exact Rl_weak (ih10 _ (by omega) ((v2 + 1)) (v3) (by omega) (by omega) (by omega) (by omega) (by first | exact s4.1 (by omega) | exact s10.trans (sk7_b (by omega) (by omega) (by unfold bl7; omega))) (by omega) rfl) (And.intro rfl (And.intro rfl (And.intro rfl (True.intro))))
            · refine l_aload_n rfl rfl ?_
              refine l_gfr rfl rfl rfl rfl rfl (hH.r 904 2 906 rfl) ?_
              refine l_iload_n rfl rfl ?_
              refine l_baload (n := 5000) rfl rfl rfl (by decide) (by omega) (by omega) (by unfold rg; omega) ?_
              refine l_bipush rfl rfl ?_
              refine l_icmp_eq rfl rfl (by unfold rg; omega) (by unfold rg; omega) (fun w53 => ?_) (fun w54 => ?_)
              · refine l_iinc rfl rfl rfl rfl ?_
                refine l_goto rfl rfl ?_
                exact Rl_weak (ih10 _ (by omega) ((v2 + 1)) (v3) (by omega) (by omega) (by omega) (by omega) (by first | exact s4.1 (by omega) | exact s10.trans (sk7_b (by omega) (by omega) (by unfold bl7; omega))) (by omega) rfl) (And.intro rfl (And.intro rfl (And.intro rfl (True.intro))))
              · refine l_aload_n rfl rfl ?_
                refine l_gfr rfl rfl rfl rfl rfl (hH.r 904 2 906 rfl) ?_
                refine l_iload_n rfl rfl ?_
                refine l_baload (n := 5000) rfl rfl rfl (by decide) (by omega) (by omega) (by unfold rg; omega) ?_
                refine l_bipush rfl rfl ?_
                refine l_icmp_eq rfl rfl (by unfold rg; omega) (by unfold rg; omega) (fun w55 => ?_) (fun w56 => ?_)
                · refine l_iinc rfl rfl rfl rfl ?_
                  refine l_goto rfl rfl ?_
                  exact Rl_weak (ih10 _ (by omega) ((v2 + 1)) (v3) (by omega) (by omega) (by omega) (by omega) (by first | exact s4.1 (by omega) | exact s10.trans (sk7_b (by omega) (by omega) (by unfold bl7; omega))) (by omega) rfl) (And.intro rfl (And.intro rfl (And.intro rfl (True.intro))))
                · refine l_aload_n rfl rfl ?_
                  refine l_gfr rfl rfl rfl rfl rfl (hH.r 904 2 906 rfl) ?_
                  refine l_iload_n rfl rfl ?_
                  refine l_baload (n := 5000) rfl rfl rfl (by decide) (by omega) (by omega) (by unfold rg; omega) ?_
                  refine l_bipush rfl rfl ?_
                  refine l_icmp_ne rfl rfl (by unfold rg; omega) (by unfold rg; omega) (fun w57 => ?_) (fun w58 => ?_)
                  · exact Rl_weak (C68 (v2) (v3) (by omega) (by omega) (by omega) (by omega) (s10) (by first | exact fun q => absurd q (by omega) | exact fun _ => (by unfold bl7; omega)) (by omega)) (And.intro rfl (And.intro rfl (And.intro rfl (True.intro))))
                  · refine l_iinc rfl rfl rfl rfl ?_
                    refine l_goto rfl rfl ?_
                    exact Rl_weak (ih10 _ (by omega) ((v2 + 1)) (v3) (by omega) (by omega) (by omega) (by omega) (by first | exact s4.1 (by omega) | exact s10.trans (sk7_b (by omega) (by omega) (by unfold bl7; omega))) (by omega) rfl) (And.intro rfl (And.intro rfl (And.intro rfl (True.intro))))
      refine l_iload_n rfl rfl ?_
      refine l_if_eq rfl rfl (by unfold rg; omega) (fun w59 => ?_) (fun w60 => ?_)
      · refine l_iload_n rfl rfl ?_
        refine l_ireturn rfl rfl ?_
        exact ⟨rfl, _, rfl, ⟨by omega, by omega⟩, (by first | assumption | omega), (by first | assumption | omega), ((s4.2 (by omega)).symm)⟩
      · refine l_iconst rfl ?_
        refine l_istore_n rfl rfl rfl ?_
        exact Rl_weak (C10 _ (v2) (0) (by omega) (by omega) (by omega) (by omega) (by first | exact s4.1 (by omega) | exact s10.trans (sk7_b (by omega) (by omega) (by unfold bl7; omega))) (by omega) rfl) (And.intro rfl (And.intro rfl (And.intro rfl (True.intro))))
  refine l_iload_n rfl rfl ?_
  refine l_istore_n rfl rfl rfl ?_
  refine l_iconst rfl ?_
  refine l_istore_n rfl rfl rfl ?_
  exact Rl_weak (C4 _ (from_) (1) (by omega) (by omega) (by omega) (by omega) (by first | exact ⟨fun _ => rfl, fun q => absurd q (by omega)⟩ | exact ⟨fun q => absurd q (by omega), fun _ => s68.trans (sk7_e (by omega))⟩ | exact ⟨fun q => absurd q (by omega), fun _ => s68.trans (sk7_n (by omega) (by omega) (by omega) (b68 (by omega)))⟩ | exact ⟨fun _ => s117.trans (sk7_c (by omega) (by omega) (by omega) (c117.1 (by omega)).symm (by omega)), fun q => absurd q (by omega)⟩ | exact ⟨fun q => absurd q (by omega), fun _ => s117.trans (sk7_o (by omega) (by omega) (by omega) (c117.2 (by omega)).symm)⟩ | (exfalso; omega)) rfl) (And.intro rfl (And.intro rfl (And.intro rfl (True.intro))))
def md_mo_cut__f : List rec := [(907, 908, 0, 100000), (908, 909, 0, 100000), (909, 910, 0, 100000), (910, 911, 0, 100000)]
abbrev Q_mo_cut__f (S : sS) : pst := fun r S1 => HI S1 ∧ FR md_mo_cut__f S S1 ∧ (r = none ∧ (∃ n : Nat, TK S1 n ∧ TXK S1 n ∧ CUT (Xi S 906) (Xj S 911) (Xi S 904 3) S1 n))
set_option maxRecDepth 100000 in
set_option maxHeartbeats 4000000 in
theorem t_mo_cut__f {S : sS} (hH : HI S) (hK : KWM S) (d : Nat) : Mt lay0 (d + 4) m_mo_cut [.ref 904] S (Q_mo_cut__f S) := by
  refine Mt_R rfl rfl ?_
  have hF : FR md_mo_cut__f S S := FR.rf
  have w1 : 0 ≤ Xi S 904 3 ∧ Xi S 904 3 ≤ 5000 := hH.c _ _
  have hst : 0 ≤ Xi S 904 3 ∧ Xi S 904 3 ≤ 5000 := hH.c _ _
  have C8 : ∀ (n8 : Nat) (T1 : sS) (_ : HI T1) (_ : FR md_mo_cut__f S T1) (v1 : Int) (v2 : Int), (0 ≤ v1 ∧ v1 ≤ 5000) → (0 ≤ v2 ∧ v2 ≤ 5001) → (CT T1 v1 v2) → (CT T1 v1 (Xi S 904 3)) → (v1 ≤ v2) → (v1 ≤ Xi S 904 3) → (Xi T1 904 3 = Xi S 904 3) → (CU (Xi S 906) (Xj S 911) (Xi S 904 3) T1 v1) → (v1 = 0 → v2 = sk7 (Xi S 906) (Xi S 904 3) 0) → (0 < v1 → Xi T1 907 (v1 - 1).toNat ≠ 2 → v2 = sk7 (Xi S 906) (Xi S 904 3) (q7 (Xi S 906) (Xi S 904 3) (Xi T1 908 (v1 - 1).toNat))) → n8 = (5002 - v2).toNat → Rl lay0 (d + 3) m_mo_cut 8 [(0, .ref 904), (1, iv v1), (2, iv v2)] [] T1 (Q_mo_cut__f S) := by
    intro n8
    induction n8 using Nat.strongRecOn with
    | ind n8 ih8 =>
      intro T1 hHT1 hFT1 v1 v2 w2 w3 C8 D8 w4 w5 w6 U8 N8 M8 hm8
      have w7 : Xi T1 904 3 = Xi S 904 3 := hFT1.x _ _ rfl
      have w8 : 0 ≤ Xi T1 904 3 ∧ Xi T1 904 3 ≤ 5000 := hHT1.c _ _
      have C426 : ∀  (T2 : sS) (_ : HI T2) (_ : FR md_mo_cut__f S T2) (v1 : Int) (v4 : Int), (0 ≤ v1 ∧ v1 ≤ 5000) → (0 ≤ v4 ∧ v4 ≤ 5001) → (CT T2 v1 (Xi T2 908 (v1).toNat)) → (v1 ≤ Xi T2 908 (v1).toNat) → (Xi T2 908 (v1).toNat < Xi S 904 3) → (Xi T2 904 3 = Xi S 904 3) → (Xi T2 908 (v1).toNat < v4) → (v4 ≤ Xi S 904 3 + 1) → (Xi T2 907 (v1).toNat ≠ 1) → (Xi T2 907 (v1).toNat = 5 → Xi T2 908 (v1).toNat + 1 + Xi T2 909 (v1).toNat ≤ 5000) → (K3 (Xi T2 907 (v1).toNat) → Xi T2 908 (v1).toNat + 3 ≤ v4 ∧ Xi T2 908 (v1).toNat + 3 ≤ Xi S 904 3) → (CV (Xi S 906) (Xj S 911) (Xi S 904 3) T2 v1) → (RM7 (Xi S 906) (Xj S 911) (Xi S 904 3) T2 (v1).toNat) → (Xi T2 907 (v1).toNat ≠ 2 → v4 = q7 (Xi S 906) (Xi S 904 3) (Xi T2 908 (v1).toNat)) → ((5002 - Xi T2 908 (v1).toNat).toNat ≤ n8) → Rl lay0 (d + 3) m_mo_cut 426 [(0, .ref 904), (1, iv v1), (4, iv v4)] [] T2 (Q_mo_cut__f S) := by
        intro T2 hHT2 hFT2 v1 v4 w9 w10 C426 w11 w12 w13 w14 w15 w16 w17 K426 CV426 R426 Q426 w18
        have w19 : Xi T2 904 3 = Xi S 904 3 := hFT2.x _ _ rfl
        have w20 : 0 ≤ Xi T2 904 3 ∧ Xi T2 904 3 ≤ 5000 := hHT2.c _ _
        refine l_iinc rfl rfl rfl rfl ?_
        refine l_aload_n rfl rfl ?_
        refine l_iload rfl rfl ?_
        refine l_callV rfl rfl rfl (t_mo_blanks__f hHT2 v4 ⟨by omega, by omega⟩ _) ?_
        rintro _ _ ⟨rfl, z25, rfl, w25, w22, w23, w24⟩
        show Rl _ _ _ _ _ [iv z25] _ _
        refine l_istore_n rfl rfl rfl ?_
        refine l_goto rfl rfl ?_
        exact Rl_weak (ih8 _ (by omega) T2 hHT2 hFT2 ((v1 + 1)) (z25) (by omega) (by omega) (by first | exact CT.rf | exact C426.add (by omega) (by omega) (by omega) (by omega) (by omega) (fun q => by have := K426 q; omega)) (by first | exact CT.rf | exact C426.add (by omega) (by omega) (by omega) (by omega) (by omega) (fun q => by have := K426 q; omega)) (by omega) (by omega) (by omega) (by first | exact CU.z | exact CV426.add (by omega) R426) (by first | exact fun _ => b4 | exact fun q => absurd q (by omega)) (by first | exact fun q => absurd q (by omega) | (intro _ q; rw [show v1 + 1 - 1 = v1 by omega] at q ⊢; rw [← Q426 q]; rw [← (FR6 hFT2 rfl : Xi T2 906 = Xi S 906), ← (hFT2.x 904 3 rfl)]; assumption)) rfl) (And.intro rfl (And.intro rfl (And.intro rfl (True.intro))))
      have C58 : ∀ (n58 : Nat) (T3 : sS) (_ : HI T3) (_ : FR md_mo_cut__f S T3) (v1 : Int) (v2 : Int) (v4 : Int), (0 ≤ v1 ∧ v1 ≤ 5000) → (0 ≤ v2 ∧ v2 ≤ 4999) → (1 ≤ v4 ∧ v4 ≤ 5000) → (CT T3 v1 v2) → (v1 ≤ v2) → (v2 < Xi S 904 3) → (Xi T3 904 3 = Xi S 904 3) → (v2 < v4) → (v4 ≤ Xi S 904 3) → (Xi T3 908 (v1).toNat = v2) → (∀ i : Nat, v2 ≤ (i : Int) → (i : Int) < v4 → ltr (Xi S 906 i) = 1) → (CV (Xi S 906) (Xj S 911) (Xi S 904 3) T3 v1) → (we7 (Xi S 906) (Xi S 904 3) v2 = we7 (Xi S 906) (Xi S 904 3) v4) → (lt7 (Xi S 906 (v2).toNat) ≠ 0) → ((5002 - v2).toNat ≤ n8) → n58 = (5002 - v4).toNat → Rl lay0 (d + 3) m_mo_cut 58 [(0, .ref 904), (1, iv v1), (2, iv v2), (4, iv v4)] [] T3 (Q_mo_cut__f S) := by
        intro n58
        induction n58 using Nat.strongRecOn with
        | ind n58 ih58 =>
          intro T3 hHT3 hFT3 v1 v2 v4 w27 w28 w29 C58 w30 w31 w32 w33 w34 w35 L58 CV58 W58 hw58 w36 hm58
          have w37 : Xi T3 904 3 = Xi S 904 3 := hFT3.x _ _ rfl
          have w38 : 0 ≤ Xi T3 904 3 ∧ Xi T3 904 3 ≤ 5000 := hHT3.c _ _
          have C86 : ∀  (T4 : sS) (_ : HI T4) (_ : FR md_mo_cut__f S T4) (v1 : Int) (v2 : Int) (v4 : Int), (0 ≤ v1 ∧ v1 ≤ 5000) → (0 ≤ v2 ∧ v2 ≤ 4999) → (1 ≤ v4 ∧ v4 ≤ 5000) → (CT T4 v1 v2) → (v1 ≤ v2) → (v2 < Xi S 904 3) → (Xi T4 904 3 = Xi S 904 3) → (v2 < v4) → (v4 ≤ Xi S 904 3) → (Xi T4 908 (v1).toNat = v2) → (∀ i : Nat, v2 ≤ (i : Int) → (i : Int) < v4 → ltr (Xi S 906 i) = 1) → (CV (Xi S 906) (Xj S 911) (Xi S 904 3) T4 v1) → (we7 (Xi S 906) (Xi S 904 3) v2 = v4) → (lt7 (Xi S 906 (v2).toNat) ≠ 0) → ((5002 - v2).toNat ≤ n8) → Rl lay0 (d + 3) m_mo_cut 86 [(0, .ref 904), (1, iv v1), (2, iv v2), (4, iv v4)] [] T4 (Q_mo_cut__f S) := by
            intro T4 hHT4 hFT4 v1 v2 v4 w39 w40 w41 C86 w42 w43 w44 w45 w46 w47 L86 CV86 W86 hw86 w48
            have w49 : Xi T4 904 3 = Xi S 904 3 := hFT4.x _ _ rfl
            have w50 : 0 ≤ Xi T4 904 3 ∧ Xi T4 904 3 ≤ 5000 := hHT4.c _ _
            refine l_iload rfl rfl ?_
            refine l_iload_n rfl rfl ?_
            refine l_isub rfl ?_
            refine l_bipush rfl rfl ?_
            refine l_icmp_gt rfl rfl (by unfold rg; omega) (by unfold rg; omega) (fun w51 => ?_) (fun w52 => ?_)
            · refine l_iconst rfl ?_
              refine l_istore rfl rfl rfl ?_
              refine l_aload_n rfl rfl ?_
              refine l_gfr rfl rfl rfl rfl rfl (hHT4.r 904 7 910 rfl) ?_
              refine l_iload_n rfl rfl ?_
              refine l_iload rfl rfl ?_
              refine l_if_eq rfl rfl (by unfold rg; omega) (fun w53 => ?_) (fun w54 => absurd w54 (by omega))
              · refine l_lconst (z := 0) rfl rfl ?_
                refine l_lastore (n := 5002) rfl rfl (by omega) (by omega) (by unfold rg; omega) ?_
                obtain ⟨U5, eU5⟩ : ∃ T : sS, T = uJ T4 910 ((v1).toNat) (Int64.ofInt 0) := ⟨_, rfl⟩
                rw [← eU5]
                have hHU5 : HI U5 := by rw [eU5]; exact HI_J hHT4
                have hFU5 : FR md_mo_cut__f S U5 := by rw [eU5]; exact FR.wJ hFT4 (mdf_i (r := (910, 911, 0, 100000)) (List.mem_of_getElem? (i := 3) rfl) (inR_i (by omega) (by omega) (by omega) (by omega)))
                have c128 : CT U5 v1 v2 := C86.mv (fun k _ _ i _ => by rw [eU5]; rfl)
                have x128 : v4 - v2 ≤ 2 → Xj U5 910 (v1).toNat < 1024 := fun q => by rw [eU5, Xj_same (by unfold rgL; omega)]; omega
                have u128 : CV (Xi S 906) (Xj S 911) (Xi S 904 3) U5 v1 := CV86.j eU5 (by omega)
                have f128 : v4 - v2 ≤ 12 → Xj U5 910 (v1).toNat = c32 (Xi S 906) (v2).toNat (v4 - v2).toNat := by first | exact fun q => absurd q (by omega) | exact fun q => (by rw [eU5, Xj_same (by rw [f121]; exact c32_g (by omega))]; exact f121)
                refine l_aload_n rfl rfl ?_
                refine l_gfr rfl rfl rfl rfl rfl (hHU5.r 904 4 907 rfl) ?_
                refine l_iload_n rfl rfl ?_
                refine l_iload rfl rfl ?_
                refine l_if_eq rfl rfl (by unfold rg; omega) (fun w55 => ?_) (fun w56 => absurd w56 (by omega))
                · refine l_iconst rfl ?_
                  refine l_iastore (n := 5002) rfl rfl (by omega) (by omega) (by unfold rg; omega) ?_
                  obtain ⟨U6, eU6⟩ : ∃ T : sS, T = uI U5 907 ((v1).toNat) (Int32.ofInt 2) := ⟨_, rfl⟩
                  rw [← eU6]
                  have hHU6 : HI U6 := by rw [eU6]; exact HI_w hHU5 (show 0 ≤ 2 by omega) (show 2 ≤ 154 by omega)
                  have hFU6 : FR md_mo_cut__f S U6 := by rw [eU6]; exact FR.wI hFU5 (mdf_i (r := (907, 908, 0, 100000)) (List.mem_of_getElem? (i := 0) rfl) (inR_i (by omega) (by omega) (by omega) (by omega)))
                  have w57 : Xi U6 907 ((v1).toNat) = 2 := by rw [eU6]; exact Xi_same (by unfold rg; omega)
                  have c153 : CT U6 v1 v2 := c128.w eU6 (by omega)
                  have k153 : K3 (Xi U6 907 (v1).toNat) → v2 + 3 ≤ v4 := by first | exact (fun q => z146 _ (by omega) q) | exact (fun q => absurd q (by unfold K3; omega))
                  have u153 : CV (Xi S 906) (Xj S 911) (Xi S 904 3) U6 v1 := u128.w eU6 (by omega) (by omega)
                  have r153 : RM7 (Xi S 906) (Xj S 911) (Xi S 904 3) U6 (v1).toNat := by first | exact rm_w W86 (by rw [eU6, Xi_ne (by omega), eU5, Xi_J]; omega) (by omega) (by omega) hw86 (by omega) (by rw [eU6, Xj_I]; exact f128 (by omega)) (by rw [eU6, Xi_same (by unfold rg; omega), k146, f128 (by omega)]) | exact rm_x W86 (by rw [eU6, Xi_ne (by omega), eU5, Xi_J]; omega) (by omega) (by omega) hw86 (by omega) (by rw [eU6]; exact Xi_same (by unfold rg; omega)) | (exfalso; omega)
                  refine l_goto rfl rfl ?_
                  have w58 : Xi U6 908 (v1).toNat = Xi T4 908 (v1).toNat := (show Xi U6 908 (v1).toNat = Xi U5 908 (v1).toNat from by rw [eU6]; exact Xi_ne (by omega)).trans ((show Xi U5 908 (v1).toNat = Xi T4 908 (v1).toNat from by rw [eU5]; rfl))
                  have w59 : Xi U6 909 (v1).toNat = Xi T4 909 (v1).toNat := (show Xi U6 909 (v1).toNat = Xi U5 909 (v1).toNat from by rw [eU6]; exact Xi_ne (by omega)).trans ((show Xi U5 909 (v1).toNat = Xi T4 909 (v1).toNat from by rw [eU5]; rfl))
                  have w60 : Xi U6 904 3 = Xi T4 904 3 := (show Xi U6 904 3 = Xi U5 904 3 from by rw [eU6]; exact Xi_ne (by omega)).trans ((show Xi U5 904 3 = Xi T4 904 3 from by rw [eU5]; rfl))
                  exact Rl_weak (C426 U6 hHU6 hFU6 (v1) (v4) (by omega) (by omega) (by rw [show Xi U6 908 (v1).toNat = v2 by omega]; assumption) (by omega) (by omega) (by omega) (by omega) (by omega) (by omega) (by omega) (by first | exact fun q => ⟨by have := k153 q; omega, by have := k153 q; omega⟩ | exact fun q => absurd q (by unfold K3; omega)) (by first | exact u153 | exact u268 | exact u384 | exact u425) (by first | exact r153 | exact r268 | exact r384 | exact r425) (by first | (exact fun q => rm_qw (by first | exact r153) q hw86 (by omega) W86) | (exact fun q => rm_qd (by first | exact r268) q hw241 h241 (by omega) D241) | (exact fun q => rm_qt (by first | exact r384) q h337 (by omega) T337) | (exact fun q => rm_qp (by first | exact r425) q (by omega) (lt7_0 (by omega)) (by omega) (by omega))) (by omega)) (And.intro rfl (And.intro rfl (And.intro rfl (True.intro))))
            · refine l_iconst rfl ?_
              refine l_goto rfl rfl ?_
              refine l_istore rfl rfl rfl ?_
              refine l_aload_n rfl rfl ?_
              refine l_gfr rfl rfl rfl rfl rfl (hHT4.r 904 7 910 rfl) ?_
              refine l_iload_n rfl rfl ?_
              refine l_iload rfl rfl ?_
              refine l_if_eq rfl rfl (by unfold rg; omega) (fun w62 => absurd w62 (by omega)) (fun w63 => ?_)
              · refine l_aload_n rfl rfl ?_
                refine l_gfr rfl rfl rfl rfl rfl (hHT4.r 904 2 906 rfl) ?_
                refine l_iload_n rfl rfl ?_
                refine l_iload rfl rfl ?_
                refine l_iload_n rfl rfl ?_
                refine l_isub rfl ?_
                refine l_callS rfl rfl (by decide) rfl (t_mo_wordOf__f hHT4 906 v2 (v4 - v2) (Or.inr rfl) ⟨by omega, by omega⟩ ⟨by omega, by omega⟩ (by first | assumption | omega) (fun i a b => by rw [(hFT4.cx 906 rfl _).1]; exact L86 i a (by omega)) _) ?_
                rintro _ _ ⟨rfl, z67, rfl, w65, w66⟩
                show Rl _ _ _ _ _ [jw z67, iv v1, .ref 910] _ _
                have f121 : z67 = c32 (Xi S 906) (v2).toNat (v4 - v2).toNat := by have t := (by assumption : v4 - v2 ≤ 12 → z67 = _) (by omega); rw [show Xi T4 906 = Xi S 906 from FR6 hFT4 rfl] at t; exact t
                refine l_goto rfl rfl ?_
                refine l_lastore (n := 5002) rfl rfl (by omega) (by omega) (by unfold rg; omega) ?_
                obtain ⟨U7, eU7⟩ : ∃ T : sS, T = uJ T4 910 ((v1).toNat) (Int64.ofInt z67) := ⟨_, rfl⟩
                rw [← eU7]
                have hHU7 : HI U7 := by rw [eU7]; exact HI_J hHT4
                have hFU7 : FR md_mo_cut__f S U7 := by rw [eU7]; exact FR.wJ hFT4 (mdf_i (r := (910, 911, 0, 100000)) (List.mem_of_getElem? (i := 3) rfl) (inR_i (by omega) (by omega) (by omega) (by omega)))
                have c128 : CT U7 v1 v2 := C86.mv (fun k _ _ i _ => by rw [eU7]; rfl)
                have x128 : v4 - v2 ≤ 2 → Xj U7 910 (v1).toNat < 1024 := fun q => by rw [eU7, Xj_same (by unfold rgL; omega)]; omega
                have u128 : CV (Xi S 906) (Xj S 911) (Xi S 904 3) U7 v1 := CV86.j eU7 (by omega)
                have f128 : v4 - v2 ≤ 12 → Xj U7 910 (v1).toNat = c32 (Xi S 906) (v2).toNat (v4 - v2).toNat := by first | exact fun q => absurd q (by omega) | exact fun q => (by rw [eU7, Xj_same (by rw [f121]; exact c32_g (by omega))]; exact f121)
                refine l_aload_n rfl rfl ?_
                refine l_gfr rfl rfl rfl rfl rfl (hHU7.r 904 4 907 rfl) ?_
                refine l_iload_n rfl rfl ?_
                refine l_iload rfl rfl ?_
                refine l_if_eq rfl rfl (by unfold rg; omega) (fun w68 => absurd w68 (by omega)) (fun w69 => ?_)
                · refine l_aload_n rfl rfl ?_
                  refine l_aload_n rfl rfl ?_
                  refine l_gfr rfl rfl rfl rfl rfl (hHU7.r 904 7 910 rfl) ?_
                  refine l_iload_n rfl rfl ?_
                  refine l_laload (n := 5002) rfl rfl (by omega) (by omega) (by unfold rg; omega) ?_
                  have w70 : -9223372036854775808 ≤ (Xj U7 910 ((v1).toNat)) ∧ (Xj U7 910 ((v1).toNat)) < 9223372036854775808 := Xj_rg
                  have w71 : Xi U7 904 3 = Xi T4 904 3 := (show Xi U7 904 3 = Xi T4 904 3 from by rw [eU7]; rfl)
                  refine l_callV rfl rfl rfl (t_mo_keyOf__f hHU7 (Xj U7 910 ((v1).toNat)) (Xj_rg) _) ?_
                  rintro _ _ ⟨rfl, z75, rfl, w75, w73, w74⟩
                  show Rl _ _ _ _ _ [iv z75, iv v1, .ref 907] _ _
                  have z146 : ∀ x : Int, x = z75 → K3 x → v2 + 3 ≤ v4 := fun x ex q => (by rcases (by omega : v2 + 3 ≤ v4 ∨ v4 - v2 ≤ 2) with h | h; exact h; exfalso; rw [ex] at q; have a := (by assumption : z75 ≠ 3 → _) (by unfold K3 at q; omega); have b := hK z75 (by omega) (by omega) q; have e := (hFU7.cx 911 rfl (z75 - 100).toNat).2; have f := x128 h; omega)
                  have k146 : z75 = (if ky7 (Xj S 911) (Xj U7 910 (v1).toNat) (-1) = -1 then 3 else 100 + ky7 (Xj S 911) (Xj U7 910 (v1).toNat) (-1)) := by have t := (by assumption : z75 = (if ky7 (Xj U7 911) (Xj U7 910 (v1).toNat) (-1) = -1 then 3 else 100 + ky7 (Xj U7 911) (Xj U7 910 (v1).toNat) (-1))); rw [show Xj U7 911 = Xj S 911 from FR1 hFU7 rfl] at t; exact t
                  refine l_goto rfl rfl ?_
                  refine l_iastore (n := 5002) rfl rfl (by omega) (by omega) (by unfold rg; omega) ?_
                  obtain ⟨U8, eU8⟩ : ∃ T : sS, T = uI U7 907 ((v1).toNat) (Int32.ofInt z75) := ⟨_, rfl⟩
                  rw [← eU8]
                  have hHU8 : HI U8 := by rw [eU8]; exact HI_w hHU7 (show 0 ≤ z75 by omega) (show z75 ≤ 154 by omega)
                  have hFU8 : FR md_mo_cut__f S U8 := by rw [eU8]; exact FR.wI hFU7 (mdf_i (r := (907, 908, 0, 100000)) (List.mem_of_getElem? (i := 0) rfl) (inR_i (by omega) (by omega) (by omega) (by omega)))
                  have w76 : Xi U8 907 ((v1).toNat) = z75 := by rw [eU8]; exact Xi_same (by unfold rg; omega)
                  have c153 : CT U8 v1 v2 := c128.w eU8 (by omega)
                  have k153 : K3 (Xi U8 907 (v1).toNat) → v2 + 3 ≤ v4 := by first | exact (fun q => z146 _ (by omega) q) | exact (fun q => absurd q (by unfold K3; omega))
                  have u153 : CV (Xi S 906) (Xj S 911) (Xi S 904 3) U8 v1 := u128.w eU8 (by omega) (by omega)
                  have r153 : RM7 (Xi S 906) (Xj S 911) (Xi S 904 3) U8 (v1).toNat := by first | exact rm_w W86 (by rw [eU8, Xi_ne (by omega), eU7, Xi_J]; omega) (by omega) (by omega) hw86 (by omega) (by rw [eU8, Xj_I]; exact f128 (by omega)) (by rw [eU8, Xi_same (by unfold rg; omega), k146, f128 (by omega)]) | exact rm_x W86 (by rw [eU8, Xi_ne (by omega), eU7, Xi_J]; omega) (by omega) (by omega) hw86 (by omega) (by rw [eU8]; exact Xi_same (by unfold rg; omega)) | (exfalso; omega)
                  refine l_goto rfl rfl ?_
                  have w77 : Xi U8 908 (v1).toNat = Xi T4 908 (v1).toNat := (show Xi U8 908 (v1).toNat = Xi U7 908 (v1).toNat from by rw [eU8]; exact Xi_ne (by omega)).trans ((show Xi U7 908 (v1).toNat = Xi T4 908 (v1).toNat from by rw [eU7]; rfl))
                  have w78 : Xi U8 909 (v1).toNat = Xi T4 909 (v1).toNat := (show Xi U8 909 (v1).toNat = Xi U7 909 (v1).toNat from by rw [eU8]; exact Xi_ne (by omega)).trans ((show Xi U7 909 (v1).toNat = Xi T4 909 (v1).toNat from by rw [eU7]; rfl))
                  have w79 : Xi U8 904 3 = Xi T4 904 3 := (show Xi U8 904 3 = Xi U7 904 3 from by rw [eU8]; exact Xi_ne (by omega)).trans ((show Xi U7 904 3 = Xi T4 904 3 from by rw [eU7]; rfl))
                  exact Rl_weak (C426 U8 hHU8 hFU8 (v1) (v4) (by omega) (by omega) (by rw [show Xi U8 908 (v1).toNat = v2 by omega]; assumption) (by omega) (by omega) (by omega) (by omega) (by omega) (by omega) (by omega) (by first | exact fun q => ⟨by have := k153 q; omega, by have := k153 q; omega⟩ | exact fun q => absurd q (by unfold K3; omega)) (by first | exact u153 | exact u268 | exact u384 | exact u425) (by first | exact r153 | exact r268 | exact r384 | exact r425) (by first | (exact fun q => rm_qw (by first | exact r153) q hw86 (by omega) W86) | (exact fun q => rm_qd (by first | exact r268) q hw241 h241 (by omega) D241) | (exact fun q => rm_qt (by first | exact r384) q h337 (by omega) T337) | (exact fun q => rm_qp (by first | exact r425) q (by omega) (lt7_0 (by omega)) (by omega) (by omega))) (by omega)) (And.intro rfl (And.intro rfl (And.intro rfl (True.intro))))
          refine l_iload rfl rfl ?_
          refine l_aload_n rfl rfl ?_
          refine l_gfi rfl rfl rfl rfl rfl ?_
          refine l_icmp_ge rfl rfl (by unfold rg; omega) (by unfold rg; omega) (fun w81 => ?_) (fun w82 => ?_)
          · have w83 : 0 ≤ Xi T3 904 3 ∧ Xi T3 904 3 ≤ 5000 := hHT3.c _ _
            exact Rl_weak (C86 T3 hHT3 hFT3 (v1) (v2) (v4) (by omega) (by omega) (by omega) (C58) (by omega) (by omega) (by omega) (by omega) (by omega) (by omega) (L58) (CV58) (by first | exact W58.trans (we7_e (by omega)) | exact W58.trans (we7_n (lt7_0 (by omega)))) (hw58) (by omega)) (And.intro rfl (And.intro rfl (And.intro rfl (And.intro rfl (True.intro)))))
          · refine l_aload_n rfl rfl ?_
            refine l_gfr rfl rfl rfl rfl rfl (hHT3.r 904 2 906 rfl) ?_
            refine l_iload rfl rfl ?_
            refine l_baload (n := 5000) rfl rfl rfl (by decide) (by omega) (by omega) (by unfold rg; omega) ?_
            have w84 : -128 ≤ (Xi T3 906 ((v4).toNat)) ∧ (Xi T3 906 ((v4).toNat)) ≤ 127 := hHT3.c _ _
            have e73 : (Xi T3 906 ((v4).toNat)) = Xi S 906 (v4).toNat := by first | rfl | exact (hFT3.cx 906 rfl _).1
            refine l_callS rfl rfl (by decide) rfl (t_mo_isLetter hHT3 (Xi T3 906 ((v4).toNat)) ⟨by omega, by omega⟩ _) ?_
            rintro _ _ ⟨rfl, z87, rfl, w87, w86⟩
            show Rl _ _ _ _ _ [iv z87] _ _
            have l74 : z87 = 1 → ltr (Xi S 906 (v4).toNat) = 1 := fun q => by rw [← e73, ← (by assumption : z87 = ltr _)]; exact q
            have m74 : z87 = ltr (Xi S 906 (v4).toNat) := by rw [← e73]; assumption
            refine l_if_eq rfl rfl (by unfold rg; omega) (fun w88 => ?_) (fun w89 => ?_)
            · have w90 : 0 ≤ Xi T3 904 3 ∧ Xi T3 904 3 ≤ 5000 := hHT3.c _ _
              exact Rl_weak (C86 T3 hHT3 hFT3 (v1) (v2) (v4) (by omega) (by omega) (by omega) (C58) (by omega) (by omega) (by omega) (by omega) (by omega) (by omega) (L58) (CV58) (by first | exact W58.trans (we7_e (by omega)) | exact W58.trans (we7_n (lt7_0 (by omega)))) (hw58) (by omega)) (And.intro rfl (And.intro rfl (And.intro rfl (And.intro rfl (True.intro)))))
            · refine l_iinc rfl rfl rfl rfl ?_
              refine l_goto rfl rfl ?_
              exact Rl_weak (ih58 _ (by omega) T3 hHT3 hFT3 (v1) (v2) ((v4 + 1)) (by omega) (by omega) (by omega) (by first | exact C58 | exact c50) (by omega) (by omega) (by omega) (by omega) (by omega) (by omega) (by first | exact (fun i a b => (Int.lt_or_le (i : Int) v4).elim (fun q => L58 i a q) (fun q => by rw [show i = (v4).toNat by omega]; exact l74 (by omega))) | exact (fun i a b => by rw [show i = (v2).toNat by omega]; exact l52 (by omega))) (by first | exact CV58 | exact u50) (by first | exact W58.trans (we7_s (by omega) (by have t := lt7_l (l74 (by omega)); omega)) | exact we7_s (by omega) (by have t := lt7_l (l52 (by omega)); omega)) (by first | exact hw58 | (have t := lt7_l (l52 (by omega)); omega)) (by omega) rfl) (And.intro rfl (And.intro rfl (And.intro rfl (And.intro rfl (True.intro)))))
      have C174 : ∀ (n174 : Nat) (T9 : sS) (_ : HI T9) (_ : FR md_mo_cut__f S T9) (v1 : Int) (v2 : Int) (v4 : Int) (v5 : Int), (0 ≤ v1 ∧ v1 ≤ 5000) → (0 ≤ v2 ∧ v2 ≤ 4999) → (0 ≤ v4 ∧ v4 ≤ 5000) → (CT T9 v1 v2) → (v1 ≤ v2) → (v2 < Xi S 904 3) → (Xi T9 904 3 = Xi S 904 3) → (v4 ≤ Xi S 904 3) → (Xi T9 908 (v1).toNat = v2) → (v2 ≤ v4) → (v4 = v2 → 48 ≤ Xi S 906 (v4).toNat ∧ Xi S 906 (v4).toNat ≤ 57) → (CV (Xi S 906) (Xj S 911) (Xi S 904 3) T9 v1) → (de7 (Xi S 906) (Xi S 904 3) v2 = de7 (Xi S 906) (Xi S 904 3) v4) → (v5 = dvF (Xi S 906) (v2).toNat (m6 (v4 - v2))) → (lt7 (Xi S 906 (v2).toNat) = 0) → (48 ≤ Xi S 906 (v2).toNat ∧ Xi S 906 (v2).toNat ≤ 57) → (0 ≤ v5 ∧ v5 ≤ 999999) → (v4 - v2 = 0 → v5 ≤ 0) → (v4 - v2 = 1 → v5 ≤ 9) → (v4 - v2 = 2 → v5 ≤ 99) → (v4 - v2 = 3 → v5 ≤ 999) → (v4 - v2 = 4 → v5 ≤ 9999) → (v4 - v2 = 5 → v5 ≤ 99999) → ((5002 - v2).toNat ≤ n8) → n174 = (5002 - v4).toNat → Rl lay0 (d + 3) m_mo_cut 174 [(0, .ref 904), (1, iv v1), (2, iv v2), (4, iv v4), (5, jw v5)] [] T9 (Q_mo_cut__f S) := by
        intro n174
        induction n174 using Nat.strongRecOn with
        | ind n174 ih174 =>
          intro T9 hHT9 hFT9 v1 v2 v4 v5 w92 w93 w94 C174 w95 w96 w97 w98 w99 w100 w101 CV174 D174 V174 hw174 h174 w102 w103 w104 w105 w106 w107 w108 w109 hm174
          have w110 : Xi T9 904 3 = Xi S 904 3 := hFT9.x _ _ rfl
          have w111 : 0 ≤ Xi T9 904 3 ∧ Xi T9 904 3 ≤ 5000 := hHT9.c _ _
          have C241 : ∀  (T10 : sS) (_ : HI T10) (_ : FR md_mo_cut__f S T10) (v1 : Int) (v2 : Int) (v4 : Int) (v5 : Int), (0 ≤ v1 ∧ v1 ≤ 5000) → (0 ≤ v2 ∧ v2 ≤ 4999) → (0 ≤ v4 ∧ v4 ≤ 5000) → (CT T10 v1 v2) → (v1 ≤ v2) → (v2 < Xi S 904 3) → (Xi T10 904 3 = Xi S 904 3) → (v2 < v4) → (v4 ≤ Xi S 904 3) → (Xi T10 908 (v1).toNat = v2) → (CV (Xi S 906) (Xj S 911) (Xi S 904 3) T10 v1) → (de7 (Xi S 906) (Xi S 904 3) v2 = v4) → (v5 = dvF (Xi S 906) (v2).toNat (m6 (v4 - v2))) → (lt7 (Xi S 906 (v2).toNat) = 0) → (48 ≤ Xi S 906 (v2).toNat ∧ Xi S 906 (v2).toNat ≤ 57) → (0 ≤ v5 ∧ v5 ≤ 999999) → ((5002 - v2).toNat ≤ n8) → Rl lay0 (d + 3) m_mo_cut 241 [(0, .ref 904), (1, iv v1), (2, iv v2), (4, iv v4), (5, jw v5)] [] T10 (Q_mo_cut__f S) := by
            intro T10 hHT10 hFT10 v1 v2 v4 v5 w112 w113 w114 C241 w115 w116 w117 w118 w119 w120 CV241 D241 V241 hw241 h241 w121 w122
            have w123 : Xi T10 904 3 = Xi S 904 3 := hFT10.x _ _ rfl
            have w124 : 0 ≤ Xi T10 904 3 ∧ Xi T10 904 3 ≤ 5000 := hHT10.c _ _
            refine l_aload_n rfl rfl ?_
            refine l_gfr rfl rfl rfl rfl rfl (hHT10.r 904 7 910 rfl) ?_
            refine l_iload_n rfl rfl ?_
            refine l_lload rfl rfl ?_
            refine l_lastore (n := 5002) rfl rfl (by omega) (by omega) (by unfold rg; omega) ?_
            obtain ⟨U11, eU11⟩ : ∃ T : sS, T = uJ T10 910 ((v1).toNat) (Int64.ofInt v5) := ⟨_, rfl⟩
            rw [← eU11]
            have hHU11 : HI U11 := by rw [eU11]; exact HI_J hHT10
            have hFU11 : FR md_mo_cut__f S U11 := by rw [eU11]; exact FR.wJ hFT10 (mdf_i (r := (910, 911, 0, 100000)) (List.mem_of_getElem? (i := 3) rfl) (inR_i (by omega) (by omega) (by omega) (by omega)))
            have c248 : CT U11 v1 v2 := C241.mv (fun k _ _ i _ => by rw [eU11]; rfl)
            have u248 : CV (Xi S 906) (Xj S 911) (Xi S 904 3) U11 v1 := CV241.j eU11 (by omega)
            refine l_aload_n rfl rfl ?_
            refine l_gfr rfl rfl rfl rfl rfl (hHU11.r 904 4 907 rfl) ?_
            refine l_iload_n rfl rfl ?_
            refine l_iload rfl rfl ?_
            refine l_iload_n rfl rfl ?_
            refine l_isub rfl ?_
            refine l_bipush rfl rfl ?_
            refine l_icmp_le rfl rfl (by unfold rg; omega) (by unfold rg; omega) (fun w125 => ?_) (fun w126 => ?_)
            · refine l_iconst rfl ?_
              refine l_iastore (n := 5002) rfl rfl (by omega) (by omega) (by unfold rg; omega) ?_
              obtain ⟨U12, eU12⟩ : ∃ T : sS, T = uI U11 907 ((v1).toNat) (Int32.ofInt 4) := ⟨_, rfl⟩
              rw [← eU12]
              have hHU12 : HI U12 := by rw [eU12]; exact HI_w hHU11 (show 0 ≤ 4 by omega) (show 4 ≤ 154 by omega)
              have hFU12 : FR md_mo_cut__f S U12 := by rw [eU12]; exact FR.wI hFU11 (mdf_i (r := (907, 908, 0, 100000)) (List.mem_of_getElem? (i := 0) rfl) (inR_i (by omega) (by omega) (by omega) (by omega)))
              have w127 : Xi U12 907 ((v1).toNat) = 4 := by rw [eU12]; exact Xi_same (by unfold rg; omega)
              have c268 : CT U12 v1 v2 := c248.w eU12 (by omega)
              have u268 : CV (Xi S 906) (Xj S 911) (Xi S 904 3) U12 v1 := u248.w eU12 (by omega) (by omega)
              have r268 : RM7 (Xi S 906) (Xj S 911) (Xi S 904 3) U12 (v1).toNat := by first | exact rm_d D241 (by rw [eU12, Xi_ne (by omega), eU11, Xi_J]; omega) (by omega) (by omega) hw241 h241 (by omega) (by rw [eU12, Xj_I, eU11, Xj_same (by unfold rgL; omega)]; exact V241) (by rw [eU12]; exact Xi_same (by unfold rg; omega)) (by omega) | exact rm_dx D241 (by rw [eU12, Xi_ne (by omega), eU11, Xi_J]; omega) (by omega) (by omega) hw241 h241 (by omega) (by rw [eU12]; exact Xi_same (by unfold rg; omega)) | (exfalso; omega)
              refine l_goto rfl rfl ?_
              have w128 : Xi U12 908 (v1).toNat = Xi T10 908 (v1).toNat := (show Xi U12 908 (v1).toNat = Xi U11 908 (v1).toNat from by rw [eU12]; exact Xi_ne (by omega)).trans ((show Xi U11 908 (v1).toNat = Xi T10 908 (v1).toNat from by rw [eU11]; rfl))
              have w129 : Xi U12 909 (v1).toNat = Xi T10 909 (v1).toNat := (show Xi U12 909 (v1).toNat = Xi U11 909 (v1).toNat from by rw [eU12]; exact Xi_ne (by omega)).trans ((show Xi U11 909 (v1).toNat = Xi T10 909 (v1).toNat from by rw [eU11]; rfl))
              have w130 : Xi U12 904 3 = Xi T10 904 3 := (show Xi U12 904 3 = Xi U11 904 3 from by rw [eU12]; exact Xi_ne (by omega)).trans ((show Xi U11 904 3 = Xi T10 904 3 from by rw [eU11]; rfl))
              exact Rl_weak (C426 U12 hHU12 hFU12 (v1) (v4) (by omega) (by omega) (by rw [show Xi U12 908 (v1).toNat = v2 by omega]; assumption) (by omega) (by omega) (by omega) (by omega) (by omega) (by omega) (by omega) (by first | exact fun q => ⟨by have := k153 q; omega, by have := k153 q; omega⟩ | exact fun q => absurd q (by unfold K3; omega)) (by first | exact u153 | exact u268 | exact u384 | exact u425) (by first | exact r153 | exact r268 | exact r384 | exact r425) (by first | (exact fun q => rm_qw (by first | exact r153) q hw86 (by omega) W86) | (exact fun q => rm_qd (by first | exact r268) q hw241 h241 (by omega) D241) | (exact fun q => rm_qt (by first | exact r384) q h337 (by omega) T337) | (exact fun q => rm_qp (by first | exact r425) q (by omega) (lt7_0 (by omega)) (by omega) (by omega))) (by omega)) (And.intro rfl (And.intro rfl (And.intro rfl (True.intro))))
            · refine l_iconst rfl ?_
              refine l_goto rfl rfl ?_
              refine l_iastore (n := 5002) rfl rfl (by omega) (by omega) (by unfold rg; omega) ?_
              obtain ⟨U13, eU13⟩ : ∃ T : sS, T = uI U11 907 ((v1).toNat) (Int32.ofInt 2) := ⟨_, rfl⟩
              rw [← eU13]
              have hHU13 : HI U13 := by rw [eU13]; exact HI_w hHU11 (show 0 ≤ 2 by omega) (show 2 ≤ 154 by omega)
              have hFU13 : FR md_mo_cut__f S U13 := by rw [eU13]; exact FR.wI hFU11 (mdf_i (r := (907, 908, 0, 100000)) (List.mem_of_getElem? (i := 0) rfl) (inR_i (by omega) (by omega) (by omega) (by omega)))
              have w132 : Xi U13 907 ((v1).toNat) = 2 := by rw [eU13]; exact Xi_same (by unfold rg; omega)
              have c268 : CT U13 v1 v2 := c248.w eU13 (by omega)
              have u268 : CV (Xi S 906) (Xj S 911) (Xi S 904 3) U13 v1 := u248.w eU13 (by omega) (by omega)
              have r268 : RM7 (Xi S 906) (Xj S 911) (Xi S 904 3) U13 (v1).toNat := by first | exact rm_d D241 (by rw [eU13, Xi_ne (by omega), eU11, Xi_J]; omega) (by omega) (by omega) hw241 h241 (by omega) (by rw [eU13, Xj_I, eU11, Xj_same (by unfold rgL; omega)]; exact V241) (by rw [eU13]; exact Xi_same (by unfold rg; omega)) (by omega) | exact rm_dx D241 (by rw [eU13, Xi_ne (by omega), eU11, Xi_J]; omega) (by omega) (by omega) hw241 h241 (by omega) (by rw [eU13]; exact Xi_same (by unfold rg; omega)) | (exfalso; omega)
              refine l_goto rfl rfl ?_
              have w133 : Xi U13 908 (v1).toNat = Xi T10 908 (v1).toNat := (show Xi U13 908 (v1).toNat = Xi U11 908 (v1).toNat from by rw [eU13]; exact Xi_ne (by omega)).trans ((show Xi U11 908 (v1).toNat = Xi T10 908 (v1).toNat from by rw [eU11]; rfl))
              have w134 : Xi U13 909 (v1).toNat = Xi T10 909 (v1).toNat := (show Xi U13 909 (v1).toNat = Xi U11 909 (v1).toNat from by rw [eU13]; exact Xi_ne (by omega)).trans ((show Xi U11 909 (v1).toNat = Xi T10 909 (v1).toNat from by rw [eU11]; rfl))
              have w135 : Xi U13 904 3 = Xi T10 904 3 := (show Xi U13 904 3 = Xi U11 904 3 from by rw [eU13]; exact Xi_ne (by omega)).trans ((show Xi U11 904 3 = Xi T10 904 3 from by rw [eU11]; rfl))
              exact Rl_weak (C426 U13 hHU13 hFU13 (v1) (v4) (by omega) (by omega) (by rw [show Xi U13 908 (v1).toNat = v2 by omega]; assumption) (by omega) (by omega) (by omega) (by omega) (by omega) (by omega) (by omega) (by first | exact fun q => ⟨by have := k153 q; omega, by have := k153 q; omega⟩ | exact fun q => absurd q (by unfold K3; omega)) (by first | exact u153 | exact u268 | exact u384 | exact u425) (by first | exact r153 | exact r268 | exact r384 | exact r425) (by first | (exact fun q => rm_qw (by first | exact r153) q hw86 (by omega) W86) | (exact fun q => rm_qd (by first | exact r268) q hw241 h241 (by omega) D241) | (exact fun q => rm_qt (by first | exact r384) q h337 (by omega) T337) | (exact fun q => rm_qp (by first | exact r425) q (by omega) (lt7_0 (by omega)) (by omega) (by omega))) (by omega)) (And.intro rfl (And.intro rfl (And.intro rfl (True.intro))))
          refine l_iload rfl rfl ?_
          refine l_aload_n rfl rfl ?_
          refine l_gfi rfl rfl rfl rfl rfl ?_
          refine l_icmp_ge rfl rfl (by unfold rg; omega) (by unfold rg; omega) (fun w137 => ?_) (fun w138 => ?_)
          · have w139 : 0 ≤ Xi T9 904 3 ∧ Xi T9 904 3 ≤ 5000 := hHT9.c _ _
            exact Rl_weak (C241 T9 hHT9 hFT9 (v1) (v2) (v4) (v5) (by omega) (by omega) (by omega) (C174) (by omega) (by omega) (by omega) (by omega) (by omega) (by omega) (CV174) (D174.trans (de7_n (fun _ _ _ => by omega))) (V174) (hw174) (h174) (by omega) (by omega)) (And.intro rfl (And.intro rfl (And.intro rfl (And.intro rfl (And.intro rfl (True.intro))))))
          · refine l_aload_n rfl rfl ?_
            refine l_gfr rfl rfl rfl rfl rfl (hHT9.r 904 2 906 rfl) ?_
            refine l_iload rfl rfl ?_
            refine l_baload (n := 5000) rfl rfl rfl (by decide) (by omega) (by omega) (by unfold rg; omega) ?_
            have w140 : -128 ≤ (Xi T9 906 ((v4).toNat)) ∧ (Xi T9 906 ((v4).toNat)) ≤ 127 := hHT9.c _ _
            have e189 : (Xi T9 906 ((v4).toNat)) = Xi S 906 (v4).toNat := by first | rfl | exact (hFT9.cx 906 rfl _).1
            have n189 : (Xi T9 906 ((v4).toNat)) = Xi S 906 (v4).toNat := e189
            refine l_bipush rfl rfl ?_
            refine l_bipush rfl rfl ?_
            refine l_callS rfl rfl (by decide) rfl (t_mo_in hHT9 (Xi T9 906 ((v4).toNat)) 48 57 ⟨by omega, by omega⟩ ⟨by omega, by omega⟩ ⟨by omega, by omega⟩ _) ?_
            rintro _ _ ⟨rfl, z143, rfl, w143, w142⟩
            show Rl _ _ _ _ _ [iv z143] _ _
            refine l_if_eq rfl rfl (by unfold rg; omega) (fun w144 => ?_) (fun w145 => ?_)
            · have w146 : 0 ≤ Xi T9 904 3 ∧ Xi T9 904 3 ≤ 5000 := hHT9.c _ _
              exact Rl_weak (C241 T9 hHT9 hFT9 (v1) (v2) (v4) (v5) (by omega) (by omega) (by omega) (C174) (by omega) (by omega) (by omega) (by omega) (by omega) (by omega) (CV174) (D174.trans (de7_n (fun _ _ _ => by omega))) (V174) (hw174) (h174) (by omega) (by omega)) (And.intro rfl (And.intro rfl (And.intro rfl (And.intro rfl (And.intro rfl (True.intro))))))
            · refine l_iload rfl rfl ?_
              refine l_iload_n rfl rfl ?_
              refine l_isub rfl ?_
              refine l_bipush rfl rfl ?_
              refine l_icmp_ge rfl rfl (by unfold rg; omega) (by unfold rg; omega) (fun w147 => ?_) (fun w148 => ?_)
              · refine l_lload rfl rfl ?_
                refine l_lstore rfl rfl rfl rfl ?_
                refine l_iinc rfl rfl rfl rfl ?_
                refine l_goto rfl rfl ?_
                exact Rl_weak (ih174 _ (by omega) T9 hHT9 hFT9 (v1) (v2) ((v4 + 1)) (v5) (by omega) (by omega) (by omega) (by first | exact C174 | exact c50) (by omega) (by omega) (by omega) (by omega) (by omega) (by omega) (by omega) (by first | exact CV174 | exact u50) (by first | rfl | exact D174.trans (de7_s (by omega) (by omega) (by omega))) (by first | exact dv_0 | exact dv_m (by omega) (by omega) (by omega) V174 (by omega) | exact dv_l (by omega) V174) (by first | exact hw174 | exact lt7_0 (by omega)) (by first | exact h174 | omega) (by omega) (by omega) (by omega) (by omega) (by omega) (by omega) (by omega) (by omega) rfl) (And.intro rfl (And.intro rfl (And.intro rfl (And.intro rfl (And.intro rfl (True.intro))))))
              · refine l_ldc2 (z := 10) rfl rfl ?_
                refine l_lload rfl rfl ?_
                refine l_lmul rfl ?_
                refine l_aload_n rfl rfl ?_
                refine l_gfr rfl rfl rfl rfl rfl (hHT9.r 904 2 906 rfl) ?_
                refine l_iload rfl rfl ?_
                refine l_baload (n := 5000) rfl rfl rfl (by decide) (by omega) (by omega) (by unfold rg; omega) ?_
                refine l_i2l rfl (by unfold rg; omega) ?_
                refine l_ladd rfl ?_
                refine l_ldc2 (z := 48) rfl rfl ?_
                refine l_lsub rfl ?_
                refine l_goto rfl rfl ?_
                refine l_lstore rfl rfl rfl rfl ?_
                refine l_iinc rfl rfl rfl rfl ?_
                refine l_goto rfl rfl ?_
                exact Rl_weak (ih174 _ (by omega) T9 hHT9 hFT9 (v1) (v2) ((v4 + 1)) ((((10 * v5) + (Xi T9 906 ((v4).toNat))) - 48)) (by omega) (by omega) (by omega) (by first | exact C174 | exact c50) (by omega) (by omega) (by omega) (by omega) (by omega) (by omega) (by omega) (by first | exact CV174 | exact u50) (by first | rfl | exact D174.trans (de7_s (by omega) (by omega) (by omega))) (by first | exact dv_0 | exact dv_m (by omega) (by omega) (by omega) V174 (by omega) | exact dv_l (by omega) V174) (by first | exact hw174 | exact lt7_0 (by omega)) (by first | exact h174 | omega) (by omega) (by omega) (by omega) (by omega) (by omega) (by omega) (by omega) (by omega) rfl) (And.intro rfl (And.intro rfl (And.intro rfl (And.intro rfl (And.intro rfl (True.intro))))))
      have C281 : ∀ (n281 : Nat) (T14 : sS) (_ : HI T14) (_ : FR md_mo_cut__f S T14) (v1 : Int) (v2 : Int) (v4 : Int) (v5 : Int), (0 ≤ v1 ∧ v1 ≤ 5000) → (0 ≤ v2 ∧ v2 ≤ 4999) → (1 ≤ v4 ∧ v4 ≤ 5000) → (0 ≤ v5 ∧ v5 ≤ 1) → (CT T14 v1 v2) → (v1 ≤ v2) → (v2 < Xi S 904 3) → (Xi T14 904 3 = Xi S 904 3) → (v2 < v4) → (v4 ≤ Xi S 904 3) → (Xi T14 908 (v1).toNat = v2) → (CV (Xi S 906) (Xj S 911) (Xi S 904 3) T14 v1) → (te7 (Xi S 906) (Xi S 904 3) (v2 + 1) = te7 (Xi S 906) (Xi S 904 3) v4) → (v5 = gdF (Xi S 906) (v2 + 1).toNat (v4 - (v2 + 1)).toNat) → (Xi S 906 (v2).toNat = 34) → ((5002 - v2).toNat ≤ n8) → n281 = (5002 - v4).toNat → Rl lay0 (d + 3) m_mo_cut 281 [(0, .ref 904), (1, iv v1), (2, iv v2), (4, iv v4), (5, iv v5)] [] T14 (Q_mo_cut__f S) := by
        intro n281
        induction n281 using Nat.strongRecOn with
        | ind n281 ih281 =>
          intro T14 hHT14 hFT14 v1 v2 v4 v5 w151 w152 w153 w154 C281 w155 w156 w157 w158 w159 w160 CV281 T281 G281 h281 w161 hm281
          have w162 : Xi T14 904 3 = Xi S 904 3 := hFT14.x _ _ rfl
          have w163 : 0 ≤ Xi T14 904 3 ∧ Xi T14 904 3 ≤ 5000 := hHT14.c _ _
          have C337 : ∀  (T15 : sS) (_ : HI T15) (_ : FR md_mo_cut__f S T15) (v1 : Int) (v2 : Int) (v4 : Int) (v5 : Int), (0 ≤ v1 ∧ v1 ≤ 5000) → (0 ≤ v2 ∧ v2 ≤ 4999) → (1 ≤ v4 ∧ v4 ≤ 5000) → (0 ≤ v5 ∧ v5 ≤ 1) → (CT T15 v1 v2) → (v1 ≤ v2) → (v2 < Xi S 904 3) → (Xi T15 904 3 = Xi S 904 3) → (v2 < v4) → (v4 ≤ Xi S 904 3) → (Xi T15 908 (v1).toNat = v2) → (CV (Xi S 906) (Xj S 911) (Xi S 904 3) T15 v1) → (te7 (Xi S 906) (Xi S 904 3) (v2 + 1) = v4) → (v5 = gdF (Xi S 906) (v2 + 1).toNat (v4 - (v2 + 1)).toNat) → (Xi S 906 (v2).toNat = 34) → ((5002 - v2).toNat ≤ n8) → Rl lay0 (d + 3) m_mo_cut 337 [(0, .ref 904), (1, iv v1), (2, iv v2), (4, iv v4), (5, iv v5)] [] T15 (Q_mo_cut__f S) := by
            intro T15 hHT15 hFT15 v1 v2 v4 v5 w164 w165 w166 w167 C337 w168 w169 w170 w171 w172 w173 CV337 T337 G337 h337 w174
            have w175 : Xi T15 904 3 = Xi S 904 3 := hFT15.x _ _ rfl
            have w176 : 0 ≤ Xi T15 904 3 ∧ Xi T15 904 3 ≤ 5000 := hHT15.c _ _
            refine l_aload_n rfl rfl ?_
            refine l_gfr rfl rfl rfl rfl rfl (hHT15.r 904 4 907 rfl) ?_
            refine l_iload_n rfl rfl ?_
            refine l_iload rfl rfl ?_
            refine l_if_eq rfl rfl (by unfold rg; omega) (fun w177 => ?_) (fun w178 => ?_)
            · refine l_iconst rfl ?_
              refine l_iastore (n := 5002) rfl rfl (by omega) (by omega) (by unfold rg; omega) ?_
              obtain ⟨U16, eU16⟩ : ∃ T : sS, T = uI T15 907 ((v1).toNat) (Int32.ofInt 2) := ⟨_, rfl⟩
              rw [← eU16]
              have hHU16 : HI U16 := by rw [eU16]; exact HI_w hHT15 (show 0 ≤ 2 by omega) (show 2 ≤ 154 by omega)
              have hFU16 : FR md_mo_cut__f S U16 := by rw [eU16]; exact FR.wI hFT15 (mdf_i (r := (907, 908, 0, 100000)) (List.mem_of_getElem? (i := 0) rfl) (inR_i (by omega) (by omega) (by omega) (by omega)))
              have w179 : Xi U16 907 ((v1).toNat) = 2 := by rw [eU16]; exact Xi_same (by unfold rg; omega)
              have c372 : CT U16 v1 v2 := C337.w eU16 (by omega)
              have u372 : CV (Xi S 906) (Xj S 911) (Xi S 904 3) U16 v1 := CV337.w eU16 (by omega) (by omega)
              refine l_aload_n rfl rfl ?_
              refine l_gfr rfl rfl rfl rfl rfl (hHU16.r 904 6 909 rfl) ?_
              refine l_iload_n rfl rfl ?_
              refine l_iload rfl rfl ?_
              refine l_iload_n rfl rfl ?_
              refine l_isub rfl ?_
              refine l_iconst rfl ?_
              refine l_isub rfl ?_
              refine l_iastore (n := 5002) rfl rfl (by omega) (by omega) (by unfold rg; omega) ?_
              obtain ⟨U17, eU17⟩ : ∃ T : sS, T = uI U16 909 ((v1).toNat) (Int32.ofInt ((v4 - v2) - 1)) := ⟨_, rfl⟩
              rw [← eU17]
              have hHU17 : HI U17 := by rw [eU17]; exact HI_w hHU16 (show 0 ≤ ((v4 - v2) - 1) by omega) (show ((v4 - v2) - 1) ≤ 5000 by omega)
              have hFU17 : FR md_mo_cut__f S U17 := by rw [eU17]; exact FR.wI hFU16 (mdf_i (r := (909, 910, 0, 100000)) (List.mem_of_getElem? (i := 2) rfl) (inR_i (by omega) (by omega) (by omega) (by omega)))
              have w180 : Xi U17 909 ((v1).toNat) = ((v4 - v2) - 1) := by rw [eU17]; exact Xi_same (by unfold rg; omega)
              have c384 : CT U17 v1 v2 := c372.w eU17 (by omega)
              have u384 : CV (Xi S 906) (Xj S 911) (Xi S 904 3) U17 v1 := u372.w eU17 (by omega) (by omega)
              have r384 : RM7 (Xi S 906) (Xj S 911) (Xi S 904 3) U17 (v1).toNat := by first | exact rm_t T337 G337 (by rw [eU17, Xi_ne (by omega), eU16, Xi_ne (by omega)]; omega) (by omega) (by omega) h337 (by omega) (by omega) (by omega) (by rw [eU17]; exact Xi_same (by unfold rg; omega)) (by rw [eU17, Xi_ne (by omega), eU16]; exact Xi_same (by unfold rg; omega)) (by omega) | exact rm_tx T337 G337 (by rw [eU17, Xi_ne (by omega), eU16, Xi_ne (by omega)]; omega) (by omega) (by omega) h337 (by omega) (by rw [eU17, Xi_ne (by omega), eU16]; exact Xi_same (by unfold rg; omega)) | (exfalso; omega)
              refine l_iinc rfl rfl rfl rfl ?_
              refine l_goto rfl rfl ?_
              have w181 : Xi U17 908 (v1).toNat = Xi T15 908 (v1).toNat := (show Xi U17 908 (v1).toNat = Xi U16 908 (v1).toNat from by rw [eU17]; exact Xi_ne (by omega)).trans ((show Xi U16 908 (v1).toNat = Xi T15 908 (v1).toNat from by rw [eU16]; exact Xi_ne (by omega)))
              have w182 : Xi U17 907 (v1).toNat = Xi U16 907 (v1).toNat := (show Xi U17 907 (v1).toNat = Xi U16 907 (v1).toNat from by rw [eU17]; exact Xi_ne (by omega))
              have w183 : Xi U17 904 3 = Xi T15 904 3 := (show Xi U17 904 3 = Xi U16 904 3 from by rw [eU17]; exact Xi_ne (by omega)).trans ((show Xi U16 904 3 = Xi T15 904 3 from by rw [eU16]; exact Xi_ne (by omega)))
              exact Rl_weak (C426 U17 hHU17 hFU17 (v1) ((v4 + 1)) (by omega) (by omega) (by rw [show Xi U17 908 (v1).toNat = v2 by omega]; assumption) (by omega) (by omega) (by omega) (by omega) (by omega) (by omega) (by omega) (by first | exact fun q => ⟨by have := k153 q; omega, by have := k153 q; omega⟩ | exact fun q => absurd q (by unfold K3; omega)) (by first | exact u153 | exact u268 | exact u384 | exact u425) (by first | exact r153 | exact r268 | exact r384 | exact r425) (by first | (exact fun q => rm_qw (by first | exact r153) q hw86 (by omega) W86) | (exact fun q => rm_qd (by first | exact r268) q hw241 h241 (by omega) D241) | (exact fun q => rm_qt (by first | exact r384) q h337 (by omega) T337) | (exact fun q => rm_qp (by first | exact r425) q (by omega) (lt7_0 (by omega)) (by omega) (by omega))) (by omega)) (And.intro rfl (And.intro rfl (And.intro rfl (True.intro))))
            · refine l_iload rfl rfl ?_
              refine l_aload_n rfl rfl ?_
              refine l_gfi rfl rfl rfl rfl rfl ?_
              refine l_icmp_ge rfl rfl (by unfold rg; omega) (by unfold rg; omega) (fun w185 => ?_) (fun w186 => ?_)
              · refine l_iconst rfl ?_
                refine l_iastore (n := 5002) rfl rfl (by omega) (by omega) (by unfold rg; omega) ?_
                obtain ⟨U18, eU18⟩ : ∃ T : sS, T = uI T15 907 ((v1).toNat) (Int32.ofInt 2) := ⟨_, rfl⟩
                rw [← eU18]
                have hHU18 : HI U18 := by rw [eU18]; exact HI_w hHT15 (show 0 ≤ 2 by omega) (show 2 ≤ 154 by omega)
                have hFU18 : FR md_mo_cut__f S U18 := by rw [eU18]; exact FR.wI hFT15 (mdf_i (r := (907, 908, 0, 100000)) (List.mem_of_getElem? (i := 0) rfl) (inR_i (by omega) (by omega) (by omega) (by omega)))
                have w187 : Xi U18 907 ((v1).toNat) = 2 := by rw [eU18]; exact Xi_same (by unfold rg; omega)
                have c372 : CT U18 v1 v2 := C337.w eU18 (by omega)
                have u372 : CV (Xi S 906) (Xj S 911) (Xi S 904 3) U18 v1 := CV337.w eU18 (by omega) (by omega)
                refine l_aload_n rfl rfl ?_
                refine l_gfr rfl rfl rfl rfl rfl (hHU18.r 904 6 909 rfl) ?_
                refine l_iload_n rfl rfl ?_
                refine l_iload rfl rfl ?_
                refine l_iload_n rfl rfl ?_
                refine l_isub rfl ?_
                refine l_iconst rfl ?_
                refine l_isub rfl ?_
                refine l_iastore (n := 5002) rfl rfl (by omega) (by omega) (by unfold rg; omega) ?_
                obtain ⟨U19, eU19⟩ : ∃ T : sS, T = uI U18 909 ((v1).toNat) (Int32.ofInt ((v4 - v2) - 1)) := ⟨_, rfl⟩
                rw [← eU19]
                have hHU19 : HI U19 := by rw [eU19]; exact HI_w hHU18 (show 0 ≤ ((v4 - v2) - 1) by omega) (show ((v4 - v2) - 1) ≤ 5000 by omega)
                have hFU19 : FR md_mo_cut__f S U19 := by rw [eU19]; exact FR.wI hFU18 (mdf_i (r := (909, 910, 0, 100000)) (List.mem_of_getElem? (i := 2) rfl) (inR_i (by omega) (by omega) (by omega) (by omega)))
                have w188 : Xi U19 909 ((v1).toNat) = ((v4 - v2) - 1) := by rw [eU19]; exact Xi_same (by unfold rg; omega)
                have c384 : CT U19 v1 v2 := c372.w eU19 (by omega)
                have u384 : CV (Xi S 906) (Xj S 911) (Xi S 904 3) U19 v1 := u372.w eU19 (by omega) (by omega)
                have r384 : RM7 (Xi S 906) (Xj S 911) (Xi S 904 3) U19 (v1).toNat := by first | exact rm_t T337 G337 (by rw [eU19, Xi_ne (by omega), eU18, Xi_ne (by omega)]; omega) (by omega) (by omega) h337 (by omega) (by omega) (by omega) (by rw [eU19]; exact Xi_same (by unfold rg; omega)) (by rw [eU19, Xi_ne (by omega), eU18]; exact Xi_same (by unfold rg; omega)) (by omega) | exact rm_tx T337 G337 (by rw [eU19, Xi_ne (by omega), eU18, Xi_ne (by omega)]; omega) (by omega) (by omega) h337 (by omega) (by rw [eU19, Xi_ne (by omega), eU18]; exact Xi_same (by unfold rg; omega)) | (exfalso; omega)
                refine l_iinc rfl rfl rfl rfl ?_
                refine l_goto rfl rfl ?_
                have w189 : Xi U19 908 (v1).toNat = Xi T15 908 (v1).toNat := (show Xi U19 908 (v1).toNat = Xi U18 908 (v1).toNat from by rw [eU19]; exact Xi_ne (by omega)).trans ((show Xi U18 908 (v1).toNat = Xi T15 908 (v1).toNat from by rw [eU18]; exact Xi_ne (by omega)))
                have w190 : Xi U19 907 (v1).toNat = Xi U18 907 (v1).toNat := (show Xi U19 907 (v1).toNat = Xi U18 907 (v1).toNat from by rw [eU19]; exact Xi_ne (by omega))
                have w191 : Xi U19 904 3 = Xi T15 904 3 := (show Xi U19 904 3 = Xi U18 904 3 from by rw [eU19]; exact Xi_ne (by omega)).trans ((show Xi U18 904 3 = Xi T15 904 3 from by rw [eU18]; exact Xi_ne (by omega)))
                exact Rl_weak (C426 U19 hHU19 hFU19 (v1) ((v4 + 1)) (by omega) (by omega) (by rw [show Xi U19 908 (v1).toNat = v2 by omega]; assumption) (by omega) (by omega) (by omega) (by omega) (by omega) (by omega) (by omega) (by first | exact fun q => ⟨by have := k153 q; omega, by have := k153 q; omega⟩ | exact fun q => absurd q (by unfold K3; omega)) (by first | exact u153 | exact u268 | exact u384 | exact u425) (by first | exact r153 | exact r268 | exact r384 | exact r425) (by first | (exact fun q => rm_qw (by first | exact r153) q hw86 (by omega) W86) | (exact fun q => rm_qd (by first | exact r268) q hw241 h241 (by omega) D241) | (exact fun q => rm_qt (by first | exact r384) q h337 (by omega) T337) | (exact fun q => rm_qp (by first | exact r425) q (by omega) (lt7_0 (by omega)) (by omega) (by omega))) (by omega)) (And.intro rfl (And.intro rfl (And.intro rfl (True.intro))))
              · refine l_iload rfl rfl ?_
                refine l_iload_n rfl rfl ?_
                refine l_isub rfl ?_
                refine l_iconst rfl ?_
                refine l_isub rfl ?_
                refine l_bipush rfl rfl ?_
                refine l_icmp_gt rfl rfl (by unfold rg; omega) (by unfold rg; omega) (fun w193 => ?_) (fun w194 => ?_)
                · refine l_iconst rfl ?_
                  refine l_iastore (n := 5002) rfl rfl (by omega) (by omega) (by unfold rg; omega) ?_
                  obtain ⟨U20, eU20⟩ : ∃ T : sS, T = uI T15 907 ((v1).toNat) (Int32.ofInt 2) := ⟨_, rfl⟩
                  rw [← eU20]
                  have hHU20 : HI U20 := by rw [eU20]; exact HI_w hHT15 (show 0 ≤ 2 by omega) (show 2 ≤ 154 by omega)
                  have hFU20 : FR md_mo_cut__f S U20 := by rw [eU20]; exact FR.wI hFT15 (mdf_i (r := (907, 908, 0, 100000)) (List.mem_of_getElem? (i := 0) rfl) (inR_i (by omega) (by omega) (by omega) (by omega)))
                  have w195 : Xi U20 907 ((v1).toNat) = 2 := by rw [eU20]; exact Xi_same (by unfold rg; omega)
                  have c372 : CT U20 v1 v2 := C337.w eU20 (by omega)
                  have u372 : CV (Xi S 906) (Xj S 911) (Xi S 904 3) U20 v1 := CV337.w eU20 (by omega) (by omega)
                  refine l_aload_n rfl rfl ?_
                  refine l_gfr rfl rfl rfl rfl rfl (hHU20.r 904 6 909 rfl) ?_
                  refine l_iload_n rfl rfl ?_
                  refine l_iload rfl rfl ?_
                  refine l_iload_n rfl rfl ?_
                  refine l_isub rfl ?_
                  refine l_iconst rfl ?_
                  refine l_isub rfl ?_
                  refine l_iastore (n := 5002) rfl rfl (by omega) (by omega) (by unfold rg; omega) ?_
                  obtain ⟨U21, eU21⟩ : ∃ T : sS, T = uI U20 909 ((v1).toNat) (Int32.ofInt ((v4 - v2) - 1)) := ⟨_, rfl⟩
                  rw [← eU21]
                  have hHU21 : HI U21 := by rw [eU21]; exact HI_w hHU20 (show 0 ≤ ((v4 - v2) - 1) by omega) (show ((v4 - v2) - 1) ≤ 5000 by omega)
                  have hFU21 : FR md_mo_cut__f S U21 := by rw [eU21]; exact FR.wI hFU20 (mdf_i (r := (909, 910, 0, 100000)) (List.mem_of_getElem? (i := 2) rfl) (inR_i (by omega) (by omega) (by omega) (by omega)))
                  have w196 : Xi U21 909 ((v1).toNat) = ((v4 - v2) - 1) := by rw [eU21]; exact Xi_same (by unfold rg; omega)
                  have c384 : CT U21 v1 v2 := c372.w eU21 (by omega)
                  have u384 : CV (Xi S 906) (Xj S 911) (Xi S 904 3) U21 v1 := u372.w eU21 (by omega) (by omega)
                  have r384 : RM7 (Xi S 906) (Xj S 911) (Xi S 904 3) U21 (v1).toNat := by first | exact rm_t T337 G337 (by rw [eU21, Xi_ne (by omega), eU20, Xi_ne (by omega)]; omega) (by omega) (by omega) h337 (by omega) (by omega) (by omega) (by rw [eU21]; exact Xi_same (by unfold rg; omega)) (by rw [eU21, Xi_ne (by omega), eU20]; exact Xi_same (by unfold rg; omega)) (by omega) | exact rm_tx T337 G337 (by rw [eU21, Xi_ne (by omega), eU20, Xi_ne (by omega)]; omega) (by omega) (by omega) h337 (by omega) (by rw [eU21, Xi_ne (by omega), eU20]; exact Xi_same (by unfold rg; omega)) | (exfalso; omega)
                  refine l_iinc rfl rfl rfl rfl ?_
                  refine l_goto rfl rfl ?_
                  have w197 : Xi U21 908 (v1).toNat = Xi T15 908 (v1).toNat := (show Xi U21 908 (v1).toNat = Xi U20 908 (v1).toNat from by rw [eU21]; exact Xi_ne (by omega)).trans ((show Xi U20 908 (v1).toNat = Xi T15 908 (v1).toNat from by rw [eU20]; exact Xi_ne (by omega)))
                  have w198 : Xi U21 907 (v1).toNat = Xi U20 907 (v1).toNat := (show Xi U21 907 (v1).toNat = Xi U20 907 (v1).toNat from by rw [eU21]; exact Xi_ne (by omega))
                  have w199 : Xi U21 904 3 = Xi T15 904 3 := (show Xi U21 904 3 = Xi U20 904 3 from by rw [eU21]; exact Xi_ne (by omega)).trans ((show Xi U20 904 3 = Xi T15 904 3 from by rw [eU20]; exact Xi_ne (by omega)))
                  exact Rl_weak (C426 U21 hHU21 hFU21 (v1) ((v4 + 1)) (by omega) (by omega) (by rw [show Xi U21 908 (v1).toNat = v2 by omega]; assumption) (by omega) (by omega) (by omega) (by omega) (by omega) (by omega) (by omega) (by first | exact fun q => ⟨by have := k153 q; omega, by have := k153 q; omega⟩ | exact fun q => absurd q (by unfold K3; omega)) (by first | exact u153 | exact u268 | exact u384 | exact u425) (by first | exact r153 | exact r268 | exact r384 | exact r425) (by first | (exact fun q => rm_qw (by first | exact r153) q hw86 (by omega) W86) | (exact fun q => rm_qd (by first | exact r268) q hw241 h241 (by omega) D241) | (exact fun q => rm_qt (by first | exact r384) q h337 (by omega) T337) | (exact fun q => rm_qp (by first | exact r425) q (by omega) (lt7_0 (by omega)) (by omega) (by omega))) (by omega)) (And.intro rfl (And.intro rfl (And.intro rfl (True.intro))))
                · refine l_iconst rfl ?_
                  refine l_goto rfl rfl ?_
                  refine l_iastore (n := 5002) rfl rfl (by omega) (by omega) (by unfold rg; omega) ?_
                  obtain ⟨U22, eU22⟩ : ∃ T : sS, T = uI T15 907 ((v1).toNat) (Int32.ofInt 5) := ⟨_, rfl⟩
                  rw [← eU22]
                  have hHU22 : HI U22 := by rw [eU22]; exact HI_w hHT15 (show 0 ≤ 5 by omega) (show 5 ≤ 154 by omega)
                  have hFU22 : FR md_mo_cut__f S U22 := by rw [eU22]; exact FR.wI hFT15 (mdf_i (r := (907, 908, 0, 100000)) (List.mem_of_getElem? (i := 0) rfl) (inR_i (by omega) (by omega) (by omega) (by omega)))
                  have w201 : Xi U22 907 ((v1).toNat) = 5 := by rw [eU22]; exact Xi_same (by unfold rg; omega)
                  have c372 : CT U22 v1 v2 := C337.w eU22 (by omega)
                  have u372 : CV (Xi S 906) (Xj S 911) (Xi S 904 3) U22 v1 := CV337.w eU22 (by omega) (by omega)
                  refine l_aload_n rfl rfl ?_
                  refine l_gfr rfl rfl rfl rfl rfl (hHU22.r 904 6 909 rfl) ?_
                  refine l_iload_n rfl rfl ?_
                  refine l_iload rfl rfl ?_
                  refine l_iload_n rfl rfl ?_
                  refine l_isub rfl ?_
                  refine l_iconst rfl ?_
                  refine l_isub rfl ?_
                  refine l_iastore (n := 5002) rfl rfl (by omega) (by omega) (by unfold rg; omega) ?_
                  obtain ⟨U23, eU23⟩ : ∃ T : sS, T = uI U22 909 ((v1).toNat) (Int32.ofInt ((v4 - v2) - 1)) := ⟨_, rfl⟩
                  rw [← eU23]
                  have hHU23 : HI U23 := by rw [eU23]; exact HI_w hHU22 (show 0 ≤ ((v4 - v2) - 1) by omega) (show ((v4 - v2) - 1) ≤ 5000 by omega)
                  have hFU23 : FR md_mo_cut__f S U23 := by rw [eU23]; exact FR.wI hFU22 (mdf_i (r := (909, 910, 0, 100000)) (List.mem_of_getElem? (i := 2) rfl) (inR_i (by omega) (by omega) (by omega) (by omega)))
                  have w202 : Xi U23 909 ((v1).toNat) = ((v4 - v2) - 1) := by rw [eU23]; exact Xi_same (by unfold rg; omega)
                  have c384 : CT U23 v1 v2 := c372.w eU23 (by omega)
                  have u384 : CV (Xi S 906) (Xj S 911) (Xi S 904 3) U23 v1 := u372.w eU23 (by omega) (by omega)
                  have r384 : RM7 (Xi S 906) (Xj S 911) (Xi S 904 3) U23 (v1).toNat := by first | exact rm_t T337 G337 (by rw [eU23, Xi_ne (by omega), eU22, Xi_ne (by omega)]; omega) (by omega) (by omega) h337 (by omega) (by omega) (by omega) (by rw [eU23]; exact Xi_same (by unfold rg; omega)) (by rw [eU23, Xi_ne (by omega), eU22]; exact Xi_same (by unfold rg; omega)) (by omega) | exact rm_tx T337 G337 (by rw [eU23, Xi_ne (by omega), eU22, Xi_ne (by omega)]; omega) (by omega) (by omega) h337 (by omega) (by rw [eU23, Xi_ne (by omega), eU22]; exact Xi_same (by unfold rg; omega)) | (exfalso; omega)
                  refine l_iinc rfl rfl rfl rfl ?_
                  refine l_goto rfl rfl ?_
                  have w203 : Xi U23 908 (v1).toNat = Xi T15 908 (v1).toNat := (show Xi U23 908 (v1).toNat = Xi U22 908 (v1).toNat from by rw [eU23]; exact Xi_ne (by omega)).trans ((show Xi U22 908 (v1).toNat = Xi T15 908 (v1).toNat from by rw [eU22]; exact Xi_ne (by omega)))
                  have w204 : Xi U23 907 (v1).toNat = Xi U22 907 (v1).toNat := (show Xi U23 907 (v1).toNat = Xi U22 907 (v1).toNat from by rw [eU23]; exact Xi_ne (by omega))
                  have w205 : Xi U23 904 3 = Xi T15 904 3 := (show Xi U23 904 3 = Xi U22 904 3 from by rw [eU23]; exact Xi_ne (by omega)).trans ((show Xi U22 904 3 = Xi T15 904 3 from by rw [eU22]; exact Xi_ne (by omega)))
                  exact Rl_weak (C426 U23 hHU23 hFU23 (v1) ((v4 + 1)) (by omega) (by omega) (by rw [show Xi U23 908 (v1).toNat = v2 by omega]; assumption) (by omega) (by omega) (by omega) (by omega) (by omega) (by omega) (by omega) (by first | exact fun q => ⟨by have := k153 q; omega, by have := k153 q; omega⟩ | exact fun q => absurd q (by unfold K3; omega)) (by first | exact u153 | exact u268 | exact u384 | exact u425) (by first | exact r153 | exact r268 | exact r384 | exact r425) (by first | (exact fun q => rm_qw (by first | exact r153) q hw86 (by omega) W86) | (exact fun q => rm_qd (by first | exact r268) q hw241 h241 (by omega) D241) | (exact fun q => rm_qt (by first | exact r384) q h337 (by omega) T337) | (exact fun q => rm_qp (by first | exact r425) q (by omega) (lt7_0 (by omega)) (by omega) (by omega))) (by omega)) (And.intro rfl (And.intro rfl (And.intro rfl (True.intro))))
          refine l_iload rfl rfl ?_
          refine l_aload_n rfl rfl ?_
          refine l_gfi rfl rfl rfl rfl rfl ?_
          refine l_icmp_ge rfl rfl (by unfold rg; omega) (by unfold rg; omega) (fun w207 => ?_) (fun w208 => ?_)
          · have w209 : 0 ≤ Xi T14 904 3 ∧ Xi T14 904 3 ≤ 5000 := hHT14.c _ _
            exact Rl_weak (C337 T14 hHT14 hFT14 (v1) (v2) (v4) (v5) (by omega) (by omega) (by omega) (by omega) (C281) (by omega) (by omega) (by omega) (by omega) (by omega) (by omega) (CV281) (T281.trans (te7_n (fun _ => by omega))) (G281) (h281) (by omega)) (And.intro rfl (And.intro rfl (And.intro rfl (And.intro rfl (And.intro rfl (True.intro))))))
          · refine l_aload_n rfl rfl ?_
            refine l_gfr rfl rfl rfl rfl rfl (hHT14.r 904 2 906 rfl) ?_
            refine l_iload rfl rfl ?_
            refine l_baload (n := 5000) rfl rfl rfl (by decide) (by omega) (by omega) (by unfold rg; omega) ?_
            have w210 : -128 ≤ (Xi T14 906 ((v4).toNat)) ∧ (Xi T14 906 ((v4).toNat)) ≤ 127 := hHT14.c _ _
            have e296 : (Xi T14 906 ((v4).toNat)) = Xi S 906 (v4).toNat := by first | rfl | exact (hFT14.cx 906 rfl _).1
            refine l_bipush rfl rfl ?_
            refine l_icmp_eq rfl rfl (by unfold rg; omega) (by unfold rg; omega) (fun w211 => ?_) (fun w212 => ?_)
            · have w213 : 0 ≤ Xi T14 904 3 ∧ Xi T14 904 3 ≤ 5000 := hHT14.c _ _
              exact Rl_weak (C337 T14 hHT14 hFT14 (v1) (v2) (v4) (v5) (by omega) (by omega) (by omega) (by omega) (C281) (by omega) (by omega) (by omega) (by omega) (by omega) (by omega) (CV281) (T281.trans (te7_n (fun _ => by omega))) (G281) (h281) (by omega)) (And.intro rfl (And.intro rfl (And.intro rfl (And.intro rfl (And.intro rfl (True.intro))))))
            · refine l_iload rfl rfl ?_
              refine l_if_eq rfl rfl (by unfold rg; omega) (fun w214 => ?_) (fun w215 => ?_)
              · refine l_iconst rfl ?_
                refine l_istore rfl rfl rfl ?_
                refine l_iinc rfl rfl rfl rfl ?_
                refine l_goto rfl rfl ?_
                exact Rl_weak (ih281 _ (by omega) T14 hHT14 hFT14 (v1) (v2) ((v4 + 1)) (0) (by omega) (by omega) (by omega) (by omega) (by first | exact C281 | exact c50) (by omega) (by omega) (by omega) (by omega) (by omega) (by omega) (by first | exact CV281 | exact u50) (by first | rfl | exact T281.trans (te7_s (by omega) (by omega))) (by first | exact gd_0.symm | exact (gd_y (by omega) (by omega) (by omega) (by omega) (by omega)).symm | exact (gd_n (by omega) (by omega) (fun _ _ _ => by omega)).symm) (by first | exact h281 | omega) (by omega) rfl) (And.intro rfl (And.intro rfl (And.intro rfl (And.intro rfl (And.intro rfl (True.intro))))))
              · refine l_aload_n rfl rfl ?_
                refine l_gfr rfl rfl rfl rfl rfl (hHT14.r 904 2 906 rfl) ?_
                refine l_iload rfl rfl ?_
                refine l_baload (n := 5000) rfl rfl rfl (by decide) (by omega) (by omega) (by unfold rg; omega) ?_
                have e313 : (Xi T14 906 ((v4).toNat)) = Xi S 906 (v4).toNat := by first | rfl | exact (hFT14.cx 906 rfl _).1
                refine l_bipush rfl rfl ?_
                refine l_bipush rfl rfl ?_
                refine l_callS rfl rfl (by decide) rfl (t_mo_in hHT14 (Xi T14 906 ((v4).toNat)) 32 126 ⟨by omega, by omega⟩ ⟨by omega, by omega⟩ ⟨by omega, by omega⟩ _) ?_
                rintro _ _ ⟨rfl, z219, rfl, w219, w218⟩
                show Rl _ _ _ _ _ [iv z219] _ _
                refine l_if_eq rfl rfl (by unfold rg; omega) (fun w220 => ?_) (fun w221 => ?_)
                · refine l_iconst rfl ?_
                  refine l_istore rfl rfl rfl ?_
                  refine l_iinc rfl rfl rfl rfl ?_
                  refine l_goto rfl rfl ?_
                  exact Rl_weak (ih281 _ (by omega) T14 hHT14 hFT14 (v1) (v2) ((v4 + 1)) (0) (by omega) (by omega) (by omega) (by omega) (by first | exact C281 | exact c50) (by omega) (by omega) (by omega) (by omega) (by omega) (by omega) (by first | exact CV281 | exact u50) (by first | rfl | exact T281.trans (te7_s (by omega) (by omega))) (by first | exact gd_0.symm | exact (gd_y (by omega) (by omega) (by omega) (by omega) (by omega)).symm | exact (gd_n (by omega) (by omega) (fun _ _ _ => by omega)).symm) (by first | exact h281 | omega) (by omega) rfl) (And.intro rfl (And.intro rfl (And.intro rfl (And.intro rfl (And.intro rfl (True.intro))))))
                · refine l_iconst rfl ?_
                  refine l_goto rfl rfl ?_
                  refine l_istore rfl rfl rfl ?_
                  refine l_iinc rfl rfl rfl rfl ?_
                  refine l_goto rfl rfl ?_
                  exact Rl_weak (ih281 _ (by omega) T14 hHT14 hFT14 (v1) (v2) ((v4 + 1)) (1) (by omega) (by omega) (by omega) (by omega) (by first | exact C281 | exact c50) (by omega) (by omega) (by omega) (by omega) (by omega) (by omega) (by first | exact CV281 | exact u50) (by first | rfl | exact T281.trans (te7_s (by omega) (by omega))) (by first | exact gd_0.symm | exact (gd_y (by omega) (by omega) (by omega) (by omega) (by omega)).symm | exact (gd_n (by omega) (by omega) (fun _ _ _ => by omega)).symm) (by first | exact h281 | omega) (by omega) rfl) (And.intro rfl (And.intro rfl (And.intro rfl (And.intro rfl (And.intro rfl (True.intro))))))
      have C439 : ∀  (T24 : sS) (_ : HI T24) (_ : FR md_mo_cut__f S T24) (v1 : Int), (0 ≤ v1 ∧ v1 ≤ 5000) → (CT T24 v1 (Xi S 904 3)) → (v1 ≤ 5000) → (Xi T24 904 3 = Xi S 904 3) → (CU (Xi S 906) (Xj S 911) (Xi S 904 3) T24 v1) → (0 < v1 → Xi T24 907 (v1 - 1).toNat = 2 ∨ Xi S 904 3 ≤ sk7 (Xi S 906) (Xi S 904 3) (q7 (Xi S 906) (Xi S 904 3) (Xi T24 908 (v1 - 1).toNat))) → (v1 = 0 → Xi S 904 3 ≤ sk7 (Xi S 906) (Xi S 904 3) 0) → Rl lay0 (d + 3) m_mo_cut 439 [(0, .ref 904), (1, iv v1)] [] T24 (Q_mo_cut__f S) := by
        intro T24 hHT24 hFT24 v1 w224 D439 w225 w226 U439 X439 Y439
        have w227 : Xi T24 904 3 = Xi S 904 3 := hFT24.x _ _ rfl
        have w228 : 0 ≤ Xi T24 904 3 ∧ Xi T24 904 3 ≤ 5000 := hHT24.c _ _
        refine l_aload_n rfl rfl ?_
        refine l_gfr rfl rfl rfl rfl rfl (hHT24.r 904 4 907 rfl) ?_
        refine l_iload_n rfl rfl ?_
        refine l_iconst rfl ?_
        refine l_iastore (n := 5002) rfl rfl (by omega) (by omega) (by unfold rg; omega) ?_
        obtain ⟨U25, eU25⟩ : ∃ T : sS, T = uI T24 907 ((v1).toNat) (Int32.ofInt 1) := ⟨_, rfl⟩
        rw [← eU25]
        have hHU25 : HI U25 := by rw [eU25]; exact HI_w hHT24 (show 0 ≤ 1 by omega) (show 1 ≤ 154 by omega)
        have hFU25 : FR md_mo_cut__f S U25 := by rw [eU25]; exact FR.wI hFT24 (mdf_i (r := (907, 908, 0, 100000)) (List.mem_of_getElem? (i := 0) rfl) (inR_i (by omega) (by omega) (by omega) (by omega)))
        have w229 : Xi U25 907 ((v1).toNat) = 1 := by rw [eU25]; exact Xi_same (by unfold rg; omega)
        refine l_aload_n rfl rfl ?_
        refine l_gfr rfl rfl rfl rfl rfl (hHU25.r 904 5 908 rfl) ?_
        refine l_iload_n rfl rfl ?_
        refine l_aload_n rfl rfl ?_
        refine l_gfi rfl rfl rfl rfl rfl ?_
        have w230 : (Xi U25 904 3) = (Xi T24 904 3) := (show Xi U25 904 3 = Xi T24 904 3 from by rw [eU25]; exact Xi_ne (by omega))
        rw [w230]
        refine l_iastore (n := 5002) rfl rfl (by omega) (by omega) (by unfold rg; omega) ?_
        obtain ⟨U26, eU26⟩ : ∃ T : sS, T = uI U25 908 ((v1).toNat) (Int32.ofInt (Xi T24 904 3)) := ⟨_, rfl⟩
        rw [← eU26]
        have hHU26 : HI U26 := by rw [eU26]; exact HI_w hHU25 (show 0 ≤ (Xi T24 904 3) by omega) (show (Xi T24 904 3) ≤ 5000 by omega)
        have hFU26 : FR md_mo_cut__f S U26 := by rw [eU26]; exact FR.wI hFU25 (mdf_i (r := (908, 909, 0, 100000)) (List.mem_of_getElem? (i := 1) rfl) (inR_i (by omega) (by omega) (by omega) (by omega)))
        have w231 : Xi U26 908 ((v1).toNat) = (Xi T24 904 3) := by rw [eU26]; exact Xi_same (by unfold rg; omega)
        refine l_return rfl rfl ?_
        have w232 : Xi U26 907 (v1).toNat = Xi U25 907 (v1).toNat := (show Xi U26 907 (v1).toNat = Xi U25 907 (v1).toNat from by rw [eU26]; exact Xi_ne (by omega))
        have w233 : Xi U26 909 (v1).toNat = Xi T24 909 (v1).toNat := (show Xi U26 909 (v1).toNat = Xi U25 909 (v1).toNat from by rw [eU26]; exact Xi_ne (by omega)).trans ((show Xi U25 909 (v1).toNat = Xi T24 909 (v1).toNat from by rw [eU25]; exact Xi_ne (by omega)))
        have w234 : Xi U26 904 3 = Xi T24 904 3 := (show Xi U26 904 3 = Xi U25 904 3 from by rw [eU26]; exact Xi_ne (by omega)).trans ((show Xi U25 904 3 = Xi T24 904 3 from by rw [eU25]; exact Xi_ne (by omega)))
        exact ⟨hHU26, hFU26, rfl, (⟨_, (ct_tk D439 (by omega) (by omega) eU25 eU26 rfl rfl (by omega) (by omega)).1, (ct_tk D439 (by omega) (by omega) eU25 eU26 rfl rfl (by omega) (by omega)).2, cut_of U439 X439 Y439 eU25 eU26 rfl rfl (by omega) (by omega) (by omega)⟩)⟩
      refine l_iload_n rfl rfl ?_
      refine l_aload_n rfl rfl ?_
      refine l_gfi rfl rfl rfl rfl rfl ?_
      refine l_icmp_ge rfl rfl (by unfold rg; omega) (by unfold rg; omega) (fun w236 => ?_) (fun w237 => ?_)
      · have w238 : 0 ≤ Xi T1 904 3 ∧ Xi T1 904 3 ≤ 5000 := hHT1.c _ _
        exact Rl_weak (C439 T1 hHT1 hFT1 (v1) (by omega) (D8) (by omega) (by omega) (U8) (by first | exact fun _ => Or.inl (by omega) | exact fun q => (by rcases (by omega : Xi T1 907 (v1 - 1).toNat = 2 ∨ Xi T1 907 (v1 - 1).toNat ≠ 2) with w | w; exact Or.inl w; exact Or.inr (by rw [← M8 q w]; omega))) (by first | exact fun q => absurd q (by omega) | exact fun q => (by rw [← N8 q]; omega))) (And.intro rfl (And.intro rfl (True.intro)))
      · refine l_iload_n rfl rfl ?_
        refine l_if_eq rfl rfl (by unfold rg; omega) (fun w239 => ?_) (fun w240 => ?_)
        · refine l_aload_n rfl rfl ?_
          refine l_gfr rfl rfl rfl rfl rfl (hHT1.r 904 2 906 rfl) ?_
          refine l_iload_n rfl rfl ?_
          refine l_baload (n := 5000) rfl rfl rfl (by decide) (by omega) (by omega) (by unfold rg; omega) ?_
          have w241 : -128 ≤ (Xi T1 906 ((v2).toNat)) ∧ (Xi T1 906 ((v2).toNat)) ≤ 127 := hHT1.c _ _
          have e37 : (Xi T1 906 ((v2).toNat)) = Xi S 906 (v2).toNat := by first | rfl | exact (hFT1.cx 906 rfl _).1
          refine l_istore_n rfl rfl rfl ?_
          refine l_iload_n rfl rfl ?_
          refine l_iconst rfl ?_
          refine l_iadd rfl ?_
          refine l_istore rfl rfl rfl ?_
          refine l_aload_n rfl rfl ?_
          refine l_gfr rfl rfl rfl rfl rfl (hHT1.r 904 5 908 rfl) ?_
          refine l_iload_n rfl rfl ?_
          refine l_iload_n rfl rfl ?_
          refine l_iastore (n := 5002) rfl rfl (by omega) (by omega) (by unfold rg; omega) ?_
          obtain ⟨U27, eU27⟩ : ∃ T : sS, T = uI T1 908 ((v1).toNat) (Int32.ofInt v2) := ⟨_, rfl⟩
          rw [← eU27]
          have hHU27 : HI U27 := by rw [eU27]; exact HI_w hHT1 (show 0 ≤ v2 by omega) (show v2 ≤ 5000 by omega)
          have hFU27 : FR md_mo_cut__f S U27 := by rw [eU27]; exact FR.wI hFT1 (mdf_i (r := (908, 909, 0, 100000)) (List.mem_of_getElem? (i := 1) rfl) (inR_i (by omega) (by omega) (by omega) (by omega)))
          have w242 : Xi U27 908 ((v1).toNat) = v2 := by rw [eU27]; exact Xi_same (by unfold rg; omega)
          have c50 : CT U27 v1 v2 := C8.w eU27 (by omega)
          have u50 : CV (Xi S 906) (Xj S 911) (Xi S 904 3) U27 v1 := CV_pl U8 N8 M8 (by omega) eU27 (by omega) (by omega)
          refine l_iload_n rfl rfl ?_
          have w243 : Xi U27 904 3 = Xi T1 904 3 := (show Xi U27 904 3 = Xi T1 904 3 from by rw [eU27]; exact Xi_ne (by omega))
          refine l_callS rfl rfl (by decide) rfl (t_mo_isLetter hHU27 (Xi T1 906 ((v2).toNat)) ⟨by omega, by omega⟩ _) ?_
          rintro _ _ ⟨rfl, z246, rfl, w246, w245⟩
          show Rl _ _ _ _ _ [iv z246] _ _
          have l52 : z246 = 1 → ltr (Xi S 906 (v2).toNat) = 1 := fun q => by rw [← e37, ← (by assumption : z246 = ltr _)]; exact q
          have m52 : z246 = ltr (Xi S 906 (v2).toNat) := by rw [← e37]; assumption
          refine l_if_eq rfl rfl (by unfold rg; omega) (fun w247 => ?_) (fun w248 => ?_)
          · refine l_iload_n rfl rfl ?_
            refine l_bipush rfl rfl ?_
            refine l_bipush rfl rfl ?_
            refine l_callS rfl rfl (by decide) rfl (t_mo_in hHU27 (Xi T1 906 ((v2).toNat)) 48 57 ⟨by omega, by omega⟩ ⟨by omega, by omega⟩ ⟨by omega, by omega⟩ _) ?_
            rintro _ _ ⟨rfl, z252, rfl, w252, w251⟩
            show Rl _ _ _ _ _ [iv z252] _ _
            refine l_if_eq rfl rfl (by unfold rg; omega) (fun w253 => ?_) (fun w254 => ?_)
            · refine l_iload_n rfl rfl ?_
              refine l_bipush rfl rfl ?_
              refine l_icmp_ne rfl rfl (by unfold rg; omega) (by unfold rg; omega) (fun w255 => ?_) (fun w256 => ?_)
              · refine l_aload_n rfl rfl ?_
                refine l_gfr rfl rfl rfl rfl rfl (hHU27.r 904 4 907 rfl) ?_
                refine l_iload_n rfl rfl ?_
                refine l_iload_n rfl rfl ?_
                refine l_bipush rfl rfl ?_
                refine l_icmp_eq rfl rfl (by unfold rg; omega) (by unfold rg; omega) (fun w257 => ?_) (fun w258 => ?_)
                · refine l_iload_n rfl rfl ?_
                  refine l_goto rfl rfl ?_
                  refine l_iastore (n := 5002) rfl rfl (by omega) (by omega) (by unfold rg; omega) ?_
                  obtain ⟨U28, eU28⟩ : ∃ T : sS, T = uI U27 907 ((v1).toNat) (Int32.ofInt (Xi T1 906 ((v2).toNat))) := ⟨_, rfl⟩
                  rw [← eU28]
                  have hHU28 : HI U28 := by rw [eU28]; exact HI_w hHU27 (show 0 ≤ (Xi T1 906 ((v2).toNat)) by omega) (show (Xi T1 906 ((v2).toNat)) ≤ 154 by omega)
                  have hFU28 : FR md_mo_cut__f S U28 := by rw [eU28]; exact FR.wI hFU27 (mdf_i (r := (907, 908, 0, 100000)) (List.mem_of_getElem? (i := 0) rfl) (inR_i (by omega) (by omega) (by omega) (by omega)))
                  have w259 : Xi U28 907 ((v1).toNat) = (Xi T1 906 ((v2).toNat)) := by rw [eU28]; exact Xi_same (by unfold rg; omega)
                  have c425 : CT U28 v1 v2 := c50.w eU28 (by omega)
                  have u425 : CV (Xi S 906) (Xj S 911) (Xi S 904 3) U28 v1 := u50.w eU28 (by omega) (by omega)
                  have r425 : RM7 (Xi S 906) (Xj S 911) (Xi S 904 3) U28 (v1).toNat := by first | exact rm_p (p := v2) (by rw [eU28, Xi_ne (by omega), eU27]; exact Xi_same (by unfold rg; omega)) (by omega) (by omega) (lt7_0 (by omega)) (by omega) (by rw [eU28]; refine (Xi_same (by unfold rg; omega)).trans ?_; omega) | exact rm_o (p := v2) (by rw [eU28, Xi_ne (by omega), eU27]; exact Xi_same (by unfold rg; omega)) (by omega) (by omega) (lt7_0 (by omega)) (by omega) (by omega) (by omega) (by rw [eU28]; exact Xi_same (by unfold rg; omega)) | (exfalso; omega)
                  have w260 : Xi U28 908 (v1).toNat = Xi U27 908 (v1).toNat := (show Xi U28 908 (v1).toNat = Xi U27 908 (v1).toNat from by rw [eU28]; exact Xi_ne (by omega))
                  have w261 : Xi U28 909 (v1).toNat = Xi T1 909 (v1).toNat := (show Xi U28 909 (v1).toNat = Xi U27 909 (v1).toNat from by rw [eU28]; exact Xi_ne (by omega)).trans ((show Xi U27 909 (v1).toNat = Xi T1 909 (v1).toNat from by rw [eU27]; exact Xi_ne (by omega)))
                  have w262 : Xi U28 904 3 = Xi T1 904 3 := (show Xi U28 904 3 = Xi U27 904 3 from by rw [eU28]; exact Xi_ne (by omega)).trans ((show Xi U27 904 3 = Xi T1 904 3 from by rw [eU27]; exact Xi_ne (by omega)))
                  exact Rl_weak (C426 U28 hHU28 hFU28 (v1) ((v2 + 1)) (by omega) (by omega) (by rw [show Xi U28 908 (v1).toNat = v2 by omega]; assumption) (by omega) (by omega) (by omega) (by omega) (by omega) (by omega) (by omega) (by first | exact fun q => ⟨by have := k153 q; omega, by have := k153 q; omega⟩ | exact fun q => absurd q (by unfold K3; omega)) (by first | exact u153 | exact u268 | exact u384 | exact u425) (by first | exact r153 | exact r268 | exact r384 | exact r425) (by first | (exact fun q => rm_qw (by first | exact r153) q hw86 (by omega) W86) | (exact fun q => rm_qd (by first | exact r268) q hw241 h241 (by omega) D241) | (exact fun q => rm_qt (by first | exact r384) q h337 (by omega) T337) | (exact fun q => rm_qp (by first | exact r425) q (by omega) (lt7_0 (by omega)) (by omega) (by omega))) (by omega)) (And.intro rfl (And.intro rfl (And.intro rfl (True.intro))))
                · refine l_iload_n rfl rfl ?_
                  refine l_bipush rfl rfl ?_
                  refine l_icmp_eq rfl rfl (by unfold rg; omega) (by unfold rg; omega) (fun w264 => ?_) (fun w265 => ?_)
                  · refine l_iload_n rfl rfl ?_
                    refine l_goto rfl rfl ?_
                    refine l_iastore (n := 5002) rfl rfl (by omega) (by omega) (by unfold rg; omega) ?_
                    obtain ⟨U29, eU29⟩ : ∃ T : sS, T = uI U27 907 ((v1).toNat) (Int32.ofInt (Xi T1 906 ((v2).toNat))) := ⟨_, rfl⟩
                    rw [← eU29]
                    have hHU29 : HI U29 := by rw [eU29]; exact HI_w hHU27 (show 0 ≤ (Xi T1 906 ((v2).toNat)) by omega) (show (Xi T1 906 ((v2).toNat)) ≤ 154 by omega)
                    have hFU29 : FR md_mo_cut__f S U29 := by rw [eU29]; exact FR.wI hFU27 (mdf_i (r := (907, 908, 0, 100000)) (List.mem_of_getElem? (i := 0) rfl) (inR_i (by omega) (by omega) (by omega) (by omega)))
                    have w266 : Xi U29 907 ((v1).toNat) = (Xi T1 906 ((v2).toNat)) := by rw [eU29]; exact Xi_same (by unfold rg; omega)
                    have c425 : CT U29 v1 v2 := c50.w eU29 (by omega)
                    have u425 : CV (Xi S 906) (Xj S 911) (Xi S 904 3) U29 v1 := u50.w eU29 (by omega) (by omega)
                    have r425 : RM7 (Xi S 906) (Xj S 911) (Xi S 904 3) U29 (v1).toNat := by first | exact rm_p (p := v2) (by rw [eU29, Xi_ne (by omega), eU27]; exact Xi_same (by unfold rg; omega)) (by omega) (by omega) (lt7_0 (by omega)) (by omega) (by rw [eU29]; refine (Xi_same (by unfold rg; omega)).trans ?_; omega) | exact rm_o (p := v2) (by rw [eU29, Xi_ne (by omega), eU27]; exact Xi_same (by unfold rg; omega)) (by omega) (by omega) (lt7_0 (by omega)) (by omega) (by omega) (by omega) (by rw [eU29]; exact Xi_same (by unfold rg; omega)) | (exfalso; omega)
                    have w267 : Xi U29 908 (v1).toNat = Xi U27 908 (v1).toNat := (show Xi U29 908 (v1).toNat = Xi U27 908 (v1).toNat from by rw [eU29]; exact Xi_ne (by omega))
                    have w268 : Xi U29 909 (v1).toNat = Xi T1 909 (v1).toNat := (show Xi U29 909 (v1).toNat = Xi U27 909 (v1).toNat from by rw [eU29]; exact Xi_ne (by omega)).trans ((show Xi U27 909 (v1).toNat = Xi T1 909 (v1).toNat from by rw [eU27]; exact Xi_ne (by omega)))
                    have w269 : Xi U29 904 3 = Xi T1 904 3 := (show Xi U29 904 3 = Xi U27 904 3 from by rw [eU29]; exact Xi_ne (by omega)).trans ((show Xi U27 904 3 = Xi T1 904 3 from by rw [eU27]; exact Xi_ne (by omega)))
                    exact Rl_weak (C426 U29 hHU29 hFU29 (v1) ((v2 + 1)) (by omega) (by omega) (by rw [show Xi U29 908 (v1).toNat = v2 by omega]; assumption) (by omega) (by omega) (by omega) (by omega) (by omega) (by omega) (by omega) (by first | exact fun q => ⟨by have := k153 q; omega, by have := k153 q; omega⟩ | exact fun q => absurd q (by unfold K3; omega)) (by first | exact u153 | exact u268 | exact u384 | exact u425) (by first | exact r153 | exact r268 | exact r384 | exact r425) (by first | (exact fun q => rm_qw (by first | exact r153) q hw86 (by omega) W86) | (exact fun q => rm_qd (by first | exact r268) q hw241 h241 (by omega) D241) | (exact fun q => rm_qt (by first | exact r384) q h337 (by omega) T337) | (exact fun q => rm_qp (by first | exact r425) q (by omega) (lt7_0 (by omega)) (by omega) (by omega))) (by omega)) (And.intro rfl (And.intro rfl (And.intro rfl (True.intro))))
                  · refine l_iload_n rfl rfl ?_
                    refine l_bipush rfl rfl ?_
                    refine l_icmp_eq rfl rfl (by unfold rg; omega) (by unfold rg; omega) (fun w271 => ?_) (fun w272 => ?_)
                    · refine l_iload_n rfl rfl ?_
                      refine l_goto rfl rfl ?_
                      refine l_iastore (n := 5002) rfl rfl (by omega) (by omega) (by unfold rg; omega) ?_
                      obtain ⟨U30, eU30⟩ : ∃ T : sS, T = uI U27 907 ((v1).toNat) (Int32.ofInt (Xi T1 906 ((v2).toNat))) := ⟨_, rfl⟩
                      rw [← eU30]
                      have hHU30 : HI U30 := by rw [eU30]; exact HI_w hHU27 (show 0 ≤ (Xi T1 906 ((v2).toNat)) by omega) (show (Xi T1 906 ((v2).toNat)) ≤ 154 by omega)
                      have hFU30 : FR md_mo_cut__f S U30 := by rw [eU30]; exact FR.wI hFU27 (mdf_i (r := (907, 908, 0, 100000)) (List.mem_of_getElem? (i := 0) rfl) (inR_i (by omega) (by omega) (by omega) (by omega)))
                      have w273 : Xi U30 907 ((v1).toNat) = (Xi T1 906 ((v2).toNat)) := by rw [eU30]; exact Xi_same (by unfold rg; omega)
                      have c425 : CT U30 v1 v2 := c50.w eU30 (by omega)
                      have u425 : CV (Xi S 906) (Xj S 911) (Xi S 904 3) U30 v1 := u50.w eU30 (by omega) (by omega)
                      have r425 : RM7 (Xi S 906) (Xj S 911) (Xi S 904 3) U30 (v1).toNat := by first | exact rm_p (p := v2) (by rw [eU30, Xi_ne (by omega), eU27]; exact Xi_same (by unfold rg; omega)) (by omega) (by omega) (lt7_0 (by omega)) (by omega) (by rw [eU30]; refine (Xi_same (by unfold rg; omega)).trans ?_; omega) | exact rm_o (p := v2) (by rw [eU30, Xi_ne (by omega), eU27]; exact Xi_same (by unfold rg; omega)) (by omega) (by omega) (lt7_0 (by omega)) (by omega) (by omega) (by omega) (by rw [eU30]; exact Xi_same (by unfold rg; omega)) | (exfalso; omega)
                      have w274 : Xi U30 908 (v1).toNat = Xi U27 908 (v1).toNat := (show Xi U30 908 (v1).toNat = Xi U27 908 (v1).toNat from by rw [eU30]; exact Xi_ne (by omega))
                      have w275 : Xi U30 909 (v1).toNat = Xi T1 909 (v1).toNat := (show Xi U30 909 (v1).toNat = Xi U27 909 (v1).toNat from by rw [eU30]; exact Xi_ne (by omega)).trans ((show Xi U27 909 (v1).toNat = Xi T1 909 (v1).toNat from by rw [eU27]; exact Xi_ne (by omega)))
                      have w276 : Xi U30 904 3 = Xi T1 904 3 := (show Xi U30 904 3 = Xi U27 904 3 from by rw [eU30]; exact Xi_ne (by omega)).trans ((show Xi U27 904 3 = Xi T1 904 3 from by rw [eU27]; exact Xi_ne (by omega)))
                      exact Rl_weak (C426 U30 hHU30 hFU30 (v1) ((v2 + 1)) (by omega) (by omega) (by rw [show Xi U30 908 (v1).toNat = v2 by omega]; assumption) (by omega) (by omega) (by omega) (by omega) (by omega) (by omega) (by omega) (by first | exact fun q => ⟨by have := k153 q; omega, by have := k153 q; omega⟩ | exact fun q => absurd q (by unfold K3; omega)) (by first | exact u153 | exact u268 | exact u384 | exact u425) (by first | exact r153 | exact r268 | exact r384 | exact r425) (by first | (exact fun q => rm_qw (by first | exact r153) q hw86 (by omega) W86) | (exact fun q => rm_qd (by first | exact r268) q hw241 h241 (by omega) D241) | (exact fun q => rm_qt (by first | exact r384) q h337 (by omega) T337) | (exact fun q => rm_qp (by first | exact r425) q (by omega) (lt7_0 (by omega)) (by omega) (by omega))) (by omega)) (And.intro rfl (And.intro rfl (And.intro rfl (True.intro))))
                    · refine l_iload_n rfl rfl ?_
                      refine l_bipush rfl rfl ?_
                      refine l_icmp_ne rfl rfl (by unfold rg; omega) (by unfold rg; omega) (fun w278 => ?_) (fun w279 => ?_)
                      · refine l_iconst rfl ?_
                        refine l_iastore (n := 5002) rfl rfl (by omega) (by omega) (by unfold rg; omega) ?_
                        obtain ⟨U31, eU31⟩ : ∃ T : sS, T = uI U27 907 ((v1).toNat) (Int32.ofInt 2) := ⟨_, rfl⟩
                        rw [← eU31]
                        have hHU31 : HI U31 := by rw [eU31]; exact HI_w hHU27 (show 0 ≤ 2 by omega) (show 2 ≤ 154 by omega)
                        have hFU31 : FR md_mo_cut__f S U31 := by rw [eU31]; exact FR.wI hFU27 (mdf_i (r := (907, 908, 0, 100000)) (List.mem_of_getElem? (i := 0) rfl) (inR_i (by omega) (by omega) (by omega) (by omega)))
                        have w280 : Xi U31 907 ((v1).toNat) = 2 := by rw [eU31]; exact Xi_same (by unfold rg; omega)
                        have c425 : CT U31 v1 v2 := c50.w eU31 (by omega)
                        have u425 : CV (Xi S 906) (Xj S 911) (Xi S 904 3) U31 v1 := u50.w eU31 (by omega) (by omega)
                        have r425 : RM7 (Xi S 906) (Xj S 911) (Xi S 904 3) U31 (v1).toNat := by first | exact rm_p (p := v2) (by rw [eU31, Xi_ne (by omega), eU27]; exact Xi_same (by unfold rg; omega)) (by omega) (by omega) (lt7_0 (by omega)) (by omega) (by rw [eU31]; refine (Xi_same (by unfold rg; omega)).trans ?_; omega) | exact rm_o (p := v2) (by rw [eU31, Xi_ne (by omega), eU27]; exact Xi_same (by unfold rg; omega)) (by omega) (by omega) (lt7_0 (by omega)) (by omega) (by omega) (by omega) (by rw [eU31]; exact Xi_same (by unfold rg; omega)) | (exfalso; omega)
                        have w281 : Xi U31 908 (v1).toNat = Xi U27 908 (v1).toNat := (show Xi U31 908 (v1).toNat = Xi U27 908 (v1).toNat from by rw [eU31]; exact Xi_ne (by omega))
                        have w282 : Xi U31 909 (v1).toNat = Xi T1 909 (v1).toNat := (show Xi U31 909 (v1).toNat = Xi U27 909 (v1).toNat from by rw [eU31]; exact Xi_ne (by omega)).trans ((show Xi U27 909 (v1).toNat = Xi T1 909 (v1).toNat from by rw [eU27]; exact Xi_ne (by omega)))
                        have w283 : Xi U31 904 3 = Xi T1 904 3 := (show Xi U31 904 3 = Xi U27 904 3 from by rw [eU31]; exact Xi_ne (by omega)).trans ((show Xi U27 904 3 = Xi T1 904 3 from by rw [eU27]; exact Xi_ne (by omega)))
                        exact Rl_weak (C426 U31 hHU31 hFU31 (v1) ((v2 + 1)) (by omega) (by omega) (by rw [show Xi U31 908 (v1).toNat = v2 by omega]; assumption) (by omega) (by omega) (by omega) (by omega) (by omega) (by omega) (by omega) (by first | exact fun q => ⟨by have := k153 q; omega, by have := k153 q; omega⟩ | exact fun q => absurd q (by unfold K3; omega)) (by first | exact u153 | exact u268 | exact u384 | exact u425) (by first | exact r153 | exact r268 | exact r384 | exact r425) (by first | (exact fun q => rm_qw (by first | exact r153) q hw86 (by omega) W86) | (exact fun q => rm_qd (by first | exact r268) q hw241 h241 (by omega) D241) | (exact fun q => rm_qt (by first | exact r384) q h337 (by omega) T337) | (exact fun q => rm_qp (by first | exact r425) q (by omega) (lt7_0 (by omega)) (by omega) (by omega))) (by omega)) (And.intro rfl (And.intro rfl (And.intro rfl (True.intro))))
                      · refine l_iload_n rfl rfl ?_
                        refine l_goto rfl rfl ?_
                        refine l_iastore (n := 5002) rfl rfl (by omega) (by omega) (by unfold rg; omega) ?_
                        obtain ⟨U32, eU32⟩ : ∃ T : sS, T = uI U27 907 ((v1).toNat) (Int32.ofInt (Xi T1 906 ((v2).toNat))) := ⟨_, rfl⟩
                        rw [← eU32]
                        have hHU32 : HI U32 := by rw [eU32]; exact HI_w hHU27 (show 0 ≤ (Xi T1 906 ((v2).toNat)) by omega) (show (Xi T1 906 ((v2).toNat)) ≤ 154 by omega)
                        have hFU32 : FR md_mo_cut__f S U32 := by rw [eU32]; exact FR.wI hFU27 (mdf_i (r := (907, 908, 0, 100000)) (List.mem_of_getElem? (i := 0) rfl) (inR_i (by omega) (by omega) (by omega) (by omega)))
                        have w285 : Xi U32 907 ((v1).toNat) = (Xi T1 906 ((v2).toNat)) := by rw [eU32]; exact Xi_same (by unfold rg; omega)
                        have c425 : CT U32 v1 v2 := c50.w eU32 (by omega)
                        have u425 : CV (Xi S 906) (Xj S 911) (Xi S 904 3) U32 v1 := u50.w eU32 (by omega) (by omega)
                        have r425 : RM7 (Xi S 906) (Xj S 911) (Xi S 904 3) U32 (v1).toNat := by first | exact rm_p (p := v2) (by rw [eU32, Xi_ne (by omega), eU27]; exact Xi_same (by unfold rg; omega)) (by omega) (by omega) (lt7_0 (by omega)) (by omega) (by rw [eU32]; refine (Xi_same (by unfold rg; omega)).trans ?_; omega) | exact rm_o (p := v2) (by rw [eU32, Xi_ne (by omega), eU27]; exact Xi_same (by unfold rg; omega)) (by omega) (by omega) (lt7_0 (by omega)) (by omega) (by omega) (by omega) (by rw [eU32]; exact Xi_same (by unfold rg; omega)) | (exfalso; omega)
                        have w286 : Xi U32 908 (v1).toNat = Xi U27 908 (v1).toNat := (show Xi U32 908 (v1).toNat = Xi U27 908 (v1).toNat from by rw [eU32]; exact Xi_ne (by omega))
                        have w287 : Xi U32 909 (v1).toNat = Xi T1 909 (v1).toNat := (show Xi U32 909 (v1).toNat = Xi U27 909 (v1).toNat from by rw [eU32]; exact Xi_ne (by omega)).trans ((show Xi U27 909 (v1).toNat = Xi T1 909 (v1).toNat from by rw [eU27]; exact Xi_ne (by omega)))
                        have w288 : Xi U32 904 3 = Xi T1 904 3 := (show Xi U32 904 3 = Xi U27 904 3 from by rw [eU32]; exact Xi_ne (by omega)).trans ((show Xi U27 904 3 = Xi T1 904 3 from by rw [eU27]; exact Xi_ne (by omega)))
                        exact Rl_weak (C426 U32 hHU32 hFU32 (v1) ((v2 + 1)) (by omega) (by omega) (by rw [show Xi U32 908 (v1).toNat = v2 by omega]; assumption) (by omega) (by omega) (by omega) (by omega) (by omega) (by omega) (by omega) (by first | exact fun q => ⟨by have := k153 q; omega, by have := k153 q; omega⟩ | exact fun q => absurd q (by unfold K3; omega)) (by first | exact u153 | exact u268 | exact u384 | exact u425) (by first | exact r153 | exact r268 | exact r384 | exact r425) (by first | (exact fun q => rm_qw (by first | exact r153) q hw86 (by omega) W86) | (exact fun q => rm_qd (by first | exact r268) q hw241 h241 (by omega) D241) | (exact fun q => rm_qt (by first | exact r384) q h337 (by omega) T337) | (exact fun q => rm_qp (by first | exact r425) q (by omega) (lt7_0 (by omega)) (by omega) (by omega))) (by omega)) (And.intro rfl (And.intro rfl (And.intro rfl (True.intro))))
              · refine l_iconst rfl ?_
                refine l_istore rfl rfl rfl ?_
                have w290 : Xi U27 907 (v1).toNat = Xi T1 907 (v1).toNat := (show Xi U27 907 (v1).toNat = Xi T1 907 (v1).toNat from by rw [eU27]; exact Xi_ne (by omega))
                have w291 : Xi U27 909 (v1).toNat = Xi T1 909 (v1).toNat := (show Xi U27 909 (v1).toNat = Xi T1 909 (v1).toNat from by rw [eU27]; exact Xi_ne (by omega))
                exact Rl_weak (C281 _ U27 hHU27 hFU27 (v1) (v2) ((v2 + 1)) (1) (by omega) (by omega) (by omega) (by omega) (by first | exact C281 | exact c50) (by omega) (by omega) (by omega) (by omega) (by omega) (by omega) (by first | exact CV281 | exact u50) (by first | rfl | exact T281.trans (te7_s (by omega) (by omega))) (by first | exact gd_0.symm | exact (gd_y (by omega) (by omega) (by omega) (by omega) (by omega)).symm | exact (gd_n (by omega) (by omega) (fun _ _ _ => by omega)).symm) (by first | exact h281 | omega) (by omega) rfl) (And.intro rfl (And.intro rfl (And.intro rfl (And.intro rfl (And.intro rfl (True.intro))))))
            · refine l_lconst (z := 0) rfl rfl ?_
              refine l_lstore rfl rfl rfl rfl ?_
              refine l_iload_n rfl rfl ?_
              refine l_istore rfl rfl rfl ?_
              have w294 : Xi U27 907 (v1).toNat = Xi T1 907 (v1).toNat := (show Xi U27 907 (v1).toNat = Xi T1 907 (v1).toNat from by rw [eU27]; exact Xi_ne (by omega))
              have w295 : Xi U27 909 (v1).toNat = Xi T1 909 (v1).toNat := (show Xi U27 909 (v1).toNat = Xi T1 909 (v1).toNat from by rw [eU27]; exact Xi_ne (by omega))
              exact Rl_weak (C174 _ U27 hHU27 hFU27 (v1) (v2) (v2) (0) (by omega) (by omega) (by omega) (by first | exact C174 | exact c50) (by omega) (by omega) (by omega) (by omega) (by omega) (by omega) (by omega) (by first | exact CV174 | exact u50) (by first | rfl | exact D174.trans (de7_s (by omega) (by omega) (by omega))) (by first | exact dv_0 | exact dv_m (by omega) (by omega) (by omega) V174 (by omega) | exact dv_l (by omega) V174) (by first | exact hw174 | exact lt7_0 (by omega)) (by first | exact h174 | omega) (by omega) (by omega) (by omega) (by omega) (by omega) (by omega) (by omega) (by omega) rfl) (And.intro rfl (And.intro rfl (And.intro rfl (And.intro rfl (And.intro rfl (True.intro))))))
          · have w298 : Xi U27 907 (v1).toNat = Xi T1 907 (v1).toNat := (show Xi U27 907 (v1).toNat = Xi T1 907 (v1).toNat from by rw [eU27]; exact Xi_ne (by omega))
            have w299 : Xi U27 909 (v1).toNat = Xi T1 909 (v1).toNat := (show Xi U27 909 (v1).toNat = Xi T1 909 (v1).toNat from by rw [eU27]; exact Xi_ne (by omega))
            exact Rl_weak (C58 _ U27 hHU27 hFU27 (v1) (v2) ((v2 + 1)) (by omega) (by omega) (by omega) (by first | exact C58 | exact c50) (by omega) (by omega) (by omega) (by omega) (by omega) (by omega) (by first | exact (fun i a b => (Int.lt_or_le (i : Int) v4).elim (fun q => L58 i a q) (fun q => by rw [show i = (v4).toNat by omega]; exact l74 (by omega))) | exact (fun i a b => by rw [show i = (v2).toNat by omega]; exact l52 (by omega))) (by first | exact CV58 | exact u50) (by first | exact W58.trans (we7_s (by omega) (by have t := lt7_l (l74 (by omega)); omega)) | exact we7_s (by omega) (by have t := lt7_l (l52 (by omega)); omega)) (by first | exact hw58 | (have t := lt7_l (l52 (by omega)); omega)) (by omega) rfl) (And.intro rfl (And.intro rfl (And.intro rfl (And.intro rfl (True.intro)))))
        · refine l_aload_n rfl rfl ?_
          refine l_gfr rfl rfl rfl rfl rfl (hHT1.r 904 4 907 rfl) ?_
          refine l_iload_n rfl rfl ?_
          refine l_iconst rfl ?_
          refine l_isub rfl ?_
          refine l_iaload (n := 5002) rfl rfl (by omega) (by omega) (by unfold rg; omega) ?_
          have w302 : 0 ≤ (Xi T1 907 (((v1 - 1)).toNat)) ∧ (Xi T1 907 (((v1 - 1)).toNat)) ≤ 154 := hHT1.c _ _
          refine l_iconst rfl ?_
          refine l_icmp_eq rfl rfl (by unfold rg; omega) (by unfold rg; omega) (fun w303 => ?_) (fun w304 => ?_)
          · have w305 : 0 ≤ Xi T1 904 3 ∧ Xi T1 904 3 ≤ 5000 := hHT1.c _ _
            exact Rl_weak (C439 T1 hHT1 hFT1 (v1) (by omega) (D8) (by omega) (by omega) (U8) (by first | exact fun _ => Or.inl (by omega) | exact fun q => (by rcases (by omega : Xi T1 907 (v1 - 1).toNat = 2 ∨ Xi T1 907 (v1 - 1).toNat ≠ 2) with w | w; exact Or.inl w; exact Or.inr (by rw [← M8 q w]; omega))) (by first | exact fun q => absurd q (by omega) | exact fun q => (by rw [← N8 q]; omega))) (And.intro rfl (And.intro rfl (True.intro)))
          · refine l_aload_n rfl rfl ?_
            refine l_gfr rfl rfl rfl rfl rfl (hHT1.r 904 2 906 rfl) ?_
            refine l_iload_n rfl rfl ?_
            refine l_baload (n := 5000) rfl rfl rfl (by decide) (by omega) (by omega) (by unfold rg; omega) ?_
            have w306 : -128 ≤ (Xi T1 906 ((v2).toNat)) ∧ (Xi T1 906 ((v2).toNat)) ≤ 127 := hHT1.c _ _
            have e37 : (Xi T1 906 ((v2).toNat)) = Xi S 906 (v2).toNat := by first | rfl | exact (hFT1.cx 906 rfl _).1
            refine l_istore_n rfl rfl rfl ?_
            refine l_iload_n rfl rfl ?_
            refine l_iconst rfl ?_
            refine l_iadd rfl ?_
            refine l_istore rfl rfl rfl ?_
            refine l_aload_n rfl rfl ?_
            refine l_gfr rfl rfl rfl rfl rfl (hHT1.r 904 5 908 rfl) ?_
            refine l_iload_n rfl rfl ?_
            refine l_iload_n rfl rfl ?_
            refine l_iastore (n := 5002) rfl rfl (by omega) (by omega) (by unfold rg; omega) ?_
            obtain ⟨U33, eU33⟩ : ∃ T : sS, T = uI T1 908 ((v1).toNat) (Int32.ofInt v2) := ⟨_, rfl⟩
            rw [← eU33]
            have hHU33 : HI U33 := by rw [eU33]; exact HI_w hHT1 (show 0 ≤ v2 by omega) (show v2 ≤ 5000 by omega)
            have hFU33 : FR md_mo_cut__f S U33 := by rw [eU33]; exact FR.wI hFT1 (mdf_i (r := (908, 909, 0, 100000)) (List.mem_of_getElem? (i := 1) rfl) (inR_i (by omega) (by omega) (by omega) (by omega)))
            have w307 : Xi U33 908 ((v1).toNat) = v2 := by rw [eU33]; exact Xi_same (by unfold rg; omega)
            have c50 : CT U33 v1 v2 := C8.w eU33 (by omega)
            have u50 : CV (Xi S 906) (Xj S 911) (Xi S 904 3) U33 v1 := CV_pl U8 N8 M8 (by omega) eU33 (by omega) (by omega)
            refine l_iload_n rfl rfl ?_
            have w308 : Xi U33 904 3 = Xi T1 904 3 := (show Xi U33 904 3 = Xi T1 904 3 from by rw [eU33]; exact Xi_ne (by omega))
            refine l_callS rfl rfl (by decide) rfl (t_mo_isLetter hHU33 (Xi T1 906 ((v2).toNat)) ⟨by omega, by omega⟩ _) ?_
            rintro _ _ ⟨rfl, z311, rfl, w311, w310⟩
            show Rl _ _ _ _ _ [iv z311] _ _
            have l52 : z311 = 1 → ltr (Xi S 906 (v2).toNat) = 1 := fun q => by rw [← e37, ← (by assumption : z311 = ltr _)]; exact q
            have m52 : z311 = ltr (Xi S 906 (v2).toNat) := by rw [← e37]; assumption
            refine l_if_eq rfl rfl (by unfold rg; omega) (fun w312 => ?_) (fun w313 => ?_)
            · refine l_iload_n rfl rfl ?_
              refine l_bipush rfl rfl ?_
              refine l_bipush rfl rfl ?_
              refine l_callS rfl rfl (by decide) rfl (t_mo_in hHU33 (Xi T1 906 ((v2).toNat)) 48 57 ⟨by omega, by omega⟩ ⟨by omega, by omega⟩ ⟨by omega, by omega⟩ _) ?_
              rintro _ _ ⟨rfl, z317, rfl, w317, w316⟩
              show Rl _ _ _ _ _ [iv z317] _ _
              refine l_if_eq rfl rfl (by unfold rg; omega) (fun w318 => ?_) (fun w319 => ?_)
              · refine l_iload_n rfl rfl ?_
                refine l_bipush rfl rfl ?_
                refine l_icmp_ne rfl rfl (by unfold rg; omega) (by unfold rg; omega) (fun w320 => ?_) (fun w321 => ?_)
                · refine l_aload_n rfl rfl ?_
                  refine l_gfr rfl rfl rfl rfl rfl (hHU33.r 904 4 907 rfl) ?_
                  refine l_iload_n rfl rfl ?_
                  refine l_iload_n rfl rfl ?_
                  refine l_bipush rfl rfl ?_
                  refine l_icmp_eq rfl rfl (by unfold rg; omega) (by unfold rg; omega) (fun w322 => ?_) (fun w323 => ?_)
                  · refine l_iload_n rfl rfl ?_
                    refine l_goto rfl rfl ?_
                    refine l_iastore (n := 5002) rfl rfl (by omega) (by omega) (by unfold rg; omega) ?_
                    obtain ⟨U34, eU34⟩ : ∃ T : sS, T = uI U33 907 ((v1).toNat) (Int32.ofInt (Xi T1 906 ((v2).toNat))) := ⟨_, rfl⟩
                    rw [← eU34]
                    have hHU34 : HI U34 := by rw [eU34]; exact HI_w hHU33 (show 0 ≤ (Xi T1 906 ((v2).toNat)) by omega) (show (Xi T1 906 ((v2).toNat)) ≤ 154 by omega)
                    have hFU34 : FR md_mo_cut__f S U34 := by rw [eU34]; exact FR.wI hFU33 (mdf_i (r := (907, 908, 0, 100000)) (List.mem_of_getElem? (i := 0) rfl) (inR_i (by omega) (by omega) (by omega) (by omega)))
                    have w324 : Xi U34 907 ((v1).toNat) = (Xi T1 906 ((v2).toNat)) := by rw [eU34]; exact Xi_same (by unfold rg; omega)
                    have c425 : CT U34 v1 v2 := c50.w eU34 (by omega)
                    have u425 : CV (Xi S 906) (Xj S 911) (Xi S 904 3) U34 v1 := u50.w eU34 (by omega) (by omega)
                    have r425 : RM7 (Xi S 906) (Xj S 911) (Xi S 904 3) U34 (v1).toNat := by first | exact rm_p (p := v2) (by rw [eU34, Xi_ne (by omega), eU33]; exact Xi_same (by unfold rg; omega)) (by omega) (by omega) (lt7_0 (by omega)) (by omega) (by rw [eU34]; refine (Xi_same (by unfold rg; omega)).trans ?_; omega) | exact rm_o (p := v2) (by rw [eU34, Xi_ne (by omega), eU33]; exact Xi_same (by unfold rg; omega)) (by omega) (by omega) (lt7_0 (by omega)) (by omega) (by omega) (by omega) (by rw [eU34]; exact Xi_same (by unfold rg; omega)) | (exfalso; omega)
                    have w325 : Xi U34 908 (v1).toNat = Xi U33 908 (v1).toNat := (show Xi U34 908 (v1).toNat = Xi U33 908 (v1).toNat from by rw [eU34]; exact Xi_ne (by omega))
                    have w326 : Xi U34 909 (v1).toNat = Xi T1 909 (v1).toNat := (show Xi U34 909 (v1).toNat = Xi U33 909 (v1).toNat from by rw [eU34]; exact Xi_ne (by omega)).trans ((show Xi U33 909 (v1).toNat = Xi T1 909 (v1).toNat from by rw [eU33]; exact Xi_ne (by omega)))
                    have w327 : Xi U34 904 3 = Xi T1 904 3 := (show Xi U34 904 3 = Xi U33 904 3 from by rw [eU34]; exact Xi_ne (by omega)).trans ((show Xi U33 904 3 = Xi T1 904 3 from by rw [eU33]; exact Xi_ne (by omega)))
                    exact Rl_weak (C426 U34 hHU34 hFU34 (v1) ((v2 + 1)) (by omega) (by omega) (by rw [show Xi U34 908 (v1).toNat = v2 by omega]; assumption) (by omega) (by omega) (by omega) (by omega) (by omega) (by omega) (by omega) (by first | exact fun q => ⟨by have := k153 q; omega, by have := k153 q; omega⟩ | exact fun q => absurd q (by unfold K3; omega)) (by first | exact u153 | exact u268 | exact u384 | exact u425) (by first | exact r153 | exact r268 | exact r384 | exact r425) (by first | (exact fun q => rm_qw (by first | exact r153) q hw86 (by omega) W86) | (exact fun q => rm_qd (by first | exact r268) q hw241 h241 (by omega) D241) | (exact fun q => rm_qt (by first | exact r384) q h337 (by omega) T337) | (exact fun q => rm_qp (by first | exact r425) q (by omega) (lt7_0 (by omega)) (by omega) (by omega))) (by omega)) (And.intro rfl (And.intro rfl (And.intro rfl (True.intro))))
                  · refine l_iload_n rfl rfl ?_
                    refine l_bipush rfl rfl ?_
                    refine l_icmp_eq rfl rfl (by unfold rg; omega) (by unfold rg; omega) (fun w329 => ?_) (fun w330 => ?_)
                    · refine l_iload_n rfl rfl ?_
                      refine l_goto rfl rfl ?_
                      refine l_iastore (n := 5002) rfl rfl (by omega) (by omega) (by unfold rg; omega) ?_
                      obtain ⟨U35, eU35⟩ : ∃ T : sS, T = uI U33 907 ((v1).toNat) (Int32.ofInt (Xi T1 906 ((v2).toNat))) := ⟨_, rfl⟩
                      rw [← eU35]
                      have hHU35 : HI U35 := by rw [eU35]; exact HI_w hHU33 (show 0 ≤ (Xi T1 906 ((v2).toNat)) by omega) (show (Xi T1 906 ((v2).toNat)) ≤ 154 by omega)
                      have hFU35 : FR md_mo_cut__f S U35 := by rw [eU35]; exact FR.wI hFU33 (mdf_i (r := (907, 908, 0, 100000)) (List.mem_of_getElem? (i := 0) rfl) (inR_i (by omega) (by omega) (by omega) (by omega)))
                      have w331 : Xi U35 907 ((v1).toNat) = (Xi T1 906 ((v2).toNat)) := by rw [eU35]; exact Xi_same (by unfold rg; omega)
                      have c425 : CT U35 v1 v2 := c50.w eU35 (by omega)
                      have u425 : CV (Xi S 906) (Xj S 911) (Xi S 904 3) U35 v1 := u50.w eU35 (by omega) (by omega)
                      have r425 : RM7 (Xi S 906) (Xj S 911) (Xi S 904 3) U35 (v1).toNat := by first | exact rm_p (p := v2) (by rw [eU35, Xi_ne (by omega), eU33]; exact Xi_same (by unfold rg; omega)) (by omega) (by omega) (lt7_0 (by omega)) (by omega) (by rw [eU35]; refine (Xi_same (by unfold rg; omega)).trans ?_; omega) | exact rm_o (p := v2) (by rw [eU35, Xi_ne (by omega), eU33]; exact Xi_same (by unfold rg; omega)) (by omega) (by omega) (lt7_0 (by omega)) (by omega) (by omega) (by omega) (by rw [eU35]; exact Xi_same (by unfold rg; omega)) | (exfalso; omega)
                      have w332 : Xi U35 908 (v1).toNat = Xi U33 908 (v1).toNat := (show Xi U35 908 (v1).toNat = Xi U33 908 (v1).toNat from by rw [eU35]; exact Xi_ne (by omega))
                      have w333 : Xi U35 909 (v1).toNat = Xi T1 909 (v1).toNat := (show Xi U35 909 (v1).toNat = Xi U33 909 (v1).toNat from by rw [eU35]; exact Xi_ne (by omega)).trans ((show Xi U33 909 (v1).toNat = Xi T1 909 (v1).toNat from by rw [eU33]; exact Xi_ne (by omega)))
                      have w334 : Xi U35 904 3 = Xi T1 904 3 := (show Xi U35 904 3 = Xi U33 904 3 from by rw [eU35]; exact Xi_ne (by omega)).trans ((show Xi U33 904 3 = Xi T1 904 3 from by rw [eU33]; exact Xi_ne (by omega)))
                      exact Rl_weak (C426 U35 hHU35 hFU35 (v1) ((v2 + 1)) (by omega) (by omega) (by rw [show Xi U35 908 (v1).toNat = v2 by omega]; assumption) (by omega) (by omega) (by omega) (by omega) (by omega) (by omega) (by omega) (by first | exact fun q => ⟨by have := k153 q; omega, by have := k153 q; omega⟩ | exact fun q => absurd q (by unfold K3; omega)) (by first | exact u153 | exact u268 | exact u384 | exact u425) (by first | exact r153 | exact r268 | exact r384 | exact r425) (by first | (exact fun q => rm_qw (by first | exact r153) q hw86 (by omega) W86) | (exact fun q => rm_qd (by first | exact r268) q hw241 h241 (by omega) D241) | (exact fun q => rm_qt (by first | exact r384) q h337 (by omega) T337) | (exact fun q => rm_qp (by first | exact r425) q (by omega) (lt7_0 (by omega)) (by omega) (by omega))) (by omega)) (And.intro rfl (And.intro rfl (And.intro rfl (True.intro))))
                    · refine l_iload_n rfl rfl ?_
                      refine l_bipush rfl rfl ?_
                      refine l_icmp_eq rfl rfl (by unfold rg; omega) (by unfold rg; omega) (fun w336 => ?_) (fun w337 => ?_)
                      · refine l_iload_n rfl rfl ?_
                        refine l_goto rfl rfl ?_
                        refine l_iastore (n := 5002) rfl rfl (by omega) (by omega) (by unfold rg; omega) ?_
                        obtain ⟨U36, eU36⟩ : ∃ T : sS, T = uI U33 907 ((v1).toNat) (Int32.ofInt (Xi T1 906 ((v2).toNat))) := ⟨_, rfl⟩
                        rw [← eU36]
                        have hHU36 : HI U36 := by rw [eU36]; exact HI_w hHU33 (show 0 ≤ (Xi T1 906 ((v2).toNat)) by omega) (show (Xi T1 906 ((v2).toNat)) ≤ 154 by omega)
                        have hFU36 : FR md_mo_cut__f S U36 := by rw [eU36]; exact FR.wI hFU33 (mdf_i (r := (907, 908, 0, 100000)) (List.mem_of_getElem? (i := 0) rfl) (inR_i (by omega) (by omega) (by omega) (by omega)))
                        have w338 : Xi U36 907 ((v1).toNat) = (Xi T1 906 ((v2).toNat)) := by rw [eU36]; exact Xi_same (by unfold rg; omega)
                        have c425 : CT U36 v1 v2 := c50.w eU36 (by omega)
                        have u425 : CV (Xi S 906) (Xj S 911) (Xi S 904 3) U36 v1 := u50.w eU36 (by omega) (by omega)
                        have r425 : RM7 (Xi S 906) (Xj S 911) (Xi S 904 3) U36 (v1).toNat := by first | exact rm_p (p := v2) (by rw [eU36, Xi_ne (by omega), eU33]; exact Xi_same (by unfold rg; omega)) (by omega) (by omega) (lt7_0 (by omega)) (by omega) (by rw [eU36]; refine (Xi_same (by unfold rg; omega)).trans ?_; omega) | exact rm_o (p := v2) (by rw [eU36, Xi_ne (by omega), eU33]; exact Xi_same (by unfold rg; omega)) (by omega) (by omega) (lt7_0 (by omega)) (by omega) (by omega) (by omega) (by rw [eU36]; exact Xi_same (by unfold rg; omega)) | (exfalso; omega)
                        have w339 : Xi U36 908 (v1).toNat = Xi U33 908 (v1).toNat := (show Xi U36 908 (v1).toNat = Xi U33 908 (v1).toNat from by rw [eU36]; exact Xi_ne (by omega))
                        have w340 : Xi U36 909 (v1).toNat = Xi T1 909 (v1).toNat := (show Xi U36 909 (v1).toNat = Xi U33 909 (v1).toNat from by rw [eU36]; exact Xi_ne (by omega)).trans ((show Xi U33 909 (v1).toNat = Xi T1 909 (v1).toNat from by rw [eU33]; exact Xi_ne (by omega)))
                        have w341 : Xi U36 904 3 = Xi T1 904 3 := (show Xi U36 904 3 = Xi U33 904 3 from by rw [eU36]; exact Xi_ne (by omega)).trans ((show Xi U33 904 3 = Xi T1 904 3 from by rw [eU33]; exact Xi_ne (by omega)))
                        exact Rl_weak (C426 U36 hHU36 hFU36 (v1) ((v2 + 1)) (by omega) (by omega) (by rw [show Xi U36 908 (v1).toNat = v2 by omega]; assumption) (by omega) (by omega) (by omega) (by omega) (by omega) (by omega) (by omega) (by first | exact fun q => ⟨by have := k153 q; omega, by have := k153 q; omega⟩ | exact fun q => absurd q (by unfold K3; omega)) (by first | exact u153 | exact u268 | exact u384 | exact u425) (by first | exact r153 | exact r268 | exact r384 | exact r425) (by first | (exact fun q => rm_qw (by first | exact r153) q hw86 (by omega) W86) | (exact fun q => rm_qd (by first | exact r268) q hw241 h241 (by omega) D241) | (exact fun q => rm_qt (by first | exact r384) q h337 (by omega) T337) | (exact fun q => rm_qp (by first | exact r425) q (by omega) (lt7_0 (by omega)) (by omega) (by omega))) (by omega)) (And.intro rfl (And.intro rfl (And.intro rfl (True.intro))))
                      · refine l_iload_n rfl rfl ?_
                        refine l_bipush rfl rfl ?_
                        refine l_icmp_ne rfl rfl (by unfold rg; omega) (by unfold rg; omega) (fun w343 => ?_) (fun w344 => ?_)
                        · refine l_iconst rfl ?_
                          refine l_iastore (n := 5002) rfl rfl (by omega) (by omega) (by unfold rg; omega) ?_
                          obtain ⟨U37, eU37⟩ : ∃ T : sS, T = uI U33 907 ((v1).toNat) (Int32.ofInt 2) := ⟨_, rfl⟩
                          rw [← eU37]
                          have hHU37 : HI U37 := by rw [eU37]; exact HI_w hHU33 (show 0 ≤ 2 by omega) (show 2 ≤ 154 by omega)
                          have hFU37 : FR md_mo_cut__f S U37 := by rw [eU37]; exact FR.wI hFU33 (mdf_i (r := (907, 908, 0, 100000)) (List.mem_of_getElem? (i := 0) rfl) (inR_i (by omega) (by omega) (by omega) (by omega)))
                          have w345 : Xi U37 907 ((v1).toNat) = 2 := by rw [eU37]; exact Xi_same (by unfold rg; omega)
                          have c425 : CT U37 v1 v2 := c50.w eU37 (by omega)
                          have u425 : CV (Xi S 906) (Xj S 911) (Xi S 904 3) U37 v1 := u50.w eU37 (by omega) (by omega)
                          have r425 : RM7 (Xi S 906) (Xj S 911) (Xi S 904 3) U37 (v1).toNat := by first | exact rm_p (p := v2) (by rw [eU37, Xi_ne (by omega), eU33]; exact Xi_same (by unfold rg; omega)) (by omega) (by omega) (lt7_0 (by omega)) (by omega) (by rw [eU37]; refine (Xi_same (by unfold rg; omega)).trans ?_; omega) | exact rm_o (p := v2) (by rw [eU37, Xi_ne (by omega), eU33]; exact Xi_same (by unfold rg; omega)) (by omega) (by omega) (lt7_0 (by omega)) (by omega) (by omega) (by omega) (by rw [eU37]; exact Xi_same (by unfold rg; omega)) | (exfalso; omega)
                          have w346 : Xi U37 908 (v1).toNat = Xi U33 908 (v1).toNat := (show Xi U37 908 (v1).toNat = Xi U33 908 (v1).toNat from by rw [eU37]; exact Xi_ne (by omega))
                          have w347 : Xi U37 909 (v1).toNat = Xi T1 909 (v1).toNat := (show Xi U37 909 (v1).toNat = Xi U33 909 (v1).toNat from by rw [eU37]; exact Xi_ne (by omega)).trans ((show Xi U33 909 (v1).toNat = Xi T1 909 (v1).toNat from by rw [eU33]; exact Xi_ne (by omega)))
                          have w348 : Xi U37 904 3 = Xi T1 904 3 := (show Xi U37 904 3 = Xi U33 904 3 from by rw [eU37]; exact Xi_ne (by omega)).trans ((show Xi U33 904 3 = Xi T1 904 3 from by rw [eU33]; exact Xi_ne (by omega)))
                          exact Rl_weak (C426 U37 hHU37 hFU37 (v1) ((v2 + 1)) (by omega) (by omega) (by rw [show Xi U37 908 (v1).toNat = v2 by omega]; assumption) (by omega) (by omega) (by omega) (by omega) (by omega) (by omega) (by omega) (by first | exact fun q => ⟨by have := k153 q; omega, by have := k153 q; omega⟩ | exact fun q => absurd q (by unfold K3; omega)) (by first | exact u153 | exact u268 | exact u384 | exact u425) (by first | exact r153 | exact r268 | exact r384 | exact r425) (by first | (exact fun q => rm_qw (by first | exact r153) q hw86 (by omega) W86) | (exact fun q => rm_qd (by first | exact r268) q hw241 h241 (by omega) D241) | (exact fun q => rm_qt (by first | exact r384) q h337 (by omega) T337) | (exact fun q => rm_qp (by first | exact r425) q (by omega) (lt7_0 (by omega)) (by omega) (by omega))) (by omega)) (And.intro rfl (And.intro rfl (And.intro rfl (True.intro))))
                        · refine l_iload_n rfl rfl ?_
                          refine l_goto rfl rfl ?_
                          refine l_iastore (n := 5002) rfl rfl (by omega) (by omega) (by unfold rg; omega) ?_
                          obtain ⟨U38, eU38⟩ : ∃ T : sS, T = uI U33 907 ((v1).toNat) (Int32.ofInt (Xi T1 906 ((v2).toNat))) := ⟨_, rfl⟩
                          rw [← eU38]
                          have hHU38 : HI U38 := by rw [eU38]; exact HI_w hHU33 (show 0 ≤ (Xi T1 906 ((v2).toNat)) by omega) (show (Xi T1 906 ((v2).toNat)) ≤ 154 by omega)
                          have hFU38 : FR md_mo_cut__f S U38 := by rw [eU38]; exact FR.wI hFU33 (mdf_i (r := (907, 908, 0, 100000)) (List.mem_of_getElem? (i := 0) rfl) (inR_i (by omega) (by omega) (by omega) (by omega)))
                          have w350 : Xi U38 907 ((v1).toNat) = (Xi T1 906 ((v2).toNat)) := by rw [eU38]; exact Xi_same (by unfold rg; omega)
                          have c425 : CT U38 v1 v2 := c50.w eU38 (by omega)
                          have u425 : CV (Xi S 906) (Xj S 911) (Xi S 904 3) U38 v1 := u50.w eU38 (by omega) (by omega)
                          have r425 : RM7 (Xi S 906) (Xj S 911) (Xi S 904 3) U38 (v1).toNat := by first | exact rm_p (p := v2) (by rw [eU38, Xi_ne (by omega), eU33]; exact Xi_same (by unfold rg; omega)) (by omega) (by omega) (lt7_0 (by omega)) (by omega) (by rw [eU38]; refine (Xi_same (by unfold rg; omega)).trans ?_; omega) | exact rm_o (p := v2) (by rw [eU38, Xi_ne (by omega), eU33]; exact Xi_same (by unfold rg; omega)) (by omega) (by omega) (lt7_0 (by omega)) (by omega) (by omega) (by omega) (by rw [eU38]; exact Xi_same (by unfold rg; omega)) | (exfalso; omega)
                          have w351 : Xi U38 908 (v1).toNat = Xi U33 908 (v1).toNat := (show Xi U38 908 (v1).toNat = Xi U33 908 (v1).toNat from by rw [eU38]; exact Xi_ne (by omega))
                          have w352 : Xi U38 909 (v1).toNat = Xi T1 909 (v1).toNat := (show Xi U38 909 (v1).toNat = Xi U33 909 (v1).toNat from by rw [eU38]; exact Xi_ne (by omega)).trans ((show Xi U33 909 (v1).toNat = Xi T1 909 (v1).toNat from by rw [eU33]; exact Xi_ne (by omega)))
                          have w353 : Xi U38 904 3 = Xi T1 904 3 := (show Xi U38 904 3 = Xi U33 904 3 from by rw [eU38]; exact Xi_ne (by omega)).trans ((show Xi U33 904 3 = Xi T1 904 3 from by rw [eU33]; exact Xi_ne (by omega)))
                          exact Rl_weak (C426 U38 hHU38 hFU38 (v1) ((v2 + 1)) (by omega) (by omega) (by rw [show Xi U38 908 (v1).toNat = v2 by omega]; assumption) (by omega) (by omega) (by omega) (by omega) (by omega) (by omega) (by omega) (by first | exact fun q => ⟨by have := k153 q; omega, by have := k153 q; omega⟩ | exact fun q => absurd q (by unfold K3; omega)) (by first | exact u153 | exact u268 | exact u384 | exact u425) (by first | exact r153 | exact r268 | exact r384 | exact r425) (by first | (exact fun q => rm_qw (by first | exact r153) q hw86 (by omega) W86) | (exact fun q => rm_qd (by first | exact r268) q hw241 h241 (by omega) D241) | (exact fun q => rm_qt (by first | exact r384) q h337 (by omega) T337) | (exact fun q => rm_qp (by first | exact r425) q (by omega) (lt7_0 (by omega)) (by omega) (by omega))) (by omega)) (And.intro rfl (And.intro rfl (And.intro rfl (True.intro))))
                · refine l_iconst rfl ?_
                  refine l_istore rfl rfl rfl ?_
                  have w355 : Xi U33 907 (v1).toNat = Xi T1 907 (v1).toNat := (show Xi U33 907 (v1).toNat = Xi T1 907 (v1).toNat from by rw [eU33]; exact Xi_ne (by omega))
                  have w356 : Xi U33 909 (v1).toNat = Xi T1 909 (v1).toNat := (show Xi U33 909 (v1).toNat = Xi T1 909 (v1).toNat from by rw [eU33]; exact Xi_ne (by omega))
                  exact Rl_weak (C281 _ U33 hHU33 hFU33 (v1) (v2) ((v2 + 1)) (1) (by omega) (by omega) (by omega) (by omega) (by first | exact C281 | exact c50) (by omega) (by omega) (by omega) (by omega) (by omega) (by omega) (by first | exact CV281 | exact u50) (by first | rfl | exact T281.trans (te7_s (by omega) (by omega))) (by first | exact gd_0.symm | exact (gd_y (by omega) (by omega) (by omega) (by omega) (by omega)).symm | exact (gd_n (by omega) (by omega) (fun _ _ _ => by omega)).symm) (by first | exact h281 | omega) (by omega) rfl) (And.intro rfl (And.intro rfl (And.intro rfl (And.intro rfl (And.intro rfl (True.intro))))))
              · refine l_lconst (z := 0) rfl rfl ?_
                refine l_lstore rfl rfl rfl rfl ?_
                refine l_iload_n rfl rfl ?_
                refine l_istore rfl rfl rfl ?_
                have w359 : Xi U33 907 (v1).toNat = Xi T1 907 (v1).toNat := (show Xi U33 907 (v1).toNat = Xi T1 907 (v1).toNat from by rw [eU33]; exact Xi_ne (by omega))
                have w360 : Xi U33 909 (v1).toNat = Xi T1 909 (v1).toNat := (show Xi U33 909 (v1).toNat = Xi T1 909 (v1).toNat from by rw [eU33]; exact Xi_ne (by omega))
                exact Rl_weak (C174 _ U33 hHU33 hFU33 (v1) (v2) (v2) (0) (by omega) (by omega) (by omega) (by first | exact C174 | exact c50) (by omega) (by omega) (by omega) (by omega) (by omega) (by omega) (by omega) (by first | exact CV174 | exact u50) (by first | rfl | exact D174.trans (de7_s (by omega) (by omega) (by omega))) (by first | exact dv_0 | exact dv_m (by omega) (by omega) (by omega) V174 (by omega) | exact dv_l (by omega) V174) (by first | exact hw174 | exact lt7_0 (by omega)) (by first | exact h174 | omega) (by omega) (by omega) (by omega) (by omega) (by omega) (by omega) (by omega) (by omega) rfl) (And.intro rfl (And.intro rfl (And.intro rfl (And.intro rfl (And.intro rfl (True.intro))))))
            · have w363 : Xi U33 907 (v1).toNat = Xi T1 907 (v1).toNat := (show Xi U33 907 (v1).toNat = Xi T1 907 (v1).toNat from by rw [eU33]; exact Xi_ne (by omega))
              have w364 : Xi U33 909 (v1).toNat = Xi T1 909 (v1).toNat := (show Xi U33 909 (v1).toNat = Xi T1 909 (v1).toNat from by rw [eU33]; exact Xi_ne (by omega))
              exact Rl_weak (C58 _ U33 hHU33 hFU33 (v1) (v2) ((v2 + 1)) (by omega) (by omega) (by omega) (by first | exact C58 | exact c50) (by omega) (by omega) (by omega) (by omega) (by omega) (by omega) (by first | exact (fun i a b => (Int.lt_or_le (i : Int) v4).elim (fun q => L58 i a q) (fun q => by rw [show i = (v4).toNat by omega]; exact l74 (by omega))) | exact (fun i a b => by rw [show i = (v2).toNat by omega]; exact l52 (by omega))) (by first | exact CV58 | exact u50) (by first | exact W58.trans (we7_s (by omega) (by have t := lt7_l (l74 (by omega)); omega)) | exact we7_s (by omega) (by have t := lt7_l (l52 (by omega)); omega)) (by first | exact hw58 | (have t := lt7_l (l52 (by omega)); omega)) (by omega) rfl) (And.intro rfl (And.intro rfl (And.intro rfl (And.intro rfl (True.intro)))))
  refine l_iconst rfl ?_
  refine l_istore_n rfl rfl rfl ?_
  refine l_aload_n rfl rfl ?_
  refine l_iconst rfl ?_
  refine l_callV rfl rfl rfl (t_mo_blanks__f hH 0 ⟨by omega, by omega⟩ _) ?_
  rintro _ _ ⟨rfl, z371, rfl, w371, w368, w369, w370⟩
  show Rl _ _ _ _ _ [iv z371] _ _
  have b4 : z371 = sk7 (Xi S 906) (Xi S 904 3) 0 := by assumption
  refine l_istore_n rfl rfl rfl ?_
  exact Rl_weak (C8 _ S hH hF (0) (z371) (by omega) (by omega) (by first | exact CT.rf | exact C426.add (by omega) (by omega) (by omega) (by omega) (by omega) (fun q => by have := K426 q; omega)) (by first | exact CT.rf | exact C426.add (by omega) (by omega) (by omega) (by omega) (by omega) (fun q => by have := K426 q; omega)) (by omega) (by omega) (by omega) (by first | exact CU.z | exact CV426.add (by omega) R426) (by first | exact fun _ => b4 | exact fun q => absurd q (by omega)) (by first | exact fun q => absurd q (by omega) | (intro _ q; rw [show v1 + 1 - 1 = v1 by omega] at q ⊢; rw [← Q426 q]; rw [← (FR6 hF rfl : Xi S 906 = Xi S 906), ← (hF.x 904 3 rfl)]; assumption)) rfl) (And.intro rfl (And.intro rfl (And.intro rfl (True.intro))))
end
