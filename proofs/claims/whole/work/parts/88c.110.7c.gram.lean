section
abbrev Q_rs_isArt__p (S : sS) (type : Int) : pst := fun r S1 => S = S1 ∧ (∃ z : Int, r = some (iv z) ∧ (0 ≤ z ∧ z ≤ 1) ∧ (z = 1 → 0 ≤ type ∧ type ≤ 3) ∧ (z = 0 → type < 0 ∨ 3 < type))
set_option maxRecDepth 100000 in
theorem t_rs_isArt__p {S : sS} (hH : RI S) (type : Int) (htype : -2147483648 ≤ type ∧ type ≤ 2147483647) (d : Nat) : Mp lay0 (d + 1) m_rs_isArt [iv type] S (Q_rs_isArt__p S type) := by
  refine Mp_R rfl rfl (fun fu => ?_)
  refine y_iload_n rfl rfl ?_
  refine y_if_lt rfl rfl (by unfold rg; omega) (fun w1 => ?_) (fun w2 => ?_)
  · refine y_iconst rfl ?_
    refine y_ireturn rfl rfl ?_
    exact ⟨rfl, _, rfl, ⟨by omega, by omega⟩, (by omega), (by omega)⟩
  · refine y_iload_n rfl rfl ?_
    refine y_iconst rfl ?_
    refine y_icmp_gt rfl rfl (by unfold rg; omega) (by unfold rg; omega) (fun w3 => ?_) (fun w4 => ?_)
    · refine y_iconst rfl ?_
      refine y_ireturn rfl rfl ?_
      exact ⟨rfl, _, rfl, ⟨by omega, by omega⟩, (by omega), (by omega)⟩
    · refine y_iconst rfl ?_
      refine y_goto rfl rfl ?_
      refine y_ireturn rfl rfl ?_
      exact ⟨rfl, _, rfl, ⟨by omega, by omega⟩, (by omega), (by omega)⟩
abbrev Q_to_typeAt__p (S : sS) (row : Int) : pst := fun r S1 => S = S1 ∧ (∃ z : Int, r = some (iv z) ∧ (-2147483648 ≤ z ∧ z ≤ 2147483647) ∧ (ty7 S row = z) ∧ (z ≠ 107 → 0 ≤ row ∧ row < Xi S 876 7))
set_option maxRecDepth 100000 in
theorem t_to_typeAt__p {S : sS} (hH : RI S) (row : Int) (hrow : -2147483648 ≤ row ∧ row ≤ 2147483647) (d : Nat) : Mp lay0 (d + 1) m_to_typeAt [.ref 876, iv row] S (Q_to_typeAt__p S row) := by
  refine Mp_R rfl rfl (fun fu => ?_)
  have w1 : -2147483648 ≤ Xi S 876 7 ∧ Xi S 876 7 ≤ 2147483647 := Xi_rgI
  refine y_iload_n rfl rfl ?_
  refine y_if_lt rfl rfl (by unfold rg; omega) (fun w2 => ?_) (fun w3 => ?_)
  · refine y_bipush rfl rfl ?_
    refine y_ireturn rfl rfl ?_
    exact ⟨rfl, _, rfl, ⟨by omega, by omega⟩, (by first | exact ty7_i (by omega) (by omega) | exact ty7_o (by omega)), (by omega)⟩
  · refine y_iload_n rfl rfl ?_
    refine y_aload_n rfl rfl ?_
    refine y_gfi rfl rfl rfl rfl rfl ?_
    refine y_icmp_ge rfl rfl (by unfold rg; omega) (by unfold rg; omega) (fun w4 => ?_) (fun w5 => ?_)
    · refine y_bipush rfl rfl ?_
      refine y_ireturn rfl rfl ?_
      exact ⟨rfl, _, rfl, ⟨by omega, by omega⟩, (by first | exact ty7_i (by omega) (by omega) | exact ty7_o (by omega)), (by omega)⟩
    · refine y_aload_n rfl rfl ?_
      refine y_gfr rfl rfl rfl rfl rfl (hH.r 876 0 877 rfl) ?_
      refine y_iload_n rfl rfl ?_
      refine y_ialoadP (n := 5130) rfl rfl (by unfold rg; omega) (fun w6 w7 => ?_)
      have w8 : -2147483648 ≤ (Xi S 877 ((row).toNat)) ∧ (Xi S 877 ((row).toNat)) ≤ 2147483647 := Xi_rgI
      refine y_goto rfl rfl ?_
      refine y_ireturn rfl rfl ?_
      exact ⟨rfl, _, rfl, ⟨by omega, by omega⟩, (by first | exact ty7_i (by omega) (by omega) | exact ty7_o (by omega)), (by omega)⟩
abbrev Q_to_runEndUpTo__p (S : sS) (from_ : Int) (limit : Int) : pst := fun r S1 => S = S1 ∧ (∃ z : Int, r = some (iv z) ∧ (-2147483648 ≤ z ∧ z ≤ 2147483647) ∧ (z = ruF S from_ limit) ∧ (from_ ≤ z ∧ (z = from_ ∨ z ≤ Xi S 876 7)))
set_option maxRecDepth 100000 in
theorem t_to_runEndUpTo__p {S : sS} (hH : RI S) (from_ : Int) (limit : Int) (hfrom_ : -2147483648 ≤ from_ ∧ from_ ≤ 2147483647) (hlimit : -2147483648 ≤ limit ∧ limit ≤ 2147483647) (d : Nat) : Mp lay0 (d + 1) m_to_runEndUpTo [.ref 876, iv from_, iv limit] S (Q_to_runEndUpTo__p S from_ limit) := by
  refine Mp_R rfl rfl (fun fu => ?_)
  have w1 : -2147483648 ≤ Xi S 876 7 ∧ Xi S 876 7 ≤ 2147483647 := Xi_rgI
  have C2 : ∀ (n2 : Nat) (_ : n2 ≤ fu) (v3 : Int), (-2147483648 ≤ v3 ∧ v3 ≤ 2147483647) → (ruF S from_ limit = ren S limit (5131 - (v3 - from_)).toNat v3) → (from_ ≤ v3) → (v3 = from_ ∨ (0 ≤ from_ ∧ v3 ≤ Xi S 876 7 ∧ v3 ≤ 5130)) → Pl n2 lay0 (d + 0) m_to_runEndUpTo 2 [(0, .ref 876), (2, iv limit), (3, iv v3)] [] S (Q_to_runEndUpTo__p S from_ limit) := by
    intro n2
    induction n2 with
    | zero => intros; exact Pl_0
    | succ n2 ih2 =>
      intro hm2 v3 w2 hv2 w3 w4
      have C36 : ∀  (v3 : Int), (-2147483648 ≤ v3 ∧ v3 ≤ 2147483647) → (ruF S from_ limit = v3) → (from_ ≤ v3) → (v3 = from_ ∨ (0 ≤ from_ ∧ v3 ≤ Xi S 876 7 ∧ v3 ≤ 5130)) → Pl n2 lay0 (d + 0) m_to_runEndUpTo 36 [(3, iv v3)] [] S (Q_to_runEndUpTo__p S from_ limit) := by
        intro v3 w5 hv36 w6 w7
        refine y_iload_n rfl rfl ?_
        refine y_ireturn rfl rfl ?_
        exact ⟨rfl, _, rfl, ⟨by omega, by omega⟩, (hv36.symm), (by omega)⟩
      refine ys_iload_n rfl rfl ?_
      refine y_if_lt rfl rfl (by unfold rg; omega) (fun w8 => ?_) (fun w9 => ?_)
      · exact Pl_weak (C36 (v3) (by omega) (hv2.trans (ren_e (by omega))) (by omega) (by omega)) (by omega) (And.intro rfl (True.intro))
      · refine y_iload_n rfl rfl ?_
        refine y_iload_n rfl rfl ?_
        refine y_icmp_ge rfl rfl (by unfold rg; omega) (by unfold rg; omega) (fun w10 => ?_) (fun w11 => ?_)
        · exact Pl_weak (C36 (v3) (by omega) (hv2.trans (ren_e (by omega))) (by omega) (by omega)) (by omega) (And.intro rfl (True.intro))
        · refine y_iload_n rfl rfl ?_
          refine y_aload_n rfl rfl ?_
          refine y_gfi rfl rfl rfl rfl rfl ?_
          refine y_icmp_ge rfl rfl (by unfold rg; omega) (by unfold rg; omega) (fun w12 => ?_) (fun w13 => ?_)
          · exact Pl_weak (C36 (v3) (by omega) (hv2.trans (ren_e (by omega))) (by omega) (by omega)) (by omega) (And.intro rfl (True.intro))
          · refine y_aload_n rfl rfl ?_
            refine y_gfr rfl rfl rfl rfl rfl (hH.r 876 0 877 rfl) ?_
            refine y_iload_n rfl rfl ?_
            refine y_ialoadP (n := 5130) rfl rfl (by unfold rg; omega) (fun w14 w15 => ?_)
            have w16 : -2147483648 ≤ (Xi S 877 ((v3).toNat)) ∧ (Xi S 877 ((v3).toNat)) ≤ 2147483647 := Xi_rgI
            refine y_bipush rfl rfl ?_
            refine y_icmp_ne rfl rfl (by unfold rg; omega) (by unfold rg; omega) (fun w17 => ?_) (fun w18 => ?_)
            · exact Pl_weak (C36 (v3) (by omega) (hv2.trans (ren_e (by omega))) (by omega) (by omega)) (by omega) (And.intro rfl (True.intro))
            · refine y_iinc rfl rfl rfl rfl ?_
              refine y_goto rfl rfl ?_
              exact Pl_weak (ih2 (by omega) ((v3 + 1)) (by omega) (by first | exact ru_0 | exact hv2.trans (ren_s (by omega) (by omega))) (by omega) (by omega)) (by omega) (And.intro rfl (And.intro rfl (And.intro rfl (True.intro))))
  refine y_iload_n rfl rfl ?_
  refine y_istore_n rfl rfl rfl ?_
  exact Pl_weak (C2 fu (by omega) (from_) (by omega) (by first | exact ru_0 | exact hv2.trans (ren_s (by omega) (by omega))) (by omega) (by omega)) (by omega) (And.intro rfl (And.intro rfl (And.intro rfl (True.intro))))
abbrev Q_to_runEnd__p (S : sS) (from_ : Int) : pst := fun r S1 => S = S1 ∧ (∃ z : Int, r = some (iv z) ∧ (-2147483648 ≤ z ∧ z ≤ 2147483647) ∧ (re7 (ty7 S) from_ = z) ∧ (from_ ≤ z ∧ (z = from_ ∨ z ≤ Xi S 876 7)))
set_option maxRecDepth 100000 in
theorem t_to_runEnd__p {S : sS} (hH : RI S) (from_ : Int) (hfrom_ : -2147483648 ≤ from_ ∧ from_ ≤ 2147483647) (d : Nat) : Mp lay0 (d + 2) m_to_runEnd [.ref 876, iv from_] S (Q_to_runEnd__p S from_) := by
  refine Mp_R rfl rfl (fun fu => ?_)
  have w1 : -2147483648 ≤ Xi S 876 7 ∧ Xi S 876 7 ≤ 2147483647 := Xi_rgI
  refine y_aload_n rfl rfl ?_
  refine y_iload_n rfl rfl ?_
  refine y_aload_n rfl rfl ?_
  refine y_gfi rfl rfl rfl rfl rfl ?_
  refine y_callV rfl rfl rfl (t_to_runEndUpTo__p hH from_ (Xi S 876 7) ⟨by omega, by omega⟩ ⟨by omega, by omega⟩ _) ?_
  rintro _ _ ⟨rfl, z3, rfl, w3, v6, w2⟩
  show Pl _ _ _ _ _ _ [iv z3] _ _
  refine y_ireturn rfl rfl ?_
  exact ⟨rfl, _, rfl, ⟨by omega, by omega⟩, (by rw [← ru_re (lim := Xi S 876 7) (fun r h _ => h)]; exact v6.symm), (by omega)⟩
abbrev Q_to_behindArt__p (S : sS) (row : Int) : pst := fun r S1 => S = S1 ∧ (∃ z : Int, r = some (iv z) ∧ (-2147483648 ≤ z ∧ z ≤ 2147483647) ∧ (bA (ty7 S) row = z) ∧ (row ≤ z ∧ z ≤ row + 1 ∧ (z = row ∨ (0 ≤ row ∧ row < Xi S 876 7))))
set_option maxRecDepth 100000 in
theorem t_to_behindArt__p {S : sS} (hH : RI S) (row : Int) (hrow : -2147483648 ≤ row ∧ row ≤ 2147483647) (d : Nat) : Mp lay0 (d + 2) m_to_behindArt [.ref 876, iv row] S (Q_to_behindArt__p S row) := by
  refine Mp_R rfl rfl (fun fu => ?_)
  have w1 : -2147483648 ≤ Xi S 876 7 ∧ Xi S 876 7 ≤ 2147483647 := Xi_rgI
  refine y_aload_n rfl rfl ?_
  refine y_iload_n rfl rfl ?_
  refine y_callV rfl rfl rfl (t_to_typeAt__p hH row ⟨by omega, by omega⟩ _) ?_
  rintro _ _ ⟨rfl, z4, rfl, w4, w2, w3⟩
  show Pl _ _ _ _ _ _ [iv z4] _ _
  have gq2 := w2
  clear w2
  refine y_callS rfl rfl (by decide) rfl (t_rs_isArt__p hH z4 ⟨by omega, by omega⟩ _) ?_
  rintro _ _ ⟨rfl, z7, rfl, w7, w5, w6⟩
  show Pl _ _ _ _ _ _ [iv z7] _ _
  refine y_if_eq rfl rfl (by unfold rg; omega) (fun w8 => ?_) (fun w9 => ?_)
  · refine y_iload_n rfl rfl ?_
    refine y_ireturn rfl rfl ?_
    exact ⟨rfl, _, rfl, ⟨by omega, by omega⟩, (by unfold bA; rw [gq2]; first | exact if_pos (by omega) | exact if_neg (by omega)), (by omega)⟩
  · refine y_iload_n rfl rfl ?_
    refine y_iconst rfl ?_
    refine y_iadd rfl ?_
    refine y_goto rfl rfl ?_
    refine y_ireturn rfl rfl ?_
    exact ⟨rfl, _, rfl, ⟨by omega, by omega⟩, (by unfold bA; rw [gq2]; first | exact if_pos (by omega) | exact if_neg (by omega)), (by omega)⟩
abbrev Q_to_beginsProperty__p (S : sS) (row : Int) : pst := fun r S1 => S = S1 ∧ (∃ z : Int, r = some (iv z) ∧ (0 ≤ z ∧ z ≤ 1) ∧ ((z = 1 → ty7 S row = 2 ∧ ty7 S (row + 1) = 100 ∧ ty7 S (re7 (ty7 S) (row + 1)) = 7) ∧ (z = 0 → ¬ (ty7 S row = 2 ∧ ty7 S (row + 1) = 100 ∧ ty7 S (re7 (ty7 S) (row + 1)) = 7))) ∧ (z = 1 → 0 ≤ row ∧ row + 1 < Xi S 876 7))
set_option maxRecDepth 100000 in
theorem t_to_beginsProperty__p {S : sS} (hH : RI S) (row : Int) (hrow : -2147483648 ≤ row ∧ row ≤ 2147483646) (d : Nat) : Mp lay0 (d + 2) m_to_beginsProperty [.ref 876, iv row] S (Q_to_beginsProperty__p S row) := by
  refine Mp_R rfl rfl (fun fu => ?_)
  have w1 : -2147483648 ≤ Xi S 876 7 ∧ Xi S 876 7 ≤ 2147483647 := Xi_rgI
  refine y_aload_n rfl rfl ?_
  refine y_iload_n rfl rfl ?_
  refine y_callV rfl rfl rfl (t_to_typeAt__p hH row ⟨by omega, by omega⟩ _) ?_
  rintro _ _ ⟨rfl, z4, rfl, w4, w2, w3⟩
  show Pl _ _ _ _ _ _ [iv z4] _ _
  have gq2 := w2
  clear w2
  refine y_iconst rfl ?_
  refine y_icmp_ne rfl rfl (by unfold rg; omega) (by unfold rg; omega) (fun w5 => ?_) (fun w6 => ?_)
  · refine y_iconst rfl ?_
    refine y_ireturn rfl rfl ?_
    exact ⟨rfl, _, rfl, ⟨by omega, by omega⟩, (by first | (rw [← r30]; exact ⟨fun _ => ⟨by omega, by omega, by omega⟩, fun q => absurd q (by omega)⟩) | (rw [← r30]; exact ⟨fun q => absurd q (by omega), fun _ => (by omega)⟩) | exact ⟨fun q => absurd q (by omega), fun _ => (by omega)⟩), (by omega)⟩
  · refine y_aload_n rfl rfl ?_
    refine y_iload_n rfl rfl ?_
    refine y_iconst rfl ?_
    refine y_iadd rfl ?_
    refine y_callV rfl rfl rfl (t_to_typeAt__p hH (row + 1) ⟨by omega, by omega⟩ _) ?_
    rintro _ _ ⟨rfl, z9, rfl, w9, w7, w8⟩
    show Pl _ _ _ _ _ _ [iv z9] _ _
    have gq13 := w7
    clear w7
    refine y_bipush rfl rfl ?_
    refine y_icmp_ne rfl rfl (by unfold rg; omega) (by unfold rg; omega) (fun w10 => ?_) (fun w11 => ?_)
    · refine y_iconst rfl ?_
      refine y_ireturn rfl rfl ?_
      exact ⟨rfl, _, rfl, ⟨by omega, by omega⟩, (by first | (rw [← r30]; exact ⟨fun _ => ⟨by omega, by omega, by omega⟩, fun q => absurd q (by omega)⟩) | (rw [← r30]; exact ⟨fun q => absurd q (by omega), fun _ => (by omega)⟩) | exact ⟨fun q => absurd q (by omega), fun _ => (by omega)⟩), (by omega)⟩
    · refine y_aload_n rfl rfl ?_
      refine y_aload_n rfl rfl ?_
      refine y_iload_n rfl rfl ?_
      refine y_iconst rfl ?_
      refine y_iadd rfl ?_
      refine y_aload_n rfl rfl ?_
      refine y_gfi rfl rfl rfl rfl rfl ?_
      refine y_callV rfl rfl rfl (t_to_runEndUpTo__p hH (row + 1) (Xi S 876 7) ⟨by omega, by omega⟩ ⟨by omega, by omega⟩ _) ?_
      rintro _ _ ⟨rfl, z13, rfl, w13, v30, w12⟩
      show Pl _ _ _ _ _ _ [iv z13, .ref 876] _ _
      have r30 : z13 = re7 (ty7 S) (row + 1) := v30.trans (ru_re (fun r h _ => h))
      refine y_callV rfl rfl rfl (t_to_typeAt__p hH z13 ⟨by omega, by omega⟩ _) ?_
      rintro _ _ ⟨rfl, z16, rfl, w16, w14, w15⟩
      show Pl _ _ _ _ _ _ [iv z16] _ _
      have gq33 := w14
      clear w14
      refine y_bipush rfl rfl ?_
      refine y_icmp_ne rfl rfl (by unfold rg; omega) (by unfold rg; omega) (fun w17 => ?_) (fun w18 => ?_)
      · refine y_iconst rfl ?_
        refine y_ireturn rfl rfl ?_
        exact ⟨rfl, _, rfl, ⟨by omega, by omega⟩, (by first | (rw [← r30]; exact ⟨fun _ => ⟨by omega, by omega, by omega⟩, fun q => absurd q (by omega)⟩) | (rw [← r30]; exact ⟨fun q => absurd q (by omega), fun _ => (by omega)⟩) | exact ⟨fun q => absurd q (by omega), fun _ => (by omega)⟩), (by omega)⟩
      · refine y_iconst rfl ?_
        refine y_goto rfl rfl ?_
        refine y_ireturn rfl rfl ?_
        exact ⟨rfl, _, rfl, ⟨by omega, by omega⟩, (by first | (rw [← r30]; exact ⟨fun _ => ⟨by omega, by omega, by omega⟩, fun q => absurd q (by omega)⟩) | (rw [← r30]; exact ⟨fun q => absurd q (by omega), fun _ => (by omega)⟩) | exact ⟨fun q => absurd q (by omega), fun _ => (by omega)⟩), (by omega)⟩
abbrev Q_to_firstOf__p (S : sS) (type : Int) (from_ : Int) (to : Int) : pst := fun r S1 => S = S1 ∧ (∃ z : Int, r = some (iv z) ∧ (-2147483648 ≤ z ∧ z ≤ 2147483647) ∧ (fo7 (ty7 S) type from_ to = z))
set_option maxRecDepth 100000 in
theorem t_to_firstOf__p {S : sS} (hH : RI S) (type : Int) (from_ : Int) (to : Int) (htype : -2147483648 ≤ type ∧ type ≤ 2147483647) (hfrom_ : -2147483648 ≤ from_ ∧ from_ ≤ 2147483647) (hto : -2147483648 ≤ to ∧ to ≤ 2147483647) (d : Nat) : Mp lay0 (d + 2) m_to_firstOf [.ref 876, iv type, iv from_, iv to] S (Q_to_firstOf__p S type from_ to) := by
  refine Mp_R rfl rfl (fun fu => ?_)
  have C3 : ∀ (n3 : Nat) (_ : n3 ≤ fu) (v4 : Int), (-2147483648 ≤ v4 ∧ v4 ≤ 2147483647) → (fo7 (ty7 S) type from_ to = fo7F (ty7 S) type to (to - v4).toNat v4) → Pl n3 lay0 (d + 1) m_to_firstOf 3 [(0, .ref 876), (1, iv type), (3, iv to), (4, iv v4)] [] S (Q_to_firstOf__p S type from_ to) := by
    intro n3
    induction n3 with
    | zero => intros; exact Pl_0
    | succ n3 ih3 =>
      intro hm3 v4 w1 f3
      refine ys_iload rfl rfl ?_
      refine y_iload_n rfl rfl ?_
      refine y_icmp_ge rfl rfl (by unfold rg; omega) (by unfold rg; omega) (fun w2 => ?_) (fun w3 => ?_)
      · refine y_iconst rfl ?_
        refine y_ireturn rfl rfl ?_
        exact ⟨rfl, _, rfl, ⟨by omega, by omega⟩, (by first | exact f3.trans (fo_h (by omega) (by omega)) | exact f3.trans (fo_e (by omega)))⟩
      · refine y_aload_n rfl rfl ?_
        refine y_iload rfl rfl ?_
        refine y_callV rfl rfl rfl (t_to_typeAt__p hH v4 ⟨by omega, by omega⟩ _) ?_
        rintro _ _ ⟨rfl, z6, rfl, w6, w4, w5⟩
        show Pl _ _ _ _ _ _ [iv z6] _ _
        have gq12 := w4
        clear w4
        refine y_iload_n rfl rfl ?_
        refine y_icmp_ne rfl rfl (by unfold rg; omega) (by unfold rg; omega) (fun w7 => ?_) (fun w8 => ?_)
        · refine y_iinc rfl rfl rfl rfl ?_
          refine y_goto rfl rfl ?_
          exact Pl_weak (ih3 (by omega) ((v4 + 1)) (by omega) (by first | rfl | exact f3.trans (fo_s (by omega) (by omega)))) (by omega) (And.intro rfl (And.intro rfl (And.intro rfl (And.intro rfl (True.intro)))))
        · refine y_iload rfl rfl ?_
          refine y_ireturn rfl rfl ?_
          exact ⟨rfl, _, rfl, ⟨by omega, by omega⟩, (by first | exact f3.trans (fo_h (by omega) (by omega)) | exact f3.trans (fo_e (by omega)))⟩
  refine y_iload_n rfl rfl ?_
  refine y_istore rfl rfl rfl ?_
  exact Pl_weak (C3 fu (by omega) (from_) (by omega) (by first | rfl | exact f3.trans (fo_s (by omega) (by omega)))) (by omega) (And.intro rfl (And.intro rfl (And.intro rfl (And.intro rfl (True.intro)))))
abbrev Q_to_testEnd__p (S : sS) (from_ : Int) (now : Int) : pst := fun r S1 => S = S1 ∧ (∃ z : Int, r = some (iv z) ∧ (-2147483648 ≤ z ∧ z ≤ 2147483647) ∧ (te8 (ty7 S) now from_ = z) ∧ (from_ ≤ z ∧ z ≤ 5131))
set_option maxRecDepth 100000 in
theorem t_to_testEnd__p {S : sS} (hH : RI S) (from_ : Int) (now : Int) (hfrom_ : -2147483648 ≤ from_ ∧ from_ ≤ 2147483647) (hnow : 0 ≤ now ∧ now ≤ 1) (hf : 0 ≤ from_ ∧ from_ ≤ Xi S 876 7) (hr : Xi S 876 7 ≤ 5130) (d : Nat) : Mp lay0 (d + 1) m_to_testEnd [.ref 876, iv from_, iv now] S (Q_to_testEnd__p S from_ now) := by
  refine Mp_R rfl rfl (fun fu => ?_)
  have w1 : -2147483648 ≤ Xi S 876 7 ∧ Xi S 876 7 ≤ 2147483647 := Xi_rgI
  have C2 : ∀ (n2 : Nat) (_ : n2 ≤ fu) (v3 : Int), (-2147483648 ≤ v3 ∧ v3 ≤ 2147483647) → (te8 (ty7 S) now from_ = te8F (ty7 S) now (5141 - (v3 - from_)).toNat v3) → (from_ ≤ v3 ∧ v3 ≤ Xi S 876 7) → Pl n2 lay0 (d + 0) m_to_testEnd 2 [(0, .ref 876), (2, iv now), (3, iv v3)] [] S (Q_to_testEnd__p S from_ now) := by
    intro n2
    induction n2 with
    | zero => intros; exact Pl_0
    | succ n2 ih2 =>
      intro hm2 v3 w2 t2 w3
      have C59 : ∀  (v3 : Int), (-2147483648 ≤ v3 ∧ v3 ≤ 2147483647) → (te8 (ty7 S) now from_ = te8F (ty7 S) now (5141 - (v3 - from_)).toNat v3) → (from_ ≤ v3 ∧ v3 < Xi S 876 7) → (¬ et7 now (ty7 S v3)) → Pl n2 lay0 (d + 0) m_to_testEnd 59 [(0, .ref 876), (2, iv now), (3, iv v3)] [] S (Q_to_testEnd__p S from_ now) := by
        intro v3 w4 t59 w5 h59
        refine y_iinc rfl rfl rfl rfl ?_
        refine y_goto rfl rfl ?_
        exact Pl_weak (ih2 (by omega) ((v3 + 1)) (by omega) (by first | exact te8_0 | exact t59.trans (te8_s (by omega) (by omega) h59)) (by omega)) (by omega) (And.intro rfl (And.intro rfl (And.intro rfl (True.intro))))
      refine ys_iload_n rfl rfl ?_
      refine y_aload_n rfl rfl ?_
      refine y_gfi rfl rfl rfl rfl rfl ?_
      refine y_icmp_ge rfl rfl (by unfold rg; omega) (by unfold rg; omega) (fun w6 => ?_) (fun w7 => ?_)
      · refine y_aload_n rfl rfl ?_
        refine y_gfi rfl rfl rfl rfl rfl ?_
        refine y_ireturn rfl rfl ?_
        exact ⟨rfl, _, rfl, ⟨by omega, by omega⟩, (by first | exact t2.trans (te8_h (by omega) (by rw [ty7_i (by omega) (by omega)]; unfold et7; omega)) | (rw [t2, te8_h (by omega) (by rw [ty7_o (by omega)]; unfold et7; omega)]; omega)), (by omega)⟩
      · refine y_aload_n rfl rfl ?_
        refine y_gfr rfl rfl rfl rfl rfl (hH.r 876 0 877 rfl) ?_
        refine y_iload_n rfl rfl ?_
        refine y_ialoadP (n := 5130) rfl rfl (by unfold rg; omega) (fun w8 w9 => ?_)
        have w10 : -2147483648 ≤ (Xi S 877 ((v3).toNat)) ∧ (Xi S 877 ((v3).toNat)) ≤ 2147483647 := Xi_rgI
        refine y_istore rfl rfl rfl ?_
        refine y_iload rfl rfl ?_
        refine y_bipush rfl rfl ?_
        refine y_icmp_eq rfl rfl (by unfold rg; omega) (by unfold rg; omega) (fun w11 => ?_) (fun w12 => ?_)
        · refine y_iload_n rfl rfl ?_
          refine y_ireturn rfl rfl ?_
          exact ⟨rfl, _, rfl, ⟨by omega, by omega⟩, (by first | exact t2.trans (te8_h (by omega) (by rw [ty7_i (by omega) (by omega)]; unfold et7; omega)) | (rw [t2, te8_h (by omega) (by rw [ty7_o (by omega)]; unfold et7; omega)]; omega)), (by omega)⟩
        · refine y_iload rfl rfl ?_
          refine y_bipush rfl rfl ?_
          refine y_icmp_eq rfl rfl (by unfold rg; omega) (by unfold rg; omega) (fun w13 => ?_) (fun w14 => ?_)
          · refine y_iload_n rfl rfl ?_
            refine y_ireturn rfl rfl ?_
            exact ⟨rfl, _, rfl, ⟨by omega, by omega⟩, (by first | exact t2.trans (te8_h (by omega) (by rw [ty7_i (by omega) (by omega)]; unfold et7; omega)) | (rw [t2, te8_h (by omega) (by rw [ty7_o (by omega)]; unfold et7; omega)]; omega)), (by omega)⟩
          · refine y_iload rfl rfl ?_
            refine y_bipush rfl rfl ?_
            refine y_icmp_eq rfl rfl (by unfold rg; omega) (by unfold rg; omega) (fun w15 => ?_) (fun w16 => ?_)
            · refine y_iload_n rfl rfl ?_
              refine y_ireturn rfl rfl ?_
              exact ⟨rfl, _, rfl, ⟨by omega, by omega⟩, (by first | exact t2.trans (te8_h (by omega) (by rw [ty7_i (by omega) (by omega)]; unfold et7; omega)) | (rw [t2, te8_h (by omega) (by rw [ty7_o (by omega)]; unfold et7; omega)]; omega)), (by omega)⟩
            · refine y_iload_n rfl rfl ?_
              refine y_if_ne rfl rfl (by unfold rg; omega) (fun w17 => ?_) (fun w18 => ?_)
              · exact Pl_weak (C59 (v3) (by omega) (t2) (by omega) (by rw [ty7_i (by omega) (by omega)]; unfold et7; omega)) (by omega) (And.intro rfl (And.intro rfl (And.intro rfl (True.intro))))
              · refine y_iload rfl rfl ?_
                refine y_bipush rfl rfl ?_
                refine y_icmp_eq rfl rfl (by unfold rg; omega) (by unfold rg; omega) (fun w19 => ?_) (fun w20 => ?_)
                · refine y_iload_n rfl rfl ?_
                  refine y_ireturn rfl rfl ?_
                  exact ⟨rfl, _, rfl, ⟨by omega, by omega⟩, (by first | exact t2.trans (te8_h (by omega) (by rw [ty7_i (by omega) (by omega)]; unfold et7; omega)) | (rw [t2, te8_h (by omega) (by rw [ty7_o (by omega)]; unfold et7; omega)]; omega)), (by omega)⟩
                · refine y_iload rfl rfl ?_
                  refine y_bipush rfl rfl ?_
                  refine y_icmp_ne rfl rfl (by unfold rg; omega) (by unfold rg; omega) (fun w21 => ?_) (fun w22 => ?_)
                  · exact Pl_weak (C59 (v3) (by omega) (t2) (by omega) (by rw [ty7_i (by omega) (by omega)]; unfold et7; omega)) (by omega) (And.intro rfl (And.intro rfl (And.intro rfl (True.intro))))
                  · refine y_iload_n rfl rfl ?_
                    refine y_ireturn rfl rfl ?_
                    exact ⟨rfl, _, rfl, ⟨by omega, by omega⟩, (by first | exact t2.trans (te8_h (by omega) (by rw [ty7_i (by omega) (by omega)]; unfold et7; omega)) | (rw [t2, te8_h (by omega) (by rw [ty7_o (by omega)]; unfold et7; omega)]; omega)), (by omega)⟩
  refine y_iload_n rfl rfl ?_
  refine y_istore_n rfl rfl rfl ?_
  exact Pl_weak (C2 fu (by omega) (from_) (by omega) (by first | exact te8_0 | exact t59.trans (te8_s (by omega) (by omega) h59)) (by omega)) (by omega) (And.intro rfl (And.intro rfl (And.intro rfl (True.intro))))
abbrev Q_to_tellingKey__p (S : sS) : pst := fun r S1 => S = S1 ∧ (∃ z : Int, r = some (iv z) ∧ (-2147483648 ≤ z ∧ z ≤ 2147483647) ∧ (tk7 (ty7 S) = z))
set_option maxRecDepth 100000 in
theorem t_to_tellingKey__p {S : sS} (hH : RI S) (hls : LST S) (hr : Xi S 876 7 ≤ 5130) (d : Nat) : Mp lay0 (d + 1) m_to_tellingKey [.ref 876] S (Q_to_tellingKey__p S) := by
  refine Mp_R rfl rfl (fun fu => ?_)
  have w1 : -2147483648 ≤ Xi S 876 7 ∧ Xi S 876 7 ≤ 2147483647 := Xi_rgI
  have C2 : ∀ (n2 : Nat) (_ : n2 ≤ fu) (v1 : Int), (-2147483648 ≤ v1 ∧ v1 ≤ 2147483647) → (tk7 (ty7 S) = tkF (ty7 S) (5131 - v1).toNat v1) → (0 ≤ v1 ∧ v1 ≤ 5130) → Pl n2 lay0 (d + 0) m_to_tellingKey 2 [(0, .ref 876), (1, iv v1)] [] S (Q_to_tellingKey__p S) := by
    intro n2
    induction n2 with
    | zero => intros; exact Pl_0
    | succ n2 ih2 =>
      intro hm2 v1 w2 k2 w3
      refine ys_iload_n rfl rfl ?_
      refine y_aload_n rfl rfl ?_
      refine y_gfi rfl rfl rfl rfl rfl ?_
      refine y_icmp_ge rfl rfl (by unfold rg; omega) (by unfold rg; omega) (fun w4 => ?_) (fun w5 => ?_)
      · refine y_iconst rfl ?_
        refine y_ireturn rfl rfl ?_
        exact ⟨rfl, _, rfl, ⟨by omega, by omega⟩, (by first | exact k2.trans (tk_h (by omega) (by rw [ty7_i (by omega) (by omega)]; unfold tl7; omega)) | (rw [k2, tk_e (by omega) (Or.inr (ty7_o (by omega)))]))⟩
      · refine y_aload_n rfl rfl ?_
        refine y_gfr rfl rfl rfl rfl rfl (hH.r 876 0 877 rfl) ?_
        refine y_iload_n rfl rfl ?_
        refine y_ialoadP (n := 5130) rfl rfl (by unfold rg; omega) (fun w6 w7 => ?_)
        have w8 : -2147483648 ≤ (Xi S 877 ((v1).toNat)) ∧ (Xi S 877 ((v1).toNat)) ≤ 2147483647 := Xi_rgI
        refine y_istore_n rfl rfl rfl ?_
        refine y_iload_n rfl rfl ?_
        refine y_iconst rfl ?_
        refine y_icmp_eq rfl rfl (by unfold rg; omega) (by unfold rg; omega) (fun w9 => ?_) (fun w10 => ?_)
        · refine y_iload_n rfl rfl ?_
          refine y_ireturn rfl rfl ?_
          exact ⟨rfl, _, rfl, ⟨by omega, by omega⟩, (by first | exact k2.trans (tk_h (by omega) (by rw [ty7_i (by omega) (by omega)]; unfold tl7; omega)) | (rw [k2, tk_e (by omega) (Or.inr (ty7_o (by omega)))]))⟩
        · refine y_iload_n rfl rfl ?_
          refine y_iconst rfl ?_
          refine y_icmp_eq rfl rfl (by unfold rg; omega) (by unfold rg; omega) (fun w11 => ?_) (fun w12 => ?_)
          · refine y_iload_n rfl rfl ?_
            refine y_ireturn rfl rfl ?_
            exact ⟨rfl, _, rfl, ⟨by omega, by omega⟩, (by first | exact k2.trans (tk_h (by omega) (by rw [ty7_i (by omega) (by omega)]; unfold tl7; omega)) | (rw [k2, tk_e (by omega) (Or.inr (ty7_o (by omega)))]))⟩
          · refine y_iload_n rfl rfl ?_
            refine y_bipush rfl rfl ?_
            refine y_icmp_eq rfl rfl (by unfold rg; omega) (by unfold rg; omega) (fun w13 => ?_) (fun w14 => ?_)
            · refine y_iload_n rfl rfl ?_
              refine y_ireturn rfl rfl ?_
              exact ⟨rfl, _, rfl, ⟨by omega, by omega⟩, (by first | exact k2.trans (tk_h (by omega) (by rw [ty7_i (by omega) (by omega)]; unfold tl7; omega)) | (rw [k2, tk_e (by omega) (Or.inr (ty7_o (by omega)))]))⟩
            · refine y_iload_n rfl rfl ?_
              refine y_bipush rfl rfl ?_
              refine y_icmp_eq rfl rfl (by unfold rg; omega) (by unfold rg; omega) (fun w15 => ?_) (fun w16 => ?_)
              · refine y_iload_n rfl rfl ?_
                refine y_ireturn rfl rfl ?_
                exact ⟨rfl, _, rfl, ⟨by omega, by omega⟩, (by first | exact k2.trans (tk_h (by omega) (by rw [ty7_i (by omega) (by omega)]; unfold tl7; omega)) | (rw [k2, tk_e (by omega) (Or.inr (ty7_o (by omega)))]))⟩
              · refine y_iload_n rfl rfl ?_
                refine y_bipush rfl rfl ?_
                refine y_icmp_ne rfl rfl (by unfold rg; omega) (by unfold rg; omega) (fun w17 => ?_) (fun w18 => ?_)
                · refine y_iinc rfl rfl rfl rfl ?_
                  refine y_goto rfl rfl ?_
                  exact Pl_weak (ih2 (by omega) ((v1 + 1)) (by omega) (by first | rfl | exact tk_x hls k2 (by omega) (by omega) (by omega) (by unfold tl7; omega)) (by omega)) (by omega) (And.intro rfl (And.intro rfl (True.intro)))
                · refine y_iload_n rfl rfl ?_
                  refine y_ireturn rfl rfl ?_
                  exact ⟨rfl, _, rfl, ⟨by omega, by omega⟩, (by first | exact k2.trans (tk_h (by omega) (by rw [ty7_i (by omega) (by omega)]; unfold tl7; omega)) | (rw [k2, tk_e (by omega) (Or.inr (ty7_o (by omega)))]))⟩
  refine y_iconst rfl ?_
  refine y_istore_n rfl rfl rfl ?_
  exact Pl_weak (C2 fu (by omega) (0) (by omega) (by first | rfl | exact tk_x hls k2 (by omega) (by omega) (by omega) (by unfold tl7; omega)) (by omega)) (by omega) (And.intro rfl (And.intro rfl (True.intro)))
def md_gr_take__p : List rec := [(890, 891, 1, 2)]
abbrev Q_gr_take__p (S : sS) (ty : Int) : pst := fun r S1 => RI S1 ∧ FR md_gr_take__p S S1 ∧ (∃ z : Int, r = some (iv z) ∧ (0 ≤ z ∧ z ≤ 1) ∧ (gT (ty7 S) ty (Xi S 890 1) = (z, Xi S1 890 1)) ∧ (Xi S 890 1 ≤ Xi S1 890 1 ∧ Xi S1 890 1 ≤ Xi S 876 7))
set_option maxRecDepth 100000 in
theorem t_gr_take__p {S : sS} (hH : RI S) (ty : Int) (hty : 0 ≤ ty ∧ ty ≤ 106) (hfr : NFR S) (hr : Xi S 876 7 ≤ 5130) (ha : 0 ≤ Xi S 890 1 ∧ Xi S 890 1 ≤ Xi S 876 7) (d : Nat) : Mp lay0 (d + 2) m_gr_take [.ref 890, iv ty] S (Q_gr_take__p S ty) := by
  refine Mp_R rfl rfl (fun fu => ?_)
  have hF : FR md_gr_take__p S S := FR.rf
  have w1 : -2147483648 ≤ Xi S 876 7 ∧ Xi S 876 7 ≤ 2147483647 := Xi_rgI
  have w2 : -2147483648 ≤ Xi S 890 1 ∧ Xi S 890 1 ≤ 2147483647 := Xi_rgI
  refine y_aload_n rfl rfl ?_
  refine y_gfr rfl rfl rfl rfl rfl (hH.r 890 0 876 rfl) ?_
  refine y_aload_n rfl rfl ?_
  refine y_gfi rfl rfl rfl rfl rfl ?_
  refine y_callV rfl rfl rfl (t_to_typeAt__p hH (Xi S 890 1) ⟨by omega, by omega⟩ _) ?_
  rintro _ _ ⟨rfl, z5, rfl, w5, w3, w4⟩
  show Pl _ _ _ _ _ _ [iv z5] _ _
  have gq8 := w3
  clear w3
  refine y_iload_n rfl rfl ?_
  refine y_icmp_eq rfl rfl (by unfold rg; omega) (by unfold rg; omega) (fun w6 => ?_) (fun w7 => ?_)
  · refine y_aload_n rfl rfl ?_
    refine y_dup rfl rfl ?_
    refine y_gfi rfl rfl rfl rfl rfl ?_
    refine y_iconst rfl ?_
    refine y_iadd rfl ?_
    refine y_pfi rfl rfl rfl rfl ?_
    obtain ⟨U1, eU1⟩ : ∃ T : sS, T = uI S 890 1 (Int32.ofInt ((Xi S 890 1) + 1)) := ⟨_, rfl⟩
    rw [← eU1]
    have hHU1 : RI U1 := by rw [eU1]; exact RI_w hH
    have hFU1 : FR md_gr_take__p S U1 := by rw [eU1]; exact FR.wI hF (mdf_i (r := (890, 891, 1, 2)) (List.mem_of_getElem? (i := 0) rfl) (inR_i (by omega) (by omega) (by omega) (by omega)))
    have w8 : Xi U1 890 1 = ((Xi S 890 1) + 1) := by rw [eU1]; exact Xi_same (by unfold rg; omega)
    refine y_iconst rfl ?_
    refine y_ireturn rfl rfl ?_
    have w9 : Xi U1 876 7 = Xi S 876 7 := (show Xi U1 876 7 = Xi S 876 7 from by rw [eU1]; exact Xi_ne (by omega))
    exact ⟨hHU1, hFU1, _, rfl, ⟨by omega, by omega⟩, (by unfold gT; rw [gq8]; first | (rw [if_pos (by omega)]; exact pe rfl (by omega)) | (rw [if_neg (by omega)])), (by omega)⟩
  · refine y_iconst rfl ?_
    refine y_ireturn rfl rfl ?_
    exact ⟨hH, hF, _, rfl, ⟨by omega, by omega⟩, (by unfold gT; rw [gq8]; first | (rw [if_pos (by omega)]; exact pe rfl (by omega)) | (rw [if_neg (by omega)])), (by omega)⟩
def md_gr_takeArt__p : List rec := [(890, 891, 1, 2)]
abbrev Q_gr_takeArt__p (S : sS) : pst := fun r S1 => RI S1 ∧ FR md_gr_takeArt__p S S1 ∧ (∃ z : Int, r = some (iv z) ∧ (0 ≤ z ∧ z ≤ 1) ∧ (gA (ty7 S) (Xi S 890 1) = (z, Xi S1 890 1)) ∧ (Xi S 890 1 ≤ Xi S1 890 1 ∧ Xi S1 890 1 ≤ Xi S 876 7))
set_option maxRecDepth 100000 in
theorem t_gr_takeArt__p {S : sS} (hH : RI S) (hfr : NFR S) (hr : Xi S 876 7 ≤ 5130) (ha : 0 ≤ Xi S 890 1 ∧ Xi S 890 1 ≤ Xi S 876 7) (d : Nat) : Mp lay0 (d + 2) m_gr_takeArt [.ref 890] S (Q_gr_takeArt__p S) := by
  refine Mp_R rfl rfl (fun fu => ?_)
  have hF : FR md_gr_takeArt__p S S := FR.rf
  have w1 : -2147483648 ≤ Xi S 876 7 ∧ Xi S 876 7 ≤ 2147483647 := Xi_rgI
  have w2 : -2147483648 ≤ Xi S 890 1 ∧ Xi S 890 1 ≤ 2147483647 := Xi_rgI
  refine y_aload_n rfl rfl ?_
  refine y_gfr rfl rfl rfl rfl rfl (hH.r 890 0 876 rfl) ?_
  refine y_aload_n rfl rfl ?_
  refine y_gfi rfl rfl rfl rfl rfl ?_
  refine y_callV rfl rfl rfl (t_to_typeAt__p hH (Xi S 890 1) ⟨by omega, by omega⟩ _) ?_
  rintro _ _ ⟨rfl, z5, rfl, w5, w3, w4⟩
  show Pl _ _ _ _ _ _ [iv z5] _ _
  have gq8 := w3
  clear w3
  refine y_callS rfl rfl (by decide) rfl (t_rs_isArt__p hH z5 ⟨by omega, by omega⟩ _) ?_
  rintro _ _ ⟨rfl, z8, rfl, w8, w6, w7⟩
  show Pl _ _ _ _ _ _ [iv z8] _ _
  refine y_if_ne rfl rfl (by unfold rg; omega) (fun w9 => ?_) (fun w10 => ?_)
  · refine y_aload_n rfl rfl ?_
    refine y_dup rfl rfl ?_
    refine y_gfi rfl rfl rfl rfl rfl ?_
    refine y_iconst rfl ?_
    refine y_iadd rfl ?_
    refine y_pfi rfl rfl rfl rfl ?_
    obtain ⟨U1, eU1⟩ : ∃ T : sS, T = uI S 890 1 (Int32.ofInt ((Xi S 890 1) + 1)) := ⟨_, rfl⟩
    rw [← eU1]
    have hHU1 : RI U1 := by rw [eU1]; exact RI_w hH
    have hFU1 : FR md_gr_takeArt__p S U1 := by rw [eU1]; exact FR.wI hF (mdf_i (r := (890, 891, 1, 2)) (List.mem_of_getElem? (i := 0) rfl) (inR_i (by omega) (by omega) (by omega) (by omega)))
    have w11 : Xi U1 890 1 = ((Xi S 890 1) + 1) := by rw [eU1]; exact Xi_same (by unfold rg; omega)
    refine y_iconst rfl ?_
    refine y_ireturn rfl rfl ?_
    have w12 : Xi U1 876 7 = Xi S 876 7 := (show Xi U1 876 7 = Xi S 876 7 from by rw [eU1]; exact Xi_ne (by omega))
    exact ⟨hHU1, hFU1, _, rfl, ⟨by omega, by omega⟩, (by unfold gA; rw [gq8]; first | (rw [if_pos (by omega)]; exact pe rfl (by omega)) | (rw [if_neg (by omega)])), (by omega)⟩
  · refine y_iconst rfl ?_
    refine y_ireturn rfl rfl ?_
    exact ⟨hH, hF, _, rfl, ⟨by omega, by omega⟩, (by unfold gA; rw [gq8]; first | (rw [if_pos (by omega)]; exact pe rfl (by omega)) | (rw [if_neg (by omega)])), (by omega)⟩
def md_gr_takeRun__p : List rec := [(890, 891, 1, 2)]
abbrev Q_gr_takeRun__p (S : sS) : pst := fun r S1 => RI S1 ∧ FR md_gr_takeRun__p S S1 ∧ (∃ z : Int, r = some (iv z) ∧ (0 ≤ z ∧ z ≤ 1) ∧ (gR (ty7 S) (Xi S 890 1) = (z, Xi S1 890 1)) ∧ (Xi S 890 1 ≤ Xi S1 890 1 ∧ Xi S1 890 1 ≤ Xi S 876 7))
set_option maxRecDepth 100000 in
theorem t_gr_takeRun__p {S : sS} (hH : RI S) (hfr : NFR S) (hr : Xi S 876 7 ≤ 5130) (ha : 0 ≤ Xi S 890 1 ∧ Xi S 890 1 ≤ Xi S 876 7) (d : Nat) : Mp lay0 (d + 2) m_gr_takeRun [.ref 890] S (Q_gr_takeRun__p S) := by
  refine Mp_R rfl rfl (fun fu => ?_)
  have hF : FR md_gr_takeRun__p S S := FR.rf
  have w1 : -2147483648 ≤ Xi S 876 7 ∧ Xi S 876 7 ≤ 2147483647 := Xi_rgI
  have w2 : -2147483648 ≤ Xi S 890 1 ∧ Xi S 890 1 ≤ 2147483647 := Xi_rgI
  refine y_aload_n rfl rfl ?_
  refine y_gfi rfl rfl rfl rfl rfl ?_
  refine y_istore_n rfl rfl rfl ?_
  refine y_aload_n rfl rfl ?_
  refine y_aload_n rfl rfl ?_
  refine y_gfr rfl rfl rfl rfl rfl (hH.r 890 0 876 rfl) ?_
  refine y_iload_n rfl rfl ?_
  refine y_sipush rfl rfl ?_
  refine y_callV rfl rfl rfl (t_to_runEndUpTo__p hH (Xi S 890 1) 5000 ⟨by omega, by omega⟩ ⟨by omega, by omega⟩ _) ?_
  rintro _ _ ⟨rfl, z4, rfl, w4, v14, w3⟩
  show Pl _ _ _ _ _ _ [iv z4, .ref 890] _ _
  have r14 : z4 = re7 (ty7 S) (Xi S 890 1) := v14.trans (ru_re (fun r h q => by have := hfr r h q; omega))
  refine y_pfi rfl rfl rfl rfl ?_
  obtain ⟨U1, eU1⟩ : ∃ T : sS, T = uI S 890 1 (Int32.ofInt z4) := ⟨_, rfl⟩
  rw [← eU1]
  have hHU1 : RI U1 := by rw [eU1]; exact RI_w hH
  have hFU1 : FR md_gr_takeRun__p S U1 := by rw [eU1]; exact FR.wI hF (mdf_i (r := (890, 891, 1, 2)) (List.mem_of_getElem? (i := 0) rfl) (inR_i (by omega) (by omega) (by omega) (by omega)))
  have w5 : Xi U1 890 1 = z4 := by rw [eU1]; exact Xi_same (by unfold rg; omega)
  refine y_aload_n rfl rfl ?_
  refine y_gfi rfl rfl rfl rfl rfl ?_
  refine y_iload_n rfl rfl ?_
  refine y_icmp_le rfl rfl (by unfold rg; omega) (by unfold rg; omega) (fun w6 => ?_) (fun w7 => ?_)
  · refine y_iconst rfl ?_
    refine y_ireturn rfl rfl ?_
    have w8 : Xi U1 876 7 = Xi S 876 7 := (show Xi U1 876 7 = Xi S 876 7 from by rw [eU1]; exact Xi_ne (by omega))
    exact ⟨hHU1, hFU1, _, rfl, ⟨by omega, by omega⟩, (by rw [gR_of r14]; first | (rw [if_pos (by omega)]; exact pe rfl (by omega)) | (rw [if_neg (by omega)]; exact pe rfl (by omega))), (by omega)⟩
  · refine y_iconst rfl ?_
    refine y_goto rfl rfl ?_
    refine y_ireturn rfl rfl ?_
    have w9 : Xi U1 876 7 = Xi S 876 7 := (show Xi U1 876 7 = Xi S 876 7 from by rw [eU1]; exact Xi_ne (by omega))
    exact ⟨hHU1, hFU1, _, rfl, ⟨by omega, by omega⟩, (by rw [gR_of r14]; first | (rw [if_pos (by omega)]; exact pe rfl (by omega)) | (rw [if_neg (by omega)]; exact pe rfl (by omega))), (by omega)⟩
def md_gr_takeBe__p : List rec := [(890, 891, 1, 2)]
abbrev Q_gr_takeBe__p (S : sS) : pst := fun r S1 => RI S1 ∧ FR md_gr_takeBe__p S S1 ∧ (∃ z : Int, r = some (iv z) ∧ (0 ≤ z ∧ z ≤ 1) ∧ (gBe (ty7 S) (Xi S 890 1) = (z, Xi S1 890 1)) ∧ (Xi S 890 1 ≤ Xi S1 890 1 ∧ Xi S1 890 1 ≤ Xi S 876 7))
set_option maxRecDepth 100000 in
theorem t_gr_takeBe__p {S : sS} (hH : RI S) (hfr : NFR S) (hr : Xi S 876 7 ≤ 5130) (ha : 0 ≤ Xi S 890 1 ∧ Xi S 890 1 ≤ Xi S 876 7) (d : Nat) : Mp lay0 (d + 3) m_gr_takeBe [.ref 890] S (Q_gr_takeBe__p S) := by
  refine Mp_R rfl rfl (fun fu => ?_)
  have hF : FR md_gr_takeBe__p S S := FR.rf
  have w1 : -2147483648 ≤ Xi S 876 7 ∧ Xi S 876 7 ≤ 2147483647 := Xi_rgI
  have w2 : -2147483648 ≤ Xi S 890 1 ∧ Xi S 890 1 ≤ 2147483647 := Xi_rgI
  refine y_aload_n rfl rfl ?_
  refine y_iconst rfl ?_
  refine y_callV rfl rfl rfl (t_gr_take__p hH 4 ⟨by omega, by omega⟩ (by first | assumption | exact (NFR_FR hF rfl rfl (by assumption : NFR S))) (by first | assumption | omega) (by first | assumption | omega) _) ?_
  rintro _ T1 ⟨hHT1, w6, z5, rfl, w5, w3, w4⟩
  have hFT1 : FR md_gr_takeBe__p S T1 := FR.tr hF w6 rfl
  show Pl _ _ _ _ _ _ [iv z5] _ _
  have gp2 := w3
  clear w3
  refine y_if_ne rfl rfl (by unfold rg; omega) (fun w7 => ?_) (fun w8 => ?_)
  · rw [show z5 = 1 by omega] at gp2
    refine y_iconst rfl ?_
    refine y_goto rfl rfl ?_
    refine y_ireturn rfl rfl ?_
    have w9 : Xi T1 876 7 = Xi S 876 7 := (show Xi T1 876 7 = Xi S 876 7 from w6.x _ _ rfl)
    exact ⟨hHT1, hFT1, _, rfl, ⟨by omega, by omega⟩, (by (try simp only [gSq, gOr, i10, i00, n10, n00, art7, pl7, th7, bp7, gBe, gp2]); (repeat ((first | rw [if_pos (by omega)] | rw [if_neg (by omega)]); (try simp only [gSq, gOr, i10, i00, n10, n00, art7, pl7, th7, bp7, gBe, gp2]))); first | done | exact pe (by omega) (by omega) | (exfalso; omega)), (by omega)⟩
  · rw [show z5 = 0 by omega] at gp2
    refine y_aload_n rfl rfl ?_
    refine y_iconst rfl ?_
    have w10 : Xi T1 876 7 = Xi S 876 7 := (show Xi T1 876 7 = Xi S 876 7 from w6.x _ _ rfl)
    refine y_callV rfl rfl rfl (t_gr_take__p hHT1 5 ⟨by omega, by omega⟩ (by first | assumption | exact (NFR_FR hFT1 rfl rfl (by assumption : NFR S))) (by first | assumption | omega) (by first | assumption | omega) _) ?_
    rintro _ T2 ⟨hHT2, w14, z13, rfl, w13, w11, w12⟩
    have hFT2 : FR md_gr_takeBe__p S T2 := FR.tr hFT1 w14 rfl
    show Pl _ _ _ _ _ _ [iv z13] _ _
    have gp10 := w11
    rw [FRT hFT1 rfl rfl] at gp10
    clear w11
    refine y_if_eq rfl rfl (by unfold rg; omega) (fun w15 => ?_) (fun w16 => ?_)
    · rw [show z13 = 0 by omega] at gp10
      refine y_iconst rfl ?_
      refine y_ireturn rfl rfl ?_
      have w17 : Xi T2 876 7 = Xi S 876 7 := (show Xi T2 876 7 = Xi T1 876 7 from w14.x _ _ rfl).trans ((show Xi T1 876 7 = Xi S 876 7 from w6.x _ _ rfl))
      exact ⟨hHT2, hFT2, _, rfl, ⟨by omega, by omega⟩, (by (try simp only [gSq, gOr, i10, i00, n10, n00, art7, pl7, th7, bp7, gBe, gp2, gp10]); (repeat ((first | rw [if_pos (by omega)] | rw [if_neg (by omega)]); (try simp only [gSq, gOr, i10, i00, n10, n00, art7, pl7, th7, bp7, gBe, gp2, gp10]))); first | done | exact pe (by omega) (by omega) | (exfalso; omega)), (by omega)⟩
    · rw [show z13 = 1 by omega] at gp10
      refine y_iconst rfl ?_
      refine y_goto rfl rfl ?_
      refine y_ireturn rfl rfl ?_
      have w18 : Xi T2 876 7 = Xi S 876 7 := (show Xi T2 876 7 = Xi T1 876 7 from w14.x _ _ rfl).trans ((show Xi T1 876 7 = Xi S 876 7 from w6.x _ _ rfl))
      exact ⟨hHT2, hFT2, _, rfl, ⟨by omega, by omega⟩, (by (try simp only [gSq, gOr, i10, i00, n10, n00, art7, pl7, th7, bp7, gBe, gp2, gp10]); (repeat ((first | rw [if_pos (by omega)] | rw [if_neg (by omega)]); (try simp only [gSq, gOr, i10, i00, n10, n00, art7, pl7, th7, bp7, gBe, gp2, gp10]))); first | done | exact pe (by omega) (by omega) | (exfalso; omega)), (by omega)⟩
def md_gr_takeHowMany__p : List rec := [(890, 891, 1, 2)]
abbrev Q_gr_takeHowMany__p (S : sS) : pst := fun r S1 => RI S1 ∧ FR md_gr_takeHowMany__p S S1 ∧ (∃ z : Int, r = some (iv z) ∧ (0 ≤ z ∧ z ≤ 1) ∧ (gHow (ty7 S) (Xi S 890 1) = (z, Xi S1 890 1)) ∧ (Xi S 890 1 ≤ Xi S1 890 1 ∧ Xi S1 890 1 ≤ Xi S 876 7))
set_option maxRecDepth 100000 in
theorem t_gr_takeHowMany__p {S : sS} (hH : RI S) (hfr : NFR S) (hr : Xi S 876 7 ≤ 5130) (ha : 0 ≤ Xi S 890 1 ∧ Xi S 890 1 ≤ Xi S 876 7) (d : Nat) : Mp lay0 (d + 3) m_gr_takeHowMany [.ref 890] S (Q_gr_takeHowMany__p S) := by
  refine Mp_R rfl rfl (fun fu => ?_)
  have hF : FR md_gr_takeHowMany__p S S := FR.rf
  have w1 : -2147483648 ≤ Xi S 876 7 ∧ Xi S 876 7 ≤ 2147483647 := Xi_rgI
  have w2 : -2147483648 ≤ Xi S 890 1 ∧ Xi S 890 1 ≤ 2147483647 := Xi_rgI
  refine y_aload_n rfl rfl ?_
  refine y_bipush rfl rfl ?_
  refine y_callV rfl rfl rfl (t_gr_take__p hH 22 ⟨by omega, by omega⟩ (by first | assumption | exact (NFR_FR hF rfl rfl (by assumption : NFR S))) (by first | assumption | omega) (by first | assumption | omega) _) ?_
  rintro _ T1 ⟨hHT1, w6, z5, rfl, w5, w3, w4⟩
  have hFT1 : FR md_gr_takeHowMany__p S T1 := FR.tr hF w6 rfl
  show Pl _ _ _ _ _ _ [iv z5] _ _
  have gp3 := w3
  clear w3
  refine y_if_ne rfl rfl (by unfold rg; omega) (fun w7 => ?_) (fun w8 => ?_)
  · rw [show z5 = 1 by omega] at gp3
    refine y_iconst rfl ?_
    refine y_goto rfl rfl ?_
    refine y_ireturn rfl rfl ?_
    have w9 : Xi T1 876 7 = Xi S 876 7 := (show Xi T1 876 7 = Xi S 876 7 from w6.x _ _ rfl)
    exact ⟨hHT1, hFT1, _, rfl, ⟨by omega, by omega⟩, (by (try simp only [gSq, gOr, i10, i00, n10, n00, art7, pl7, th7, bp7, gHow, gp3]); (repeat ((first | rw [if_pos (by omega)] | rw [if_neg (by omega)]); (try simp only [gSq, gOr, i10, i00, n10, n00, art7, pl7, th7, bp7, gHow, gp3]))); first | done | exact pe (by omega) (by omega) | (exfalso; omega)), (by omega)⟩
  · rw [show z5 = 0 by omega] at gp3
    refine y_aload_n rfl rfl ?_
    refine y_bipush rfl rfl ?_
    have w10 : Xi T1 876 7 = Xi S 876 7 := (show Xi T1 876 7 = Xi S 876 7 from w6.x _ _ rfl)
    refine y_callV rfl rfl rfl (t_gr_take__p hHT1 23 ⟨by omega, by omega⟩ (by first | assumption | exact (NFR_FR hFT1 rfl rfl (by assumption : NFR S))) (by first | assumption | omega) (by first | assumption | omega) _) ?_
    rintro _ T2 ⟨hHT2, w14, z13, rfl, w13, w11, w12⟩
    have hFT2 : FR md_gr_takeHowMany__p S T2 := FR.tr hFT1 w14 rfl
    show Pl _ _ _ _ _ _ [iv z13] _ _
    have gp12 := w11
    rw [FRT hFT1 rfl rfl] at gp12
    clear w11
    refine y_if_eq rfl rfl (by unfold rg; omega) (fun w15 => ?_) (fun w16 => ?_)
    · rw [show z13 = 0 by omega] at gp12
      refine y_iconst rfl ?_
      refine y_ireturn rfl rfl ?_
      have w17 : Xi T2 876 7 = Xi S 876 7 := (show Xi T2 876 7 = Xi T1 876 7 from w14.x _ _ rfl).trans ((show Xi T1 876 7 = Xi S 876 7 from w6.x _ _ rfl))
      exact ⟨hHT2, hFT2, _, rfl, ⟨by omega, by omega⟩, (by (try simp only [gSq, gOr, i10, i00, n10, n00, art7, pl7, th7, bp7, gHow, gp3, gp12]); (repeat ((first | rw [if_pos (by omega)] | rw [if_neg (by omega)]); (try simp only [gSq, gOr, i10, i00, n10, n00, art7, pl7, th7, bp7, gHow, gp3, gp12]))); first | done | exact pe (by omega) (by omega) | (exfalso; omega)), (by omega)⟩
    · rw [show z13 = 1 by omega] at gp12
      refine y_iconst rfl ?_
      refine y_goto rfl rfl ?_
      refine y_ireturn rfl rfl ?_
      have w18 : Xi T2 876 7 = Xi S 876 7 := (show Xi T2 876 7 = Xi T1 876 7 from w14.x _ _ rfl).trans ((show Xi T1 876 7 = Xi S 876 7 from w6.x _ _ rfl))
      exact ⟨hHT2, hFT2, _, rfl, ⟨by omega, by omega⟩, (by (try simp only [gSq, gOr, i10, i00, n10, n00, art7, pl7, th7, bp7, gHow, gp3, gp12]); (repeat ((first | rw [if_pos (by omega)] | rw [if_neg (by omega)]); (try simp only [gSq, gOr, i10, i00, n10, n00, art7, pl7, th7, bp7, gHow, gp3, gp12]))); first | done | exact pe (by omega) (by omega) | (exfalso; omega)), (by omega)⟩
def md_gr_takeName__p : List rec := [(890, 891, 1, 2)]
abbrev Q_gr_takeName__p (S : sS) : pst := fun r S1 => RI S1 ∧ FR md_gr_takeName__p S S1 ∧ (∃ z : Int, r = some (iv z) ∧ (0 ≤ z ∧ z ≤ 1) ∧ (gN (ty7 S) (Xi S 890 1) = (z, Xi S1 890 1)) ∧ (Xi S 890 1 ≤ Xi S1 890 1 ∧ Xi S1 890 1 ≤ Xi S 876 7))
set_option maxRecDepth 100000 in
theorem t_gr_takeName__p {S : sS} (hH : RI S) (hfr : NFR S) (hr : Xi S 876 7 ≤ 5130) (ha : 0 ≤ Xi S 890 1 ∧ Xi S 890 1 ≤ Xi S 876 7) (d : Nat) : Mp lay0 (d + 3) m_gr_takeName [.ref 890] S (Q_gr_takeName__p S) := by
  refine Mp_R rfl rfl (fun fu => ?_)
  have hF : FR md_gr_takeName__p S S := FR.rf
  have w1 : -2147483648 ≤ Xi S 876 7 ∧ Xi S 876 7 ≤ 2147483647 := Xi_rgI
  have w2 : -2147483648 ≤ Xi S 890 1 ∧ Xi S 890 1 ≤ 2147483647 := Xi_rgI
  refine y_aload_n rfl rfl ?_
  refine y_aload_n rfl rfl ?_
  refine y_gfr rfl rfl rfl rfl rfl (hH.r 890 0 876 rfl) ?_
  refine y_aload_n rfl rfl ?_
  refine y_gfi rfl rfl rfl rfl rfl ?_
  refine y_callV rfl rfl rfl (t_to_behindArt__p hH (Xi S 890 1) ⟨by omega, by omega⟩ _) ?_
  rintro _ _ ⟨rfl, z5, rfl, w5, w3, w4⟩
  show Pl _ _ _ _ _ _ [iv z5, .ref 890] _ _
  have gq9 := w3
  clear w3
  refine y_pfi rfl rfl rfl rfl ?_
  obtain ⟨U1, eU1⟩ : ∃ T : sS, T = uI S 890 1 (Int32.ofInt z5) := ⟨_, rfl⟩
  rw [← eU1]
  have hHU1 : RI U1 := by rw [eU1]; exact RI_w hH
  have hFU1 : FR md_gr_takeName__p S U1 := by rw [eU1]; exact FR.wI hF (mdf_i (r := (890, 891, 1, 2)) (List.mem_of_getElem? (i := 0) rfl) (inR_i (by omega) (by omega) (by omega) (by omega)))
  have w6 : Xi U1 890 1 = z5 := by rw [eU1]; exact Xi_same (by unfold rg; omega)
  refine y_aload_n rfl rfl ?_
  have w7 : Xi U1 876 7 = Xi S 876 7 := (show Xi U1 876 7 = Xi S 876 7 from by rw [eU1]; exact Xi_ne (by omega))
  refine y_callV rfl rfl rfl (t_gr_takeRun__p hHU1 (by first | assumption | exact (NFR_FR hFU1 rfl rfl (by assumption : NFR S))) (by first | assumption | omega) (by first | assumption | omega) _) ?_
  rintro _ T2 ⟨hHT2, w11, z10, rfl, w10, w8, w9⟩
  have hFT2 : FR md_gr_takeName__p S T2 := FR.tr hFU1 w11 rfl
  show Pl _ _ _ _ _ _ [iv z10] _ _
  have gp16 := w8
  rw [FRT hFU1 rfl rfl] at gp16
  try rw [show Xi U1 890 1 = z5 by omega] at gp16
  clear w8
  refine y_ireturn rfl (retI_z (by omega)) ?_
  have w12 : Xi T2 876 7 = Xi S 876 7 := (show Xi T2 876 7 = Xi U1 876 7 from w11.x _ _ rfl).trans ((show Xi U1 876 7 = Xi S 876 7 from by rw [eU1]; exact Xi_ne (by omega)))
  exact ⟨hHT2, hFT2, _, rfl, ⟨by omega, by omega⟩, (by unfold gN; rw [gq9]; first | exact gp16 | (rw [show _ = _ from (by omega : Xi U1 890 1 = _)] at gp16; exact gp16)), (by omega)⟩
def md_gr_takeBetween__p : List rec := [(890, 891, 1, 2)]
abbrev Q_gr_takeBetween__p (S : sS) : pst := fun r S1 => RI S1 ∧ FR md_gr_takeBetween__p S S1 ∧ (∃ z : Int, r = some (iv z) ∧ (0 ≤ z ∧ z ≤ 1) ∧ (gBt (ty7 S) (Xi S 890 1) = (z, Xi S1 890 1)) ∧ (Xi S 890 1 ≤ Xi S1 890 1 ∧ Xi S1 890 1 ≤ Xi S 876 7))
set_option maxRecDepth 100000 in
theorem t_gr_takeBetween__p {S : sS} (hH : RI S) (hfr : NFR S) (hr : Xi S 876 7 ≤ 5130) (ha : 0 ≤ Xi S 890 1 ∧ Xi S 890 1 ≤ Xi S 876 7) (d : Nat) : Mp lay0 (d + 3) m_gr_takeBetween [.ref 890] S (Q_gr_takeBetween__p S) := by
  refine Mp_R rfl rfl (fun fu => ?_)
  have hF : FR md_gr_takeBetween__p S S := FR.rf
  have w1 : -2147483648 ≤ Xi S 876 7 ∧ Xi S 876 7 ≤ 2147483647 := Xi_rgI
  have w2 : -2147483648 ≤ Xi S 890 1 ∧ Xi S 890 1 ≤ 2147483647 := Xi_rgI
  refine y_aload_n rfl rfl ?_
  refine y_bipush rfl rfl ?_
  refine y_callV rfl rfl rfl (t_gr_take__p hH 104 ⟨by omega, by omega⟩ (by first | assumption | exact (NFR_FR hF rfl rfl (by assumption : NFR S))) (by first | assumption | omega) (by first | assumption | omega) _) ?_
  rintro _ T1 ⟨hHT1, w6, z5, rfl, w5, w3, w4⟩
  have hFT1 : FR md_gr_takeBetween__p S T1 := FR.tr hF w6 rfl
  show Pl _ _ _ _ _ _ [iv z5] _ _
  have gp3 := w3
  clear w3
  refine y_if_eq rfl rfl (by unfold rg; omega) (fun w7 => ?_) (fun w8 => ?_)
  · rw [show z5 = 0 by omega] at gp3
    refine y_aload_n rfl rfl ?_
    refine y_bipush rfl rfl ?_
    have w9 : Xi T1 876 7 = Xi S 876 7 := (show Xi T1 876 7 = Xi S 876 7 from w6.x _ _ rfl)
    refine y_callV rfl rfl rfl (t_gr_take__p hHT1 16 ⟨by omega, by omega⟩ (by first | assumption | exact (NFR_FR hFT1 rfl rfl (by assumption : NFR S))) (by first | assumption | omega) (by first | assumption | omega) _) ?_
    rintro _ T2 ⟨hHT2, w13, z12, rfl, w12, w10, w11⟩
    have hFT2 : FR md_gr_takeBetween__p S T2 := FR.tr hFT1 w13 rfl
    show Pl _ _ _ _ _ _ [iv z12] _ _
    have gp21 := w10
    rw [FRT hFT1 rfl rfl] at gp21
    clear w10
    refine y_ireturn rfl (retI_z (by omega)) ?_
    have w14 : Xi T2 876 7 = Xi S 876 7 := (show Xi T2 876 7 = Xi T1 876 7 from w13.x _ _ rfl).trans ((show Xi T1 876 7 = Xi S 876 7 from w6.x _ _ rfl))
    exact ⟨hHT2, hFT2, _, rfl, ⟨by omega, by omega⟩, (by (first | rw [show z12 = 1 by omega] at gp21 | rw [show z12 = 0 by omega] at gp21 | skip); (try simp only [gSq, gOr, i10, i00, n10, n00, art7, pl7, th7, bp7, gBt, gp3, gp21]); (repeat ((first | rw [if_pos (by omega)] | rw [if_neg (by omega)]); (try simp only [gSq, gOr, i10, i00, n10, n00, art7, pl7, th7, bp7, gBt, gp3, gp21]))); first | done | exact pe (by omega) (by omega) | (exfalso; omega)), (by omega)⟩
  · rw [show z5 = 1 by omega] at gp3
    refine y_aload_n rfl rfl ?_
    refine y_bipush rfl rfl ?_
    have w15 : Xi T1 876 7 = Xi S 876 7 := (show Xi T1 876 7 = Xi S 876 7 from w6.x _ _ rfl)
    refine y_callV rfl rfl rfl (t_gr_take__p hHT1 16 ⟨by omega, by omega⟩ (by first | assumption | exact (NFR_FR hFT1 rfl rfl (by assumption : NFR S))) (by first | assumption | omega) (by first | assumption | omega) _) ?_
    rintro _ T3 ⟨hHT3, w19, z18, rfl, w18, w16, w17⟩
    have hFT3 : FR md_gr_takeBetween__p S T3 := FR.tr hFT1 w19 rfl
    show Pl _ _ _ _ _ _ [iv z18] _ _
    have gp12 := w16
    rw [FRT hFT1 rfl rfl] at gp12
    clear w16
    refine y_pop rfl rfl ?_
    refine y_iconst rfl ?_
    refine y_ireturn rfl rfl ?_
    have w20 : Xi T3 876 7 = Xi S 876 7 := (show Xi T3 876 7 = Xi T1 876 7 from w19.x _ _ rfl).trans ((show Xi T1 876 7 = Xi S 876 7 from w6.x _ _ rfl))
    exact ⟨hHT3, hFT3, _, rfl, ⟨by omega, by omega⟩, (by (first | rw [show z18 = 1 by omega] at gp12 | rw [show z18 = 0 by omega] at gp12 | skip); (try simp only [gSq, gOr, i10, i00, n10, n00, art7, pl7, th7, bp7, gBt, gp3, gp12]); (repeat ((first | rw [if_pos (by omega)] | rw [if_neg (by omega)]); (try simp only [gSq, gOr, i10, i00, n10, n00, art7, pl7, th7, bp7, gBt, gp3, gp12]))); first | done | exact pe (by omega) (by omega) | (exfalso; omega)), (by omega)⟩
abbrev Q_gr_atPlace__p (S : sS) : pst := fun r S1 => S = S1 ∧ (∃ z : Int, r = some (iv z) ∧ (0 ≤ z ∧ z ≤ 1) ∧ ((z = 1 → ty7 S (Xi S 890 1) = 8 ∨ ty7 S (Xi S 890 1) = 9 ∨ ty7 S (Xi S 890 1) = 29 ∨ ty7 S (Xi S 890 1) = 30 ∨ ty7 S (Xi S 890 1) = 31) ∧ (z = 0 → ¬ (ty7 S (Xi S 890 1) = 8 ∨ ty7 S (Xi S 890 1) = 9 ∨ ty7 S (Xi S 890 1) = 29 ∨ ty7 S (Xi S 890 1) = 30 ∨ ty7 S (Xi S 890 1) = 31))))
set_option maxRecDepth 100000 in
theorem t_gr_atPlace__p {S : sS} (hH : RI S) (d : Nat) : Mp lay0 (d + 2) m_gr_atPlace [.ref 890] S (Q_gr_atPlace__p S) := by
  refine Mp_R rfl rfl (fun fu => ?_)
  have w1 : -2147483648 ≤ Xi S 890 1 ∧ Xi S 890 1 ≤ 2147483647 := Xi_rgI
  refine y_aload_n rfl rfl ?_
  refine y_gfr rfl rfl rfl rfl rfl (hH.r 890 0 876 rfl) ?_
  refine y_aload_n rfl rfl ?_
  refine y_gfi rfl rfl rfl rfl rfl ?_
  refine y_callV rfl rfl rfl (t_to_typeAt__p hH (Xi S 890 1) ⟨by omega, by omega⟩ _) ?_
  rintro _ _ ⟨rfl, z4, rfl, w4, w2, w3⟩
  show Pl _ _ _ _ _ _ [iv z4] _ _
  have gq8 := w2
  clear w2
  refine y_istore_n rfl rfl rfl ?_
  refine y_iload_n rfl rfl ?_
  refine y_bipush rfl rfl ?_
  refine y_icmp_eq rfl rfl (by unfold rg; omega) (by unfold rg; omega) (fun w5 => ?_) (fun w6 => ?_)
  · refine y_iconst rfl ?_
    refine y_goto rfl rfl ?_
    refine y_ireturn rfl rfl ?_
    exact ⟨rfl, _, rfl, ⟨by omega, by omega⟩, (by rw [gq8]; omega)⟩
  · refine y_iload_n rfl rfl ?_
    refine y_bipush rfl rfl ?_
    refine y_icmp_eq rfl rfl (by unfold rg; omega) (by unfold rg; omega) (fun w7 => ?_) (fun w8 => ?_)
    · refine y_iconst rfl ?_
      refine y_goto rfl rfl ?_
      refine y_ireturn rfl rfl ?_
      exact ⟨rfl, _, rfl, ⟨by omega, by omega⟩, (by rw [gq8]; omega)⟩
    · refine y_iload_n rfl rfl ?_
      refine y_bipush rfl rfl ?_
      refine y_icmp_eq rfl rfl (by unfold rg; omega) (by unfold rg; omega) (fun w9 => ?_) (fun w10 => ?_)
      · refine y_iconst rfl ?_
        refine y_goto rfl rfl ?_
        refine y_ireturn rfl rfl ?_
        exact ⟨rfl, _, rfl, ⟨by omega, by omega⟩, (by rw [gq8]; omega)⟩
      · refine y_iload_n rfl rfl ?_
        refine y_bipush rfl rfl ?_
        refine y_icmp_eq rfl rfl (by unfold rg; omega) (by unfold rg; omega) (fun w11 => ?_) (fun w12 => ?_)
        · refine y_iconst rfl ?_
          refine y_goto rfl rfl ?_
          refine y_ireturn rfl rfl ?_
          exact ⟨rfl, _, rfl, ⟨by omega, by omega⟩, (by rw [gq8]; omega)⟩
        · refine y_iload_n rfl rfl ?_
          refine y_bipush rfl rfl ?_
          refine y_icmp_ne rfl rfl (by unfold rg; omega) (by unfold rg; omega) (fun w13 => ?_) (fun w14 => ?_)
          · refine y_iconst rfl ?_
            refine y_ireturn rfl rfl ?_
            exact ⟨rfl, _, rfl, ⟨by omega, by omega⟩, (by rw [gq8]; omega)⟩
          · refine y_iconst rfl ?_
            refine y_goto rfl rfl ?_
            refine y_ireturn rfl rfl ?_
            exact ⟨rfl, _, rfl, ⟨by omega, by omega⟩, (by rw [gq8]; omega)⟩
end
