section
/-- every entry of the reference's words has a sort -/
def LSP (S : sS) : Prop := ∀ k : Nat, (k : Int) < Xi S 904 15 → 0 ≤ Xi S 914 k
theorem LSP_FR {l : List rec} {S T : sS} (h : FR l S T) (e : mD l [15] = true) (e1 : kdis l [(914, 915)] = true) (q : LSP S) : LSP T := by
  unfold LSP
  rw [mD_x h e 15 (by decide)]
  simp only [(h.smk e1).x 914 rfl]
  exact q

abbrev Q_mo_find__p (S : sS) (a : Int) (b : Int) (c : Int) (n : Int) : pst := fun r S1 => S = S1 ∧ (∃ z : Int, r = some (iv z) ∧ (-2147483648 ≤ z ∧ z ≤ 2147483647) ∧ (z = fdR S a b c n (Xi S 904 15).toNat))
set_option maxRecDepth 100000 in
theorem t_mo_find__p {S : sS} (hH : RI S) (a : Int) (b : Int) (c : Int) (n : Int) (hn : -2147483648 ≤ n ∧ n ≤ 2147483647) (ra : rgL a) (rb : rgL b) (rc : rgL c) (h15 : 0 ≤ Xi S 904 15) (hLS : LSP S) (d : Nat) : Mp lay0 (d + 1) m_mo_find [.ref 904, jw a, jw b, jw c, iv n] S (Q_mo_find__p S a b c n) := by
  refine Mp_R rfl rfl (fun fu => ?_)
  have w1 : -2147483648 ≤ Xi S 904 15 ∧ Xi S 904 15 ≤ 2147483647 := Xi_rgI
  have ra2 : -9223372036854775808 ≤ a ∧ a < 9223372036854775808 := ra
  have rb2 : -9223372036854775808 ≤ b ∧ b < 9223372036854775808 := rb
  have rc2 : -9223372036854775808 ≤ c ∧ c < 9223372036854775808 := rc
  have C3 : ∀ (n3 : Nat) (_ : n3 ≤ fu) (v8 : Int), (-2147483648 ≤ v8 ∧ v8 ≤ 2147483647) → (0 ≤ v8 ∧ v8 ≤ Xi S 904 15) → (fdR S a b c n (v8).toNat = -1) → Pl n3 lay0 (d + 0) m_mo_find 3 [(0, .ref 904), (1, jw a), (3, jw b), (5, jw c), (7, iv n), (8, iv v8)] [] S (Q_mo_find__p S a b c n) := by
    intro n3
    induction n3 with
    | zero => intros; exact Pl_0
    | succ n3 ih3 =>
      intro hm3 v8 w2 w3 h3
      refine ys_iload rfl rfl ?_
      refine y_aload_n rfl rfl ?_
      refine y_gfi rfl rfl rfl rfl rfl ?_
      refine y_icmp_ge rfl rfl (by unfold rg; omega) (by unfold rg; omega) (fun w4 => ?_) (fun w5 => ?_)
      · refine y_iconst rfl ?_
        refine y_ireturn rfl rfl ?_
        exact ⟨rfl, _, rfl, ⟨by omega, by omega⟩, (by first | (exact fdR_hit (by omega) h3 ⟨by omega, by omega, by omega, by omega, by omega⟩ (by omega)) | (rw [show Xi S 904 15 = v8 by omega]; exact h3.symm))⟩
      · refine y_aload_n rfl rfl ?_
        refine y_gfr rfl rfl rfl rfl rfl (hH.r 904 10 912 rfl) ?_
        refine y_iload rfl rfl ?_
        refine y_ialoadP (n := 300) rfl rfl (by unfold rg; omega) (fun w6 w7 => ?_)
        have w8 : -2147483648 ≤ (Xi S 912 ((v8).toNat)) ∧ (Xi S 912 ((v8).toNat)) ≤ 2147483647 := Xi_rgI
        refine y_iload rfl rfl ?_
        refine y_icmp_ne rfl rfl (by unfold rg; omega) (by unfold rg; omega) (fun w9 => ?_) (fun w10 => ?_)
        · refine y_iinc rfl rfl rfl rfl ?_
          refine y_goto rfl rfl ?_
          exact Pl_weak (ih3 (by omega) ((v8 + 1)) (by omega) (by omega) (by first | rfl | exact fdR_no (by omega) h3 (fun q => by obtain ⟨q1, q2, q3, q4, q5⟩ := q; omega))) (by omega) (And.intro rfl (And.intro rfl (And.intro rfl (And.intro rfl (And.intro rfl (And.intro rfl (True.intro)))))))
        · refine y_aload_n rfl rfl ?_
          refine y_gfr rfl rfl rfl rfl rfl (hH.r 904 11 913 rfl) ?_
          refine y_iconst rfl ?_
          refine y_iload rfl rfl ?_
          refine y_imul rfl ?_
          refine y_laloadP (n := 900) rfl rfl (by unfold rg; omega) (fun w11 w12 => ?_)
          have w13 : -9223372036854775808 ≤ (Xj S 913 (((3 * v8)).toNat)) ∧ (Xj S 913 (((3 * v8)).toNat)) < 9223372036854775808 := Xj_rg
          refine y_lload_n rfl rfl ?_
          refine y_lcmp rfl (by unfold rgL; omega) (by unfold rgL; omega) (fun c14 w14 w14a w14b w14c => ?_)
          refine y_if_ne rfl rfl (by unfold rg; omega) (fun w15 => ?_) (fun w16 => ?_)
          · refine y_iinc rfl rfl rfl rfl ?_
            refine y_goto rfl rfl ?_
            exact Pl_weak (ih3 (by omega) ((v8 + 1)) (by omega) (by omega) (by first | rfl | exact fdR_no (by omega) h3 (fun q => by obtain ⟨q1, q2, q3, q4, q5⟩ := q; omega))) (by omega) (And.intro rfl (And.intro rfl (And.intro rfl (And.intro rfl (And.intro rfl (And.intro rfl (True.intro)))))))
          · refine y_iload rfl rfl ?_
            refine y_iconst rfl ?_
            refine y_icmp_lt rfl rfl (by unfold rg; omega) (by unfold rg; omega) (fun w17 => ?_) (fun w18 => ?_)
            · refine y_iload rfl rfl ?_
              refine y_iconst rfl ?_
              refine y_icmp_lt rfl rfl (by unfold rg; omega) (by unfold rg; omega) (fun w19 => ?_) (fun w20 => ?_)
              · refine y_aload_n rfl rfl ?_
                refine y_gfr rfl rfl rfl rfl rfl (hH.r 904 14 916 rfl) ?_
                refine y_iload rfl rfl ?_
                refine y_baloadP (n := 300) rfl rfl rfl (by decide) (by unfold rg; omega) (fun w21 w22 => ?_)
                have w23 : -2147483648 ≤ (Xi S 916 ((v8).toNat)) ∧ (Xi S 916 ((v8).toNat)) ≤ 2147483647 := Xi_rgI
                refine y_if_ne rfl rfl (by unfold rg; omega) (fun w24 => ?_) (fun w25 => ?_)
                · refine y_iinc rfl rfl rfl rfl ?_
                  refine y_goto rfl rfl ?_
                  exact Pl_weak (ih3 (by omega) ((v8 + 1)) (by omega) (by omega) (by first | rfl | exact fdR_no (by omega) h3 (fun q => by obtain ⟨q1, q2, q3, q4, q5⟩ := q; omega))) (by omega) (And.intro rfl (And.intro rfl (And.intro rfl (And.intro rfl (And.intro rfl (And.intro rfl (True.intro)))))))
                · refine y_aload_n rfl rfl ?_
                  refine y_gfr rfl rfl rfl rfl rfl (hH.r 904 12 914 rfl) ?_
                  refine y_iload rfl rfl ?_
                  refine y_ialoadP (n := 300) rfl rfl (by unfold rg; omega) (fun w26 w27 => ?_)
                  have w28 : -2147483648 ≤ (Xi S 914 ((v8).toNat)) ∧ (Xi S 914 ((v8).toNat)) ≤ 2147483647 := Xi_rgI
                  have l99 := hLS v8.toNat (by omega)
                  refine y_iconst rfl ?_
                  refine y_icmp_eq rfl rfl (by unfold rg; omega) (by unfold rg; omega) (fun w29 => ?_) (fun w30 => ?_)
                  · refine y_iinc rfl rfl rfl rfl ?_
                    refine y_goto rfl rfl ?_
                    exact Pl_weak (ih3 (by omega) ((v8 + 1)) (by omega) (by omega) (by first | rfl | exact fdR_no (by omega) h3 (fun q => by obtain ⟨q1, q2, q3, q4, q5⟩ := q; omega))) (by omega) (And.intro rfl (And.intro rfl (And.intro rfl (And.intro rfl (And.intro rfl (And.intro rfl (True.intro)))))))
                  · refine y_iload rfl rfl ?_
                    refine y_ireturn rfl rfl ?_
                    exact ⟨rfl, _, rfl, ⟨by omega, by omega⟩, (by first | (exact fdR_hit (by omega) h3 ⟨by omega, by omega, by omega, by omega, by omega⟩ (by omega)) | (rw [show Xi S 904 15 = v8 by omega]; exact h3.symm))⟩
              · refine y_aload_n rfl rfl ?_
                refine y_gfr rfl rfl rfl rfl rfl (hH.r 904 11 913 rfl) ?_
                refine y_iconst rfl ?_
                refine y_iload rfl rfl ?_
                refine y_imul rfl ?_
                refine y_iconst rfl ?_
                refine y_iadd rfl ?_
                refine y_laloadP (n := 900) rfl rfl (by unfold rg; omega) (fun w31 w32 => ?_)
                have w33 : -9223372036854775808 ≤ (Xj S 913 ((((3 * v8) + 2)).toNat)) ∧ (Xj S 913 ((((3 * v8) + 2)).toNat)) < 9223372036854775808 := Xj_rg
                refine y_lload rfl rfl ?_
                refine y_lcmp rfl (by unfold rgL; omega) (by unfold rgL; omega) (fun c34 w34 w34a w34b w34c => ?_)
                refine y_if_ne rfl rfl (by unfold rg; omega) (fun w35 => ?_) (fun w36 => ?_)
                · refine y_iinc rfl rfl rfl rfl ?_
                  refine y_goto rfl rfl ?_
                  exact Pl_weak (ih3 (by omega) ((v8 + 1)) (by omega) (by omega) (by first | rfl | exact fdR_no (by omega) h3 (fun q => by obtain ⟨q1, q2, q3, q4, q5⟩ := q; omega))) (by omega) (And.intro rfl (And.intro rfl (And.intro rfl (And.intro rfl (And.intro rfl (And.intro rfl (True.intro)))))))
                · refine y_aload_n rfl rfl ?_
                  refine y_gfr rfl rfl rfl rfl rfl (hH.r 904 14 916 rfl) ?_
                  refine y_iload rfl rfl ?_
                  refine y_baloadP (n := 300) rfl rfl rfl (by decide) (by unfold rg; omega) (fun w37 w38 => ?_)
                  have w39 : -2147483648 ≤ (Xi S 916 ((v8).toNat)) ∧ (Xi S 916 ((v8).toNat)) ≤ 2147483647 := Xi_rgI
                  refine y_if_ne rfl rfl (by unfold rg; omega) (fun w40 => ?_) (fun w41 => ?_)
                  · refine y_iinc rfl rfl rfl rfl ?_
                    refine y_goto rfl rfl ?_
                    exact Pl_weak (ih3 (by omega) ((v8 + 1)) (by omega) (by omega) (by first | rfl | exact fdR_no (by omega) h3 (fun q => by obtain ⟨q1, q2, q3, q4, q5⟩ := q; omega))) (by omega) (And.intro rfl (And.intro rfl (And.intro rfl (And.intro rfl (And.intro rfl (And.intro rfl (True.intro)))))))
                  · refine y_aload_n rfl rfl ?_
                    refine y_gfr rfl rfl rfl rfl rfl (hH.r 904 12 914 rfl) ?_
                    refine y_iload rfl rfl ?_
                    refine y_ialoadP (n := 300) rfl rfl (by unfold rg; omega) (fun w42 w43 => ?_)
                    have w44 : -2147483648 ≤ (Xi S 914 ((v8).toNat)) ∧ (Xi S 914 ((v8).toNat)) ≤ 2147483647 := Xi_rgI
                    have l99 := hLS v8.toNat (by omega)
                    refine y_iconst rfl ?_
                    refine y_icmp_eq rfl rfl (by unfold rg; omega) (by unfold rg; omega) (fun w45 => ?_) (fun w46 => ?_)
                    · refine y_iinc rfl rfl rfl rfl ?_
                      refine y_goto rfl rfl ?_
                      exact Pl_weak (ih3 (by omega) ((v8 + 1)) (by omega) (by omega) (by first | rfl | exact fdR_no (by omega) h3 (fun q => by obtain ⟨q1, q2, q3, q4, q5⟩ := q; omega))) (by omega) (And.intro rfl (And.intro rfl (And.intro rfl (And.intro rfl (And.intro rfl (And.intro rfl (True.intro)))))))
                    · refine y_iload rfl rfl ?_
                      refine y_ireturn rfl rfl ?_
                      exact ⟨rfl, _, rfl, ⟨by omega, by omega⟩, (by first | (exact fdR_hit (by omega) h3 ⟨by omega, by omega, by omega, by omega, by omega⟩ (by omega)) | (rw [show Xi S 904 15 = v8 by omega]; exact h3.symm))⟩
            · refine y_aload_n rfl rfl ?_
              refine y_gfr rfl rfl rfl rfl rfl (hH.r 904 11 913 rfl) ?_
              refine y_iconst rfl ?_
              refine y_iload rfl rfl ?_
              refine y_imul rfl ?_
              refine y_iconst rfl ?_
              refine y_iadd rfl ?_
              refine y_laloadP (n := 900) rfl rfl (by unfold rg; omega) (fun w47 w48 => ?_)
              have w49 : -9223372036854775808 ≤ (Xj S 913 ((((3 * v8) + 1)).toNat)) ∧ (Xj S 913 ((((3 * v8) + 1)).toNat)) < 9223372036854775808 := Xj_rg
              refine y_lload_n rfl rfl ?_
              refine y_lcmp rfl (by unfold rgL; omega) (by unfold rgL; omega) (fun c50 w50 w50a w50b w50c => ?_)
              refine y_if_ne rfl rfl (by unfold rg; omega) (fun w51 => ?_) (fun w52 => ?_)
              · refine y_iinc rfl rfl rfl rfl ?_
                refine y_goto rfl rfl ?_
                exact Pl_weak (ih3 (by omega) ((v8 + 1)) (by omega) (by omega) (by first | rfl | exact fdR_no (by omega) h3 (fun q => by obtain ⟨q1, q2, q3, q4, q5⟩ := q; omega))) (by omega) (And.intro rfl (And.intro rfl (And.intro rfl (And.intro rfl (And.intro rfl (And.intro rfl (True.intro)))))))
              · refine y_iload rfl rfl ?_
                refine y_iconst rfl ?_
                refine y_icmp_lt rfl rfl (by unfold rg; omega) (by unfold rg; omega) (fun w53 => ?_) (fun w54 => ?_)
                · refine y_aload_n rfl rfl ?_
                  refine y_gfr rfl rfl rfl rfl rfl (hH.r 904 14 916 rfl) ?_
                  refine y_iload rfl rfl ?_
                  refine y_baloadP (n := 300) rfl rfl rfl (by decide) (by unfold rg; omega) (fun w55 w56 => ?_)
                  have w57 : -2147483648 ≤ (Xi S 916 ((v8).toNat)) ∧ (Xi S 916 ((v8).toNat)) ≤ 2147483647 := Xi_rgI
                  refine y_if_ne rfl rfl (by unfold rg; omega) (fun w58 => ?_) (fun w59 => ?_)
                  · refine y_iinc rfl rfl rfl rfl ?_
                    refine y_goto rfl rfl ?_
                    exact Pl_weak (ih3 (by omega) ((v8 + 1)) (by omega) (by omega) (by first | rfl | exact fdR_no (by omega) h3 (fun q => by obtain ⟨q1, q2, q3, q4, q5⟩ := q; omega))) (by omega) (And.intro rfl (And.intro rfl (And.intro rfl (And.intro rfl (And.intro rfl (And.intro rfl (True.intro)))))))
                  · refine y_aload_n rfl rfl ?_
                    refine y_gfr rfl rfl rfl rfl rfl (hH.r 904 12 914 rfl) ?_
                    refine y_iload rfl rfl ?_
                    refine y_ialoadP (n := 300) rfl rfl (by unfold rg; omega) (fun w60 w61 => ?_)
                    have w62 : -2147483648 ≤ (Xi S 914 ((v8).toNat)) ∧ (Xi S 914 ((v8).toNat)) ≤ 2147483647 := Xi_rgI
                    have l99 := hLS v8.toNat (by omega)
                    refine y_iconst rfl ?_
                    refine y_icmp_eq rfl rfl (by unfold rg; omega) (by unfold rg; omega) (fun w63 => ?_) (fun w64 => ?_)
                    · refine y_iinc rfl rfl rfl rfl ?_
                      refine y_goto rfl rfl ?_
                      exact Pl_weak (ih3 (by omega) ((v8 + 1)) (by omega) (by omega) (by first | rfl | exact fdR_no (by omega) h3 (fun q => by obtain ⟨q1, q2, q3, q4, q5⟩ := q; omega))) (by omega) (And.intro rfl (And.intro rfl (And.intro rfl (And.intro rfl (And.intro rfl (And.intro rfl (True.intro)))))))
                    · refine y_iload rfl rfl ?_
                      refine y_ireturn rfl rfl ?_
                      exact ⟨rfl, _, rfl, ⟨by omega, by omega⟩, (by first | (exact fdR_hit (by omega) h3 ⟨by omega, by omega, by omega, by omega, by omega⟩ (by omega)) | (rw [show Xi S 904 15 = v8 by omega]; exact h3.symm))⟩
                · refine y_aload_n rfl rfl ?_
                  refine y_gfr rfl rfl rfl rfl rfl (hH.r 904 11 913 rfl) ?_
                  refine y_iconst rfl ?_
                  refine y_iload rfl rfl ?_
                  refine y_imul rfl ?_
                  refine y_iconst rfl ?_
                  refine y_iadd rfl ?_
                  refine y_laloadP (n := 900) rfl rfl (by unfold rg; omega) (fun w65 w66 => ?_)
                  have w67 : -9223372036854775808 ≤ (Xj S 913 ((((3 * v8) + 2)).toNat)) ∧ (Xj S 913 ((((3 * v8) + 2)).toNat)) < 9223372036854775808 := Xj_rg
                  refine y_lload rfl rfl ?_
                  refine y_lcmp rfl (by unfold rgL; omega) (by unfold rgL; omega) (fun c68 w68 w68a w68b w68c => ?_)
                  refine y_if_ne rfl rfl (by unfold rg; omega) (fun w69 => ?_) (fun w70 => ?_)
                  · refine y_iinc rfl rfl rfl rfl ?_
                    refine y_goto rfl rfl ?_
                    exact Pl_weak (ih3 (by omega) ((v8 + 1)) (by omega) (by omega) (by first | rfl | exact fdR_no (by omega) h3 (fun q => by obtain ⟨q1, q2, q3, q4, q5⟩ := q; omega))) (by omega) (And.intro rfl (And.intro rfl (And.intro rfl (And.intro rfl (And.intro rfl (And.intro rfl (True.intro)))))))
                  · refine y_aload_n rfl rfl ?_
                    refine y_gfr rfl rfl rfl rfl rfl (hH.r 904 14 916 rfl) ?_
                    refine y_iload rfl rfl ?_
                    refine y_baloadP (n := 300) rfl rfl rfl (by decide) (by unfold rg; omega) (fun w71 w72 => ?_)
                    have w73 : -2147483648 ≤ (Xi S 916 ((v8).toNat)) ∧ (Xi S 916 ((v8).toNat)) ≤ 2147483647 := Xi_rgI
                    refine y_if_ne rfl rfl (by unfold rg; omega) (fun w74 => ?_) (fun w75 => ?_)
                    · refine y_iinc rfl rfl rfl rfl ?_
                      refine y_goto rfl rfl ?_
                      exact Pl_weak (ih3 (by omega) ((v8 + 1)) (by omega) (by omega) (by first | rfl | exact fdR_no (by omega) h3 (fun q => by obtain ⟨q1, q2, q3, q4, q5⟩ := q; omega))) (by omega) (And.intro rfl (And.intro rfl (And.intro rfl (And.intro rfl (And.intro rfl (And.intro rfl (True.intro)))))))
                    · refine y_aload_n rfl rfl ?_
                      refine y_gfr rfl rfl rfl rfl rfl (hH.r 904 12 914 rfl) ?_
                      refine y_iload rfl rfl ?_
                      refine y_ialoadP (n := 300) rfl rfl (by unfold rg; omega) (fun w76 w77 => ?_)
                      have w78 : -2147483648 ≤ (Xi S 914 ((v8).toNat)) ∧ (Xi S 914 ((v8).toNat)) ≤ 2147483647 := Xi_rgI
                      have l99 := hLS v8.toNat (by omega)
                      refine y_iconst rfl ?_
                      refine y_icmp_eq rfl rfl (by unfold rg; omega) (by unfold rg; omega) (fun w79 => ?_) (fun w80 => ?_)
                      · refine y_iinc rfl rfl rfl rfl ?_
                        refine y_goto rfl rfl ?_
                        exact Pl_weak (ih3 (by omega) ((v8 + 1)) (by omega) (by omega) (by first | rfl | exact fdR_no (by omega) h3 (fun q => by obtain ⟨q1, q2, q3, q4, q5⟩ := q; omega))) (by omega) (And.intro rfl (And.intro rfl (And.intro rfl (And.intro rfl (And.intro rfl (And.intro rfl (True.intro)))))))
                      · refine y_iload rfl rfl ?_
                        refine y_ireturn rfl rfl ?_
                        exact ⟨rfl, _, rfl, ⟨by omega, by omega⟩, (by first | (exact fdR_hit (by omega) h3 ⟨by omega, by omega, by omega, by omega, by omega⟩ (by omega)) | (rw [show Xi S 904 15 = v8 by omega]; exact h3.symm))⟩
  refine y_iconst rfl ?_
  refine y_istore rfl rfl rfl ?_
  exact Pl_weak (C3 fu (by omega) (0) (by omega) (by omega) (by first | rfl | exact fdR_no (by omega) h3 (fun q => by obtain ⟨q1, q2, q3, q4, q5⟩ := q; omega))) (by omega) (And.intro rfl (And.intro rfl (And.intro rfl (And.intro rfl (And.intro rfl (And.intro rfl (True.intro)))))))
abbrev Q_mo_mean__p (S : sS) (t : Int) (m : Int) : pst := fun r S1 => S = S1 ∧ (∃ z : Int, r = some (iv z) ∧ (-2147483648 ≤ z ∧ z ≤ 2147483647) ∧ (z = nmR S t m))
set_option maxRecDepth 100000 in
theorem t_mo_mean__p {S : sS} (hH : RI S) (t : Int) (m : Int) (ht : -2147483648 ≤ t ∧ t ≤ 2147483600) (hm : -2147483648 ≤ m ∧ m ≤ 2147483647) (hLS : LSP S) (h15 : 0 ≤ Xi S 904 15) (d : Nat) : Mp lay0 (d + 2) m_mo_mean [.ref 904, iv t, iv m] S (Q_mo_mean__p S t m) := by
  refine Mp_R rfl rfl (fun fu => ?_)
  have w1 : -2147483648 ≤ Xi S 904 15 ∧ Xi S 904 15 ≤ 2147483647 := Xi_rgI
  refine y_iload_n rfl rfl ?_
  refine y_iconst rfl ?_
  refine y_icmp_lt rfl rfl (by unfold rg; omega) (by unfold rg; omega) (fun w2 => ?_) (fun w3 => ?_)
  · refine y_iconst rfl ?_
    refine y_goto rfl rfl ?_
    refine y_ireturn rfl rfl ?_
    exact ⟨rfl, _, rfl, ⟨by omega, by omega⟩, (by first | (exfalso; omega) | (unfold nmR; rw [if_pos (by omega)]) | (unfold nmR; rw [if_neg (by omega), if_neg (by omega), if_neg (by omega)]; assumption) | (unfold nmR; rw [if_neg (by omega), if_pos (by omega), if_neg (by omega)]; assumption) | (unfold nmR; rw [if_neg (by omega), if_pos (by omega), if_pos (by omega)]; assumption))⟩
  · refine y_iload_n rfl rfl ?_
    refine y_iconst rfl ?_
    refine y_icmp_le rfl rfl (by unfold rg; omega) (by unfold rg; omega) (fun w4 => ?_) (fun w5 => ?_)
    · refine y_aload_n rfl rfl ?_
      refine y_aload_n rfl rfl ?_
      refine y_gfr rfl rfl rfl rfl rfl (hH.r 904 7 910 rfl) ?_
      refine y_iload_n rfl rfl ?_
      refine y_laloadP (n := 5002) rfl rfl (by unfold rg; omega) (fun w6 w7 => ?_)
      have w8 : -9223372036854775808 ≤ (Xj S 910 ((t).toNat)) ∧ (Xj S 910 ((t).toNat)) < 9223372036854775808 := Xj_rg
      refine y_iload_n rfl rfl ?_
      refine y_iconst rfl ?_
      refine y_icmp_le rfl rfl (by unfold rg; omega) (by unfold rg; omega) (fun w9 => ?_) (fun w10 => ?_)
      · refine y_lconst (z := 0) rfl rfl ?_
        refine y_iload_n rfl rfl ?_
        refine y_iconst rfl ?_
        refine y_icmp_le rfl rfl (by unfold rg; omega) (by unfold rg; omega) (fun w11 => ?_) (fun w12 => ?_)
        · refine y_lconst (z := 0) rfl rfl ?_
          refine y_iload_n rfl rfl ?_
          refine y_callV rfl rfl rfl (t_mo_find__p hH (Xj S 910 ((t).toNat)) 0 0 m ⟨by omega, by omega⟩ (by first | exact Xj_rg | (unfold rgL; omega)) (by first | exact Xj_rg | (unfold rgL; omega)) (by first | exact Xj_rg | (unfold rgL; omega)) (by first | assumption | omega) (by first | assumption | exact (by assumption : LSP S)) _) ?_
          rintro _ _ ⟨rfl, z14, rfl, w14, w13⟩
          show Pl _ _ _ _ _ _ [iv z14] _ _
          refine y_ireturn rfl rfl ?_
          exact ⟨rfl, _, rfl, ⟨by omega, by omega⟩, (by first | (exfalso; omega) | (unfold nmR; rw [if_pos (by omega)]) | (unfold nmR; rw [if_neg (by omega), if_neg (by omega), if_neg (by omega)]; assumption) | (unfold nmR; rw [if_neg (by omega), if_pos (by omega), if_neg (by omega)]; assumption) | (unfold nmR; rw [if_neg (by omega), if_pos (by omega), if_pos (by omega)]; assumption))⟩
        · refine y_aload_n rfl rfl ?_
          refine y_gfr rfl rfl rfl rfl rfl (hH.r 904 7 910 rfl) ?_
          refine y_iload_n rfl rfl ?_
          refine y_iconst rfl ?_
          refine y_iadd rfl ?_
          refine y_laloadP (n := 5002) rfl rfl (by unfold rg; omega) (fun w15 w16 => ?_)
          have w17 : -9223372036854775808 ≤ (Xj S 910 (((t + 2)).toNat)) ∧ (Xj S 910 (((t + 2)).toNat)) < 9223372036854775808 := Xj_rg
          refine y_goto rfl rfl ?_
          refine y_iload_n rfl rfl ?_
          refine y_callV rfl rfl rfl (t_mo_find__p hH (Xj S 910 ((t).toNat)) 0 (Xj S 910 (((t + 2)).toNat)) m ⟨by omega, by omega⟩ (by first | exact Xj_rg | (unfold rgL; omega)) (by first | exact Xj_rg | (unfold rgL; omega)) (by first | exact Xj_rg | (unfold rgL; omega)) (by first | assumption | omega) (by first | assumption | exact (by assumption : LSP S)) _) ?_
          rintro _ _ ⟨rfl, z19, rfl, w19, w18⟩
          show Pl _ _ _ _ _ _ [iv z19] _ _
          refine y_ireturn rfl rfl ?_
          exact ⟨rfl, _, rfl, ⟨by omega, by omega⟩, (by first | (exfalso; omega) | (unfold nmR; rw [if_pos (by omega)]) | (unfold nmR; rw [if_neg (by omega), if_neg (by omega), if_neg (by omega)]; assumption) | (unfold nmR; rw [if_neg (by omega), if_pos (by omega), if_neg (by omega)]; assumption) | (unfold nmR; rw [if_neg (by omega), if_pos (by omega), if_pos (by omega)]; assumption))⟩
      · refine y_aload_n rfl rfl ?_
        refine y_gfr rfl rfl rfl rfl rfl (hH.r 904 7 910 rfl) ?_
        refine y_iload_n rfl rfl ?_
        refine y_iconst rfl ?_
        refine y_iadd rfl ?_
        refine y_laloadP (n := 5002) rfl rfl (by unfold rg; omega) (fun w20 w21 => ?_)
        have w22 : -9223372036854775808 ≤ (Xj S 910 (((t + 1)).toNat)) ∧ (Xj S 910 (((t + 1)).toNat)) < 9223372036854775808 := Xj_rg
        refine y_goto rfl rfl ?_
        refine y_iload_n rfl rfl ?_
        refine y_iconst rfl ?_
        refine y_icmp_le rfl rfl (by unfold rg; omega) (by unfold rg; omega) (fun w23 => ?_) (fun w24 => ?_)
        · refine y_lconst (z := 0) rfl rfl ?_
          refine y_iload_n rfl rfl ?_
          refine y_callV rfl rfl rfl (t_mo_find__p hH (Xj S 910 ((t).toNat)) (Xj S 910 (((t + 1)).toNat)) 0 m ⟨by omega, by omega⟩ (by first | exact Xj_rg | (unfold rgL; omega)) (by first | exact Xj_rg | (unfold rgL; omega)) (by first | exact Xj_rg | (unfold rgL; omega)) (by first | assumption | omega) (by first | assumption | exact (by assumption : LSP S)) _) ?_
          rintro _ _ ⟨rfl, z26, rfl, w26, w25⟩
          show Pl _ _ _ _ _ _ [iv z26] _ _
          refine y_ireturn rfl rfl ?_
          exact ⟨rfl, _, rfl, ⟨by omega, by omega⟩, (by first | (exfalso; omega) | (unfold nmR; rw [if_pos (by omega)]) | (unfold nmR; rw [if_neg (by omega), if_neg (by omega), if_neg (by omega)]; assumption) | (unfold nmR; rw [if_neg (by omega), if_pos (by omega), if_neg (by omega)]; assumption) | (unfold nmR; rw [if_neg (by omega), if_pos (by omega), if_pos (by omega)]; assumption))⟩
        · refine y_aload_n rfl rfl ?_
          refine y_gfr rfl rfl rfl rfl rfl (hH.r 904 7 910 rfl) ?_
          refine y_iload_n rfl rfl ?_
          refine y_iconst rfl ?_
          refine y_iadd rfl ?_
          refine y_laloadP (n := 5002) rfl rfl (by unfold rg; omega) (fun w27 w28 => ?_)
          have w29 : -9223372036854775808 ≤ (Xj S 910 (((t + 2)).toNat)) ∧ (Xj S 910 (((t + 2)).toNat)) < 9223372036854775808 := Xj_rg
          refine y_goto rfl rfl ?_
          refine y_iload_n rfl rfl ?_
          refine y_callV rfl rfl rfl (t_mo_find__p hH (Xj S 910 ((t).toNat)) (Xj S 910 (((t + 1)).toNat)) (Xj S 910 (((t + 2)).toNat)) m ⟨by omega, by omega⟩ (by first | exact Xj_rg | (unfold rgL; omega)) (by first | exact Xj_rg | (unfold rgL; omega)) (by first | exact Xj_rg | (unfold rgL; omega)) (by first | assumption | omega) (by first | assumption | exact (by assumption : LSP S)) _) ?_
          rintro _ _ ⟨rfl, z31, rfl, w31, w30⟩
          show Pl _ _ _ _ _ _ [iv z31] _ _
          refine y_ireturn rfl rfl ?_
          exact ⟨rfl, _, rfl, ⟨by omega, by omega⟩, (by first | (exfalso; omega) | (unfold nmR; rw [if_pos (by omega)]) | (unfold nmR; rw [if_neg (by omega), if_neg (by omega), if_neg (by omega)]; assumption) | (unfold nmR; rw [if_neg (by omega), if_pos (by omega), if_neg (by omega)]; assumption) | (unfold nmR; rw [if_neg (by omega), if_pos (by omega), if_pos (by omega)]; assumption))⟩
    · refine y_iconst rfl ?_
      refine y_goto rfl rfl ?_
      refine y_ireturn rfl rfl ?_
      exact ⟨rfl, _, rfl, ⟨by omega, by omega⟩, (by first | (exfalso; omega) | (unfold nmR; rw [if_pos (by omega)]) | (unfold nmR; rw [if_neg (by omega), if_neg (by omega), if_neg (by omega)]; assumption) | (unfold nmR; rw [if_neg (by omega), if_pos (by omega), if_neg (by omega)]; assumption) | (unfold nmR; rw [if_neg (by omega), if_pos (by omega), if_pos (by omega)]; assumption))⟩
abbrev Q_mo_means__p (S : sS) (t : Int) (m : Int) (so : Int) : pst := fun r S1 => S = S1 ∧ (∃ z : Int, r = some (iv z) ∧ (-2147483648 ≤ z ∧ z ≤ 2147483647) ∧ (z = msR S t m so))
set_option maxRecDepth 100000 in
theorem t_mo_means__p {S : sS} (hH : RI S) (t : Int) (m : Int) (so : Int) (ht : -2147483648 ≤ t ∧ t ≤ 2147483600) (hm : -2147483648 ≤ m ∧ m ≤ 2147483647) (hso : -2147483648 ≤ so ∧ so ≤ 2147483647) (hLS : LSP S) (h15 : 0 ≤ Xi S 904 15) (d : Nat) : Mp lay0 (d + 3) m_mo_means [.ref 904, iv t, iv m, iv so] S (Q_mo_means__p S t m so) := by
  refine Mp_R rfl rfl (fun fu => ?_)
  have w1 : -2147483648 ≤ Xi S 904 15 ∧ Xi S 904 15 ≤ 2147483647 := Xi_rgI
  refine y_aload_n rfl rfl ?_
  refine y_iload_n rfl rfl ?_
  refine y_iload_n rfl rfl ?_
  refine y_callV rfl rfl rfl (t_mo_mean__p hH t m ⟨by omega, by omega⟩ ⟨by omega, by omega⟩ (by first | assumption | exact (by assumption : LSP S)) (by first | assumption | omega) _) ?_
  rintro _ _ ⟨rfl, z2, rfl, w2, m3⟩
  show Pl _ _ _ _ _ _ [iv z2] _ _
  refine y_istore rfl rfl rfl ?_
  refine y_iload rfl rfl ?_
  refine y_iconst rfl ?_
  refine y_icmp_eq rfl rfl (by unfold rg; omega) (by unfold rg; omega) (fun w3 => ?_) (fun w4 => ?_)
  · refine y_iconst rfl ?_
    refine y_ireturn rfl rfl ?_
    exact ⟨rfl, _, rfl, ⟨by omega, by omega⟩, (by unfold msR; rw [← m3]; first | rw [if_pos ⟨by omega, by omega⟩] | rw [if_neg (fun q => by omega)])⟩
  · refine y_aload_n rfl rfl ?_
    refine y_gfr rfl rfl rfl rfl rfl (hH.r 904 12 914 rfl) ?_
    refine y_iload rfl rfl ?_
    refine y_ialoadP (n := 300) rfl rfl (by unfold rg; omega) (fun w5 w6 => ?_)
    have w7 : -2147483648 ≤ (Xi S 914 ((z2).toNat)) ∧ (Xi S 914 ((z2).toNat)) ≤ 2147483647 := Xi_rgI
    refine y_iload_n rfl rfl ?_
    refine y_icmp_ne rfl rfl (by unfold rg; omega) (by unfold rg; omega) (fun w8 => ?_) (fun w9 => ?_)
    · refine y_iconst rfl ?_
      refine y_ireturn rfl rfl ?_
      exact ⟨rfl, _, rfl, ⟨by omega, by omega⟩, (by unfold msR; rw [← m3]; first | rw [if_pos ⟨by omega, by omega⟩] | rw [if_neg (fun q => by omega)])⟩
    · refine y_aload_n rfl rfl ?_
      refine y_gfr rfl rfl rfl rfl rfl (hH.r 904 13 915 rfl) ?_
      refine y_iload rfl rfl ?_
      refine y_ialoadP (n := 300) rfl rfl (by unfold rg; omega) (fun w10 w11 => ?_)
      have w12 : -2147483648 ≤ (Xi S 915 ((z2).toNat)) ∧ (Xi S 915 ((z2).toNat)) ≤ 2147483647 := Xi_rgI
      refine y_goto rfl rfl ?_
      refine y_ireturn rfl rfl ?_
      exact ⟨rfl, _, rfl, ⟨by omega, by omega⟩, (by unfold msR; rw [← m3]; first | rw [if_pos ⟨by omega, by omega⟩] | rw [if_neg (fun q => by omega)])⟩
abbrev Q_mo_meansRun__p (S : sS) (rn : Int) (so : Int) : pst := fun r S1 => S = S1 ∧ (∃ z : Int, r = some (iv z) ∧ (-2147483648 ≤ z ∧ z ≤ 2147483647) ∧ (z = rnR S rn so))
set_option maxRecDepth 100000 in
theorem t_mo_meansRun__p {S : sS} (hH : RI S) (rn : Int) (so : Int) (hrn : -2147483648 ≤ rn ∧ rn ≤ 2147483647) (hso : -2147483648 ≤ so ∧ so ≤ 2147483647) (hLS : LSP S) (h15 : 0 ≤ Xi S 904 15) (hRB : RBD S) (d : Nat) : Mp lay0 (d + 4) m_mo_meansRun [.ref 904, iv rn, iv so] S (Q_mo_meansRun__p S rn so) := by
  refine Mp_R rfl rfl (fun fu => ?_)
  have w1 : -2147483648 ≤ Xi S 904 15 ∧ Xi S 904 15 ≤ 2147483647 := Xi_rgI
  have hrt := hRB rn.toNat
  refine y_aload_n rfl rfl ?_
  refine y_aload_n rfl rfl ?_
  refine y_gfr rfl rfl rfl rfl rfl (hH.r 904 67 950 rfl) ?_
  refine y_iload_n rfl rfl ?_
  refine y_ialoadP (n := 2600) rfl rfl (by unfold rg; omega) (fun w2 w3 => ?_)
  have w4 : -2147483648 ≤ (Xi S 950 ((rn).toNat)) ∧ (Xi S 950 ((rn).toNat)) ≤ 2147483647 := Xi_rgI
  refine y_aload_n rfl rfl ?_
  refine y_gfr rfl rfl rfl rfl rfl (hH.r 904 68 951 rfl) ?_
  refine y_iload_n rfl rfl ?_
  refine y_ialoadP (n := 2600) rfl rfl (by unfold rg; omega) (fun w5 w6 => ?_)
  have w7 : -2147483648 ≤ (Xi S 951 ((rn).toNat)) ∧ (Xi S 951 ((rn).toNat)) ≤ 2147483647 := Xi_rgI
  refine y_iload_n rfl rfl ?_
  refine y_callV rfl rfl rfl (t_mo_means__p hH (Xi S 950 ((rn).toNat)) (Xi S 951 ((rn).toNat)) so ⟨by omega, by omega⟩ ⟨by omega, by omega⟩ ⟨by omega, by omega⟩ (by first | assumption | exact (by assumption : LSP S)) (by first | assumption | omega) _) ?_
  rintro _ _ ⟨rfl, z9, rfl, w9, w8⟩
  show Pl _ _ _ _ _ _ [iv z9] _ _
  refine y_ireturn rfl rfl ?_
  exact ⟨rfl, _, rfl, ⟨by omega, by omega⟩, (by assumption)⟩
abbrev Q_mo_meansNothing__p (S : sS) (rn : Int) : pst := fun r S1 => S = S1 ∧ (∃ z : Int, r = some (iv z) ∧ (0 ≤ z ∧ z ≤ 1) ∧ ((z = 1 → rmR S rn = -1) ∧ (z = 0 → rmR S rn ≠ -1)))
set_option maxRecDepth 100000 in
theorem t_mo_meansNothing__p {S : sS} (hH : RI S) (rn : Int) (hrn : -2147483648 ≤ rn ∧ rn ≤ 2147483647) (hLS : LSP S) (h15 : 0 ≤ Xi S 904 15) (hRB : RBD S) (d : Nat) : Mp lay0 (d + 3) m_mo_meansNothing [.ref 904, iv rn] S (Q_mo_meansNothing__p S rn) := by
  refine Mp_R rfl rfl (fun fu => ?_)
  have w1 : -2147483648 ≤ Xi S 904 15 ∧ Xi S 904 15 ≤ 2147483647 := Xi_rgI
  have hrt := hRB rn.toNat
  refine y_aload_n rfl rfl ?_
  refine y_aload_n rfl rfl ?_
  refine y_gfr rfl rfl rfl rfl rfl (hH.r 904 67 950 rfl) ?_
  refine y_iload_n rfl rfl ?_
  refine y_ialoadP (n := 2600) rfl rfl (by unfold rg; omega) (fun w2 w3 => ?_)
  have w4 : -2147483648 ≤ (Xi S 950 ((rn).toNat)) ∧ (Xi S 950 ((rn).toNat)) ≤ 2147483647 := Xi_rgI
  refine y_aload_n rfl rfl ?_
  refine y_gfr rfl rfl rfl rfl rfl (hH.r 904 68 951 rfl) ?_
  refine y_iload_n rfl rfl ?_
  refine y_ialoadP (n := 2600) rfl rfl (by unfold rg; omega) (fun w5 w6 => ?_)
  have w7 : -2147483648 ≤ (Xi S 951 ((rn).toNat)) ∧ (Xi S 951 ((rn).toNat)) ≤ 2147483647 := Xi_rgI
  refine y_callV rfl rfl rfl (t_mo_mean__p hH (Xi S 950 ((rn).toNat)) (Xi S 951 ((rn).toNat)) ⟨by omega, by omega⟩ ⟨by omega, by omega⟩ (by first | assumption | exact (by assumption : LSP S)) (by first | assumption | omega) _) ?_
  rintro _ _ ⟨rfl, z9, rfl, w9, w8⟩
  show Pl _ _ _ _ _ _ [iv z9] _ _
  refine y_iconst rfl ?_
  refine y_icmp_ne rfl rfl (by unfold rg; omega) (by unfold rg; omega) (fun w10 => ?_) (fun w11 => ?_)
  · refine y_iconst rfl ?_
    refine y_ireturn rfl rfl ?_
    exact ⟨rfl, _, rfl, ⟨by omega, by omega⟩, (by unfold rmR; rw [← (by assumption : _ = nmR S _ _)]; omega)⟩
  · refine y_iconst rfl ?_
    refine y_goto rfl rfl ?_
    refine y_ireturn rfl rfl ?_
    exact ⟨rfl, _, rfl, ⟨by omega, by omega⟩, (by unfold rmR; rw [← (by assumption : _ = nmR S _ _)]; omega)⟩
abbrev Q_mo_kindOrPlural__p (S : sS) (rn : Int) : pst := fun r S1 => S = S1 ∧ (∃ z : Int, r = some (iv z) ∧ (-2147483648 ≤ z ∧ z ≤ 2147483647) ∧ (z = r2R S rn 0 1))
set_option maxRecDepth 100000 in
theorem t_mo_kindOrPlural__p {S : sS} (hH : RI S) (rn : Int) (hrn : -2147483648 ≤ rn ∧ rn ≤ 2147483647) (hLS : LSP S) (h15 : 0 ≤ Xi S 904 15) (hRB : RBD S) (d : Nat) : Mp lay0 (d + 5) m_mo_kindOrPlural [.ref 904, iv rn] S (Q_mo_kindOrPlural__p S rn) := by
  refine Mp_R rfl rfl (fun fu => ?_)
  have w1 : -2147483648 ≤ Xi S 904 15 ∧ Xi S 904 15 ≤ 2147483647 := Xi_rgI
  refine y_aload_n rfl rfl ?_
  refine y_iload_n rfl rfl ?_
  refine y_iconst rfl ?_
  refine y_callV rfl rfl rfl (t_mo_meansRun__p hH rn 0 ⟨by omega, by omega⟩ ⟨by omega, by omega⟩ (by first | assumption | exact (by assumption : LSP S)) (by first | assumption | omega) (by first | assumption | exact (by assumption : RBD S)) _) ?_
  rintro _ _ ⟨rfl, z3, rfl, w3, w2⟩
  show Pl _ _ _ _ _ _ [iv z3] _ _
  refine y_istore_n rfl rfl rfl ?_
  refine y_iload_n rfl rfl ?_
  refine y_iconst rfl ?_
  refine y_icmp_eq rfl rfl (by unfold rg; omega) (by unfold rg; omega) (fun w4 => ?_) (fun w5 => ?_)
  · refine y_aload_n rfl rfl ?_
    refine y_iload_n rfl rfl ?_
    refine y_iconst rfl ?_
    refine y_callV rfl rfl rfl (t_mo_meansRun__p hH rn 1 ⟨by omega, by omega⟩ ⟨by omega, by omega⟩ (by first | assumption | exact (by assumption : LSP S)) (by first | assumption | omega) (by first | assumption | exact (by assumption : RBD S)) _) ?_
    rintro _ _ ⟨rfl, z7, rfl, w7, w6⟩
    show Pl _ _ _ _ _ _ [iv z7] _ _
    refine y_ireturn rfl rfl ?_
    exact ⟨rfl, _, rfl, ⟨by omega, by omega⟩, (by unfold r2R; first | (rw [← (by assumption : _ = rnR S rn 0), if_pos (by omega)]) | (rw [← (by assumption : _ = rnR S rn 0), if_neg (by omega)]; assumption))⟩
  · refine y_iload_n rfl rfl ?_
    refine y_goto rfl rfl ?_
    refine y_ireturn rfl rfl ?_
    exact ⟨rfl, _, rfl, ⟨by omega, by omega⟩, (by unfold r2R; first | (rw [← (by assumption : _ = rnR S rn 0), if_pos (by omega)]) | (rw [← (by assumption : _ = rnR S rn 0), if_neg (by omega)]; assumption))⟩
abbrev Q_mo_typeOrPlural__p (S : sS) (rn : Int) : pst := fun r S1 => S = S1 ∧ (∃ z : Int, r = some (iv z) ∧ (-2147483648 ≤ z ∧ z ≤ 2147483647) ∧ (z = r2R S rn 2 3))
set_option maxRecDepth 100000 in
theorem t_mo_typeOrPlural__p {S : sS} (hH : RI S) (rn : Int) (hrn : -2147483648 ≤ rn ∧ rn ≤ 2147483647) (hLS : LSP S) (h15 : 0 ≤ Xi S 904 15) (hRB : RBD S) (d : Nat) : Mp lay0 (d + 5) m_mo_typeOrPlural [.ref 904, iv rn] S (Q_mo_typeOrPlural__p S rn) := by
  refine Mp_R rfl rfl (fun fu => ?_)
  have w1 : -2147483648 ≤ Xi S 904 15 ∧ Xi S 904 15 ≤ 2147483647 := Xi_rgI
  refine y_aload_n rfl rfl ?_
  refine y_iload_n rfl rfl ?_
  refine y_iconst rfl ?_
  refine y_callV rfl rfl rfl (t_mo_meansRun__p hH rn 2 ⟨by omega, by omega⟩ ⟨by omega, by omega⟩ (by first | assumption | exact (by assumption : LSP S)) (by first | assumption | omega) (by first | assumption | exact (by assumption : RBD S)) _) ?_
  rintro _ _ ⟨rfl, z3, rfl, w3, w2⟩
  show Pl _ _ _ _ _ _ [iv z3] _ _
  refine y_istore_n rfl rfl rfl ?_
  refine y_iload_n rfl rfl ?_
  refine y_iconst rfl ?_
  refine y_icmp_eq rfl rfl (by unfold rg; omega) (by unfold rg; omega) (fun w4 => ?_) (fun w5 => ?_)
  · refine y_aload_n rfl rfl ?_
    refine y_iload_n rfl rfl ?_
    refine y_iconst rfl ?_
    refine y_callV rfl rfl rfl (t_mo_meansRun__p hH rn 3 ⟨by omega, by omega⟩ ⟨by omega, by omega⟩ (by first | assumption | exact (by assumption : LSP S)) (by first | assumption | omega) (by first | assumption | exact (by assumption : RBD S)) _) ?_
    rintro _ _ ⟨rfl, z7, rfl, w7, w6⟩
    show Pl _ _ _ _ _ _ [iv z7] _ _
    refine y_ireturn rfl rfl ?_
    exact ⟨rfl, _, rfl, ⟨by omega, by omega⟩, (by unfold r2R; first | (rw [← (by assumption : _ = rnR S rn 2), if_pos (by omega)]) | (rw [← (by assumption : _ = rnR S rn 2), if_neg (by omega)]; assumption))⟩
  · refine y_iload_n rfl rfl ?_
    refine y_goto rfl rfl ?_
    refine y_ireturn rfl rfl ?_
    exact ⟨rfl, _, rfl, ⟨by omega, by omega⟩, (by unfold r2R; first | (rw [← (by assumption : _ = rnR S rn 2), if_pos (by omega)]) | (rw [← (by assumption : _ = rnR S rn 2), if_neg (by omega)]; assumption))⟩
abbrev Q_mo_rank__p (S : sS) (f : Int) : pst := fun r S1 => S = S1 ∧ (∃ z : Int, r = some (iv z) ∧ (-2147483648 ≤ z ∧ z ≤ 2147483647) ∧ (z = rk7 f))
set_option maxRecDepth 100000 in
theorem t_mo_rank__p {S : sS} (hH : RI S) (f : Int) (hf : -2147483648 ≤ f ∧ f ≤ 2147483647) (d : Nat) : Mp lay0 (d + 1) m_mo_rank [iv f] S (Q_mo_rank__p S f) := by
  refine Mp_R rfl rfl (fun fu => ?_)
  refine y_iload_n rfl rfl ?_
  refine y_bipush rfl rfl ?_
  refine y_icmp_ne rfl rfl (by unfold rg; omega) (by unfold rg; omega) (fun w1 => ?_) (fun w2 => ?_)
  · refine y_iload_n rfl rfl ?_
    refine y_iconst rfl ?_
    refine y_icmp_ne rfl rfl (by unfold rg; omega) (by unfold rg; omega) (fun w3 => ?_) (fun w4 => ?_)
    · refine y_iload_n rfl rfl ?_
      refine y_iconst rfl ?_
      refine y_icmp_ne rfl rfl (by unfold rg; omega) (by unfold rg; omega) (fun w5 => ?_) (fun w6 => ?_)
      · refine y_iload_n rfl rfl ?_
        refine y_bipush rfl rfl ?_
        refine y_icmp_ne rfl rfl (by unfold rg; omega) (by unfold rg; omega) (fun w7 => ?_) (fun w8 => ?_)
        · refine y_iconst rfl ?_
          refine y_ireturn rfl rfl ?_
          exact ⟨rfl, _, rfl, ⟨by omega, by omega⟩, (by have e := rk_e (f := f); omega)⟩
        · refine y_iconst rfl ?_
          refine y_goto rfl rfl ?_
          refine y_ireturn rfl rfl ?_
          exact ⟨rfl, _, rfl, ⟨by omega, by omega⟩, (by have e := rk_e (f := f); omega)⟩
      · refine y_iconst rfl ?_
        refine y_goto rfl rfl ?_
        refine y_ireturn rfl rfl ?_
        exact ⟨rfl, _, rfl, ⟨by omega, by omega⟩, (by have e := rk_e (f := f); omega)⟩
    · refine y_iconst rfl ?_
      refine y_goto rfl rfl ?_
      refine y_ireturn rfl rfl ?_
      exact ⟨rfl, _, rfl, ⟨by omega, by omega⟩, (by have e := rk_e (f := f); omega)⟩
  · refine y_iconst rfl ?_
    refine y_goto rfl rfl ?_
    refine y_ireturn rfl rfl ?_
    exact ⟨rfl, _, rfl, ⟨by omega, by omega⟩, (by have e := rk_e (f := f); omega)⟩
def md_mo_note__p : List rec := [(904, 905, 104, 105), (904, 905, 105, 106), (904, 905, 106, 107)]
abbrev Q_mo_note__p (S : sS) (f : Int) (t : Int) : pst := fun r S1 => RI S1 ∧ FR md_mo_note__p S S1 ∧ (r = none ∧ (NT3 S1 = ntF (NT3 S) f (Xi S 908 t.toNat)))
set_option maxRecDepth 100000 in
theorem t_mo_note__p {S : sS} (hH : RI S) (f : Int) (t : Int) (hf : -2147483648 ≤ f ∧ f ≤ 2147483647) (ht : -2147483648 ≤ t ∧ t ≤ 2147483647) (d : Nat) : Mp lay0 (d + 2) m_mo_note [.ref 904, iv f, iv t] S (Q_mo_note__p S f t) := by
  refine Mp_R rfl rfl (fun fu => ?_)
  have hF : FR md_mo_note__p S S := FR.rf
  have w1 : -2147483648 ≤ Xi S 904 104 ∧ Xi S 904 104 ≤ 2147483647 := Xi_rgI
  have w2 : -2147483648 ≤ Xi S 904 105 ∧ Xi S 904 105 ≤ 2147483647 := Xi_rgI
  have w3 : -2147483648 ≤ Xi S 904 106 ∧ Xi S 904 106 ≤ 2147483647 := Xi_rgI
  refine y_aload_n rfl rfl ?_
  refine y_gfr rfl rfl rfl rfl rfl (hH.r 904 5 908 rfl) ?_
  refine y_iload_n rfl rfl ?_
  refine y_ialoadP (n := 5002) rfl rfl (by unfold rg; omega) (fun w4 w5 => ?_)
  have w6 : -2147483648 ≤ (Xi S 908 ((t).toNat)) ∧ (Xi S 908 ((t).toNat)) ≤ 2147483647 := Xi_rgI
  refine y_istore_n rfl rfl rfl ?_
  refine y_aload_n rfl rfl ?_
  refine y_gfi rfl rfl rfl rfl rfl ?_
  refine y_if_eq rfl rfl (by unfold rg; omega) (fun w7 => ?_) (fun w8 => ?_)
  · refine y_aload_n rfl rfl ?_
    refine y_iload_n rfl rfl ?_
    refine y_pfi rfl rfl rfl rfl ?_
    obtain ⟨U1, eU1⟩ : ∃ T : sS, T = uI S 904 106 (Int32.ofInt f) := ⟨_, rfl⟩
    rw [← eU1]
    have hHU1 : RI U1 := by rw [eU1]; exact RI_w hH
    have hFU1 : FR md_mo_note__p S U1 := by rw [eU1]; exact FR.wI hF (mdf_i (r := (904, 905, 106, 107)) (List.mem_of_getElem? (i := 2) rfl) (inR_i (by omega) (by omega) (by omega) (by omega)))
    have w9 : Xi U1 904 106 = f := by rw [eU1]; exact Xi_same (by unfold rg; omega)
    refine y_aload_n rfl rfl ?_
    refine y_iload_n rfl rfl ?_
    refine y_pfi rfl rfl rfl rfl ?_
    obtain ⟨U2, eU2⟩ : ∃ T : sS, T = uI U1 904 105 (Int32.ofInt (Xi S 908 ((t).toNat))) := ⟨_, rfl⟩
    rw [← eU2]
    have hHU2 : RI U2 := by rw [eU2]; exact RI_w hHU1
    have hFU2 : FR md_mo_note__p S U2 := by rw [eU2]; exact FR.wI hFU1 (mdf_i (r := (904, 905, 105, 106)) (List.mem_of_getElem? (i := 1) rfl) (inR_i (by omega) (by omega) (by omega) (by omega)))
    have w10 : Xi U2 904 105 = (Xi S 908 ((t).toNat)) := by rw [eU2]; exact Xi_same (by unfold rg; omega)
    refine y_aload_n rfl rfl ?_
    refine y_iload_n rfl rfl ?_
    refine y_callS rfl rfl (by decide) rfl (t_mo_rank__p hHU2 f ⟨by omega, by omega⟩ _) ?_
    rintro _ _ ⟨rfl, z13, rfl, w13, q53⟩
    show Pl _ _ _ _ _ _ [iv z13, .ref 904] _ _
    refine y_pfi rfl rfl rfl rfl ?_
    obtain ⟨U3, eU3⟩ : ∃ T : sS, T = uI U2 904 104 (Int32.ofInt z13) := ⟨_, rfl⟩
    rw [← eU3]
    have hHU3 : RI U3 := by rw [eU3]; exact RI_w hHU2
    have hFU3 : FR md_mo_note__p S U3 := by rw [eU3]; exact FR.wI hFU2 (mdf_i (r := (904, 905, 104, 105)) (List.mem_of_getElem? (i := 0) rfl) (inR_i (by omega) (by omega) (by omega) (by omega)))
    have w14 : Xi U3 904 104 = z13 := by rw [eU3]; exact Xi_same (by unfold rg; omega)
    refine y_return rfl rfl ?_
    have w15 : Xi U3 904 105 = Xi U2 904 105 := (show Xi U3 904 105 = Xi U2 904 105 from by rw [eU3]; exact Xi_ne (by omega))
    have w16 : Xi U3 904 106 = Xi U1 904 106 := (show Xi U3 904 106 = Xi U2 904 106 from by rw [eU3]; exact Xi_ne (by omega)).trans ((show Xi U2 904 106 = Xi U1 904 106 from by rw [eU2]; exact Xi_ne (by omega)))
    exact ⟨hHU3, hFU3, rfl, (by first | exact nt_y (by omega) (by omega) (by omega) (by omega) | exact nt_n (by omega))⟩
  · refine y_iload_n rfl rfl ?_
    refine y_aload_n rfl rfl ?_
    refine y_gfi rfl rfl rfl rfl rfl ?_
    refine y_icmp_lt rfl rfl (by unfold rg; omega) (by unfold rg; omega) (fun w17 => ?_) (fun w18 => ?_)
    · refine y_aload_n rfl rfl ?_
      refine y_iload_n rfl rfl ?_
      refine y_pfi rfl rfl rfl rfl ?_
      obtain ⟨U4, eU4⟩ : ∃ T : sS, T = uI S 904 106 (Int32.ofInt f) := ⟨_, rfl⟩
      rw [← eU4]
      have hHU4 : RI U4 := by rw [eU4]; exact RI_w hH
      have hFU4 : FR md_mo_note__p S U4 := by rw [eU4]; exact FR.wI hF (mdf_i (r := (904, 905, 106, 107)) (List.mem_of_getElem? (i := 2) rfl) (inR_i (by omega) (by omega) (by omega) (by omega)))
      have w19 : Xi U4 904 106 = f := by rw [eU4]; exact Xi_same (by unfold rg; omega)
      refine y_aload_n rfl rfl ?_
      refine y_iload_n rfl rfl ?_
      refine y_pfi rfl rfl rfl rfl ?_
      obtain ⟨U5, eU5⟩ : ∃ T : sS, T = uI U4 904 105 (Int32.ofInt (Xi S 908 ((t).toNat))) := ⟨_, rfl⟩
      rw [← eU5]
      have hHU5 : RI U5 := by rw [eU5]; exact RI_w hHU4
      have hFU5 : FR md_mo_note__p S U5 := by rw [eU5]; exact FR.wI hFU4 (mdf_i (r := (904, 905, 105, 106)) (List.mem_of_getElem? (i := 1) rfl) (inR_i (by omega) (by omega) (by omega) (by omega)))
      have w20 : Xi U5 904 105 = (Xi S 908 ((t).toNat)) := by rw [eU5]; exact Xi_same (by unfold rg; omega)
      refine y_aload_n rfl rfl ?_
      refine y_iload_n rfl rfl ?_
      refine y_callS rfl rfl (by decide) rfl (t_mo_rank__p hHU5 f ⟨by omega, by omega⟩ _) ?_
      rintro _ _ ⟨rfl, z23, rfl, w23, q53⟩
      show Pl _ _ _ _ _ _ [iv z23, .ref 904] _ _
      refine y_pfi rfl rfl rfl rfl ?_
      obtain ⟨U6, eU6⟩ : ∃ T : sS, T = uI U5 904 104 (Int32.ofInt z23) := ⟨_, rfl⟩
      rw [← eU6]
      have hHU6 : RI U6 := by rw [eU6]; exact RI_w hHU5
      have hFU6 : FR md_mo_note__p S U6 := by rw [eU6]; exact FR.wI hFU5 (mdf_i (r := (904, 905, 104, 105)) (List.mem_of_getElem? (i := 0) rfl) (inR_i (by omega) (by omega) (by omega) (by omega)))
      have w24 : Xi U6 904 104 = z23 := by rw [eU6]; exact Xi_same (by unfold rg; omega)
      refine y_return rfl rfl ?_
      have w25 : Xi U6 904 105 = Xi U5 904 105 := (show Xi U6 904 105 = Xi U5 904 105 from by rw [eU6]; exact Xi_ne (by omega))
      have w26 : Xi U6 904 106 = Xi U4 904 106 := (show Xi U6 904 106 = Xi U5 904 106 from by rw [eU6]; exact Xi_ne (by omega)).trans ((show Xi U5 904 106 = Xi U4 904 106 from by rw [eU5]; exact Xi_ne (by omega)))
      exact ⟨hHU6, hFU6, rfl, (by first | exact nt_y (by omega) (by omega) (by omega) (by omega) | exact nt_n (by omega))⟩
    · refine y_iload_n rfl rfl ?_
      refine y_aload_n rfl rfl ?_
      refine y_gfi rfl rfl rfl rfl rfl ?_
      refine y_icmp_ne rfl rfl (by unfold rg; omega) (by unfold rg; omega) (fun w27 => ?_) (fun w28 => ?_)
      · refine y_return rfl rfl ?_
        exact ⟨hH, hF, rfl, (by first | exact nt_y (by omega) (by omega) (by omega) (by omega) | exact nt_n (by omega))⟩
      · refine y_iload_n rfl rfl ?_
        refine y_callS rfl rfl (by decide) rfl (t_mo_rank__p hH f ⟨by omega, by omega⟩ _) ?_
        rintro _ _ ⟨rfl, z29, rfl, w29, q31⟩
        show Pl _ _ _ _ _ _ [iv z29] _ _
        refine y_aload_n rfl rfl ?_
        refine y_gfi rfl rfl rfl rfl rfl ?_
        refine y_icmp_ge rfl rfl (by unfold rg; omega) (by unfold rg; omega) (fun w30 => ?_) (fun w31 => ?_)
        · refine y_return rfl rfl ?_
          exact ⟨hH, hF, rfl, (by first | exact nt_y (by omega) (by omega) (by omega) (by omega) | exact nt_n (by omega))⟩
        · refine y_aload_n rfl rfl ?_
          refine y_iload_n rfl rfl ?_
          refine y_pfi rfl rfl rfl rfl ?_
          obtain ⟨U7, eU7⟩ : ∃ T : sS, T = uI S 904 106 (Int32.ofInt f) := ⟨_, rfl⟩
          rw [← eU7]
          have hHU7 : RI U7 := by rw [eU7]; exact RI_w hH
          have hFU7 : FR md_mo_note__p S U7 := by rw [eU7]; exact FR.wI hF (mdf_i (r := (904, 905, 106, 107)) (List.mem_of_getElem? (i := 2) rfl) (inR_i (by omega) (by omega) (by omega) (by omega)))
          have w32 : Xi U7 904 106 = f := by rw [eU7]; exact Xi_same (by unfold rg; omega)
          refine y_aload_n rfl rfl ?_
          refine y_iload_n rfl rfl ?_
          refine y_pfi rfl rfl rfl rfl ?_
          obtain ⟨U8, eU8⟩ : ∃ T : sS, T = uI U7 904 105 (Int32.ofInt (Xi S 908 ((t).toNat))) := ⟨_, rfl⟩
          rw [← eU8]
          have hHU8 : RI U8 := by rw [eU8]; exact RI_w hHU7
          have hFU8 : FR md_mo_note__p S U8 := by rw [eU8]; exact FR.wI hFU7 (mdf_i (r := (904, 905, 105, 106)) (List.mem_of_getElem? (i := 1) rfl) (inR_i (by omega) (by omega) (by omega) (by omega)))
          have w33 : Xi U8 904 105 = (Xi S 908 ((t).toNat)) := by rw [eU8]; exact Xi_same (by unfold rg; omega)
          refine y_aload_n rfl rfl ?_
          refine y_iload_n rfl rfl ?_
          refine y_callS rfl rfl (by decide) rfl (t_mo_rank__p hHU8 f ⟨by omega, by omega⟩ _) ?_
          rintro _ _ ⟨rfl, z36, rfl, w36, q53⟩
          show Pl _ _ _ _ _ _ [iv z36, .ref 904] _ _
          refine y_pfi rfl rfl rfl rfl ?_
          obtain ⟨U9, eU9⟩ : ∃ T : sS, T = uI U8 904 104 (Int32.ofInt z36) := ⟨_, rfl⟩
          rw [← eU9]
          have hHU9 : RI U9 := by rw [eU9]; exact RI_w hHU8
          have hFU9 : FR md_mo_note__p S U9 := by rw [eU9]; exact FR.wI hFU8 (mdf_i (r := (904, 905, 104, 105)) (List.mem_of_getElem? (i := 0) rfl) (inR_i (by omega) (by omega) (by omega) (by omega)))
          have w37 : Xi U9 904 104 = z36 := by rw [eU9]; exact Xi_same (by unfold rg; omega)
          refine y_return rfl rfl ?_
          have w38 : Xi U9 904 105 = Xi U8 904 105 := (show Xi U9 904 105 = Xi U8 904 105 from by rw [eU9]; exact Xi_ne (by omega))
          have w39 : Xi U9 904 106 = Xi U7 904 106 := (show Xi U9 904 106 = Xi U8 904 106 from by rw [eU9]; exact Xi_ne (by omega)).trans ((show Xi U8 904 106 = Xi U7 904 106 from by rw [eU8]; exact Xi_ne (by omega)))
          exact ⟨hHU9, hFU9, rfl, (by first | exact nt_y (by omega) (by omega) (by omega) (by omega) | exact nt_n (by omega))⟩
def md_mo_need__p : List rec := [(904, 905, 104, 105), (904, 905, 105, 106), (904, 905, 106, 107)]
abbrev Q_mo_need__p (S : sS) (g : Int) (f : Int) (t : Int) : pst := fun r S1 => RI S1 ∧ FR md_mo_need__p S S1 ∧ (r = none ∧ (NT3 S1 = if g = 0 then ntF (NT3 S) f (Xi S 908 t.toNat) else NT3 S))
set_option maxRecDepth 100000 in
theorem t_mo_need__p {S : sS} (hH : RI S) (g : Int) (f : Int) (t : Int) (hg : 0 ≤ g ∧ g ≤ 1) (hf : -2147483648 ≤ f ∧ f ≤ 2147483647) (ht : -2147483648 ≤ t ∧ t ≤ 2147483647) (d : Nat) : Mp lay0 (d + 3) m_mo_need [.ref 904, iv g, iv f, iv t] S (Q_mo_need__p S g f t) := by
  refine Mp_R rfl rfl (fun fu => ?_)
  have hF : FR md_mo_need__p S S := FR.rf
  refine y_iload_n rfl rfl ?_
  refine y_if_ne rfl rfl (by unfold rg; omega) (fun w1 => ?_) (fun w2 => ?_)
  · refine y_return rfl rfl ?_
    exact ⟨hH, hF, rfl, (by first | (rw [if_pos (by omega)]; assumption) | (rw [if_neg (by omega)]))⟩
  · refine y_aload_n rfl rfl ?_
    refine y_iload_n rfl rfl ?_
    refine y_iload_n rfl rfl ?_
    refine y_callV rfl rfl rfl (t_mo_note__p hH f t ⟨by omega, by omega⟩ ⟨by omega, by omega⟩ _) ?_
    rintro _ T1 ⟨hHT1, w5, rfl, w3⟩
    have hFT1 : FR md_mo_need__p S T1 := FR.tr hF w5 rfl
    show Pl _ _ _ _ _ _ [] _ _
    refine y_return rfl rfl ?_
    exact ⟨hHT1, hFT1, rfl, (by first | (rw [if_pos (by omega)]; assumption) | (rw [if_neg (by omega)]))⟩
abbrev Q_mo_isAlike__p (S : sS) (r1 : Int) (s1 : Int) : pst := fun r S1 => S = S1 ∧ (∃ z : Int, r = some (iv z) ∧ (0 ≤ z ∧ z ≤ 1) ∧ ((z = 1 → alR S r1 s1) ∧ (z = 0 → ¬ alR S r1 s1)))
set_option maxRecDepth 100000 in
theorem t_mo_isAlike__p {S : sS} (hH : RI S) (r1 : Int) (s1 : Int) (hr1 : -2147483648 ≤ r1 ∧ r1 ≤ 2147483647) (hs1 : -2147483648 ≤ s1 ∧ s1 ≤ 2147483647) (hRB : RBD S) (d : Nat) : Mp lay0 (d + 1) m_mo_isAlike [.ref 904, iv r1, iv s1] S (Q_mo_isAlike__p S r1 s1) := by
  refine Mp_R rfl rfl (fun fu => ?_)
  have hr1 := hRB r1.toNat
  have hr2 := hRB s1.toNat
  have C24 : ∀ (n24 : Nat) (_ : n24 ≤ fu) (v3 : Int) (v4 : Int), (0 ≤ v3 ∧ v3 ≤ 1) → (-2147483648 ≤ v4 ∧ v4 ≤ 2147483647) → (0 ≤ v4) → (v3 ≠ 0 → v4 ≤ Xi S 951 r1.toNat ∨ v4 = 0) → (v3 ≠ 0 → alK S r1 s1 (v4).toNat) → (v3 = 0 → ¬ alR S r1 s1) → (v3 ≠ 0 → Xi S 951 r1.toNat = Xi S 951 s1.toNat) → Pl n24 lay0 (d + 0) m_mo_isAlike 24 [(0, .ref 904), (1, iv r1), (2, iv s1), (3, iv v3), (4, iv v4)] [] S (Q_mo_isAlike__p S r1 s1) := by
    intro n24
    induction n24 with
    | zero => intros; exact Pl_0
    | succ n24 ih24 =>
      intro hm24 v3 v4 w1 w2 w3 w4 E24 F24 w5
      have C83 : ∀  (v3 : Int), (0 ≤ v3 ∧ v3 ≤ 1) → (v3 = 1 → alR S r1 s1) → (v3 = 0 → ¬ alR S r1 s1) → Pl n24 lay0 (d + 0) m_mo_isAlike 83 [(3, iv v3)] [] S (Q_mo_isAlike__p S r1 s1) := by
        intro v3 w6 E83 F83
        refine y_iload_n rfl rfl ?_
        refine y_ireturn rfl (retI_z (by omega)) ?_
        exact ⟨rfl, _, rfl, ⟨by omega, by omega⟩, (⟨E83, F83⟩)⟩
      refine ys_iload rfl rfl ?_
      refine y_aload_n rfl rfl ?_
      refine y_gfr rfl rfl rfl rfl rfl (hH.r 904 68 951 rfl) ?_
      refine y_iload_n rfl rfl ?_
      refine y_ialoadP (n := 2600) rfl rfl (by unfold rg; omega) (fun w7 w8 => ?_)
      have w9 : -2147483648 ≤ (Xi S 951 ((r1).toNat)) ∧ (Xi S 951 ((r1).toNat)) ≤ 2147483647 := Xi_rgI
      refine y_icmp_ge rfl rfl (by unfold rg; omega) (by unfold rg; omega) (fun w10 => ?_) (fun w11 => ?_)
      · exact Pl_weak (C83 (v3) (by omega) (by first | exact fun q => absurd q (by omega) | exact fun q => ⟨by omega, fun k a b => E24 (by omega) k a (by omega)⟩) (F24)) (by omega) (And.intro rfl (True.intro))
      · refine y_iload_n rfl rfl ?_
        refine y_if_eq rfl rfl (by unfold rg; omega) (fun w12 => ?_) (fun w13 => ?_)
        · exact Pl_weak (C83 (v3) (by omega) (by first | exact fun q => absurd q (by omega) | exact fun q => ⟨by omega, fun k a b => E24 (by omega) k a (by omega)⟩) (F24)) (by omega) (And.intro rfl (True.intro))
        · refine y_aload_n rfl rfl ?_
          refine y_gfr rfl rfl rfl rfl rfl (hH.r 904 7 910 rfl) ?_
          refine y_aload_n rfl rfl ?_
          refine y_gfr rfl rfl rfl rfl rfl (hH.r 904 67 950 rfl) ?_
          refine y_iload_n rfl rfl ?_
          refine y_ialoadP (n := 2600) rfl rfl (by unfold rg; omega) (fun w14 w15 => ?_)
          have w16 : -2147483648 ≤ (Xi S 950 ((r1).toNat)) ∧ (Xi S 950 ((r1).toNat)) ≤ 2147483647 := Xi_rgI
          refine y_iload rfl rfl ?_
          refine y_iadd rfl ?_
          refine y_laloadP (n := 5002) rfl rfl (by unfold rg; omega) (fun w17 w18 => ?_)
          have w19 : -9223372036854775808 ≤ (Xj S 910 ((((Xi S 950 ((r1).toNat)) + v4)).toNat)) ∧ (Xj S 910 ((((Xi S 950 ((r1).toNat)) + v4)).toNat)) < 9223372036854775808 := Xj_rg
          refine y_aload_n rfl rfl ?_
          refine y_gfr rfl rfl rfl rfl rfl (hH.r 904 7 910 rfl) ?_
          refine y_aload_n rfl rfl ?_
          refine y_gfr rfl rfl rfl rfl rfl (hH.r 904 67 950 rfl) ?_
          refine y_iload_n rfl rfl ?_
          refine y_ialoadP (n := 2600) rfl rfl (by unfold rg; omega) (fun w20 w21 => ?_)
          have w22 : -2147483648 ≤ (Xi S 950 ((s1).toNat)) ∧ (Xi S 950 ((s1).toNat)) ≤ 2147483647 := Xi_rgI
          refine y_iload rfl rfl ?_
          refine y_iadd rfl ?_
          refine y_laloadP (n := 5002) rfl rfl (by unfold rg; omega) (fun w23 w24 => ?_)
          have w25 : -9223372036854775808 ≤ (Xj S 910 ((((Xi S 950 ((s1).toNat)) + v4)).toNat)) ∧ (Xj S 910 ((((Xi S 950 ((s1).toNat)) + v4)).toNat)) < 9223372036854775808 := Xj_rg
          refine y_lcmp rfl (by unfold rgL; omega) (by unfold rgL; omega) (fun c26 w26 w26a w26b w26c => ?_)
          refine y_if_ne rfl rfl (by unfold rg; omega) (fun w27 => ?_) (fun w28 => ?_)
          · refine y_iconst rfl ?_
            refine y_istore_n rfl rfl rfl ?_
            refine y_iinc rfl rfl rfl rfl ?_
            refine y_goto rfl rfl ?_
            exact Pl_weak (ih24 (by omega) (0) ((v4 + 1)) (by omega) (by omega) (by omega) (by omega) (by first | exact fun _ => alK_0 | exact fun q => alK_s (E24 (by omega)) (by omega) (by omega) | exact fun q => absurd q (by omega)) (by first | exact fun q => absurd q (by omega) | exact fun q h => absurd h.1 (by omega) | exact fun q h => absurd (h.2 (v4) (by omega) (by omega)) (by omega)) (by omega)) (by omega) (And.intro rfl (And.intro rfl (And.intro rfl (And.intro rfl (And.intro rfl (True.intro))))))
          · refine y_iconst rfl ?_
            refine y_goto rfl rfl ?_
            refine y_istore_n rfl rfl rfl ?_
            refine y_iinc rfl rfl rfl rfl ?_
            refine y_goto rfl rfl ?_
            exact Pl_weak (ih24 (by omega) (1) ((v4 + 1)) (by omega) (by omega) (by omega) (by omega) (by first | exact fun _ => alK_0 | exact fun q => alK_s (E24 (by omega)) (by omega) (by omega) | exact fun q => absurd q (by omega)) (by first | exact fun q => absurd q (by omega) | exact fun q h => absurd h.1 (by omega) | exact fun q h => absurd (h.2 (v4) (by omega) (by omega)) (by omega)) (by omega)) (by omega) (And.intro rfl (And.intro rfl (And.intro rfl (And.intro rfl (And.intro rfl (True.intro))))))
  refine y_aload_n rfl rfl ?_
  refine y_gfr rfl rfl rfl rfl rfl (hH.r 904 68 951 rfl) ?_
  refine y_iload_n rfl rfl ?_
  refine y_ialoadP (n := 2600) rfl rfl (by unfold rg; omega) (fun w29 w30 => ?_)
  have w31 : -2147483648 ≤ (Xi S 951 ((r1).toNat)) ∧ (Xi S 951 ((r1).toNat)) ≤ 2147483647 := Xi_rgI
  refine y_aload_n rfl rfl ?_
  refine y_gfr rfl rfl rfl rfl rfl (hH.r 904 68 951 rfl) ?_
  refine y_iload_n rfl rfl ?_
  refine y_ialoadP (n := 2600) rfl rfl (by unfold rg; omega) (fun w32 w33 => ?_)
  have w34 : -2147483648 ≤ (Xi S 951 ((s1).toNat)) ∧ (Xi S 951 ((s1).toNat)) ≤ 2147483647 := Xi_rgI
  refine y_icmp_ne rfl rfl (by unfold rg; omega) (by unfold rg; omega) (fun w35 => ?_) (fun w36 => ?_)
  · refine y_iconst rfl ?_
    refine y_istore_n rfl rfl rfl ?_
    refine y_iconst rfl ?_
    refine y_istore rfl rfl rfl ?_
    exact Pl_weak (C24 fu (by omega) (0) (0) (by omega) (by omega) (by omega) (by omega) (by first | exact fun _ => alK_0 | exact fun q => alK_s (E24 (by omega)) (by omega) (by omega) | exact fun q => absurd q (by omega)) (by first | exact fun q => absurd q (by omega) | exact fun q h => absurd h.1 (by omega) | exact fun q h => absurd (h.2 (v4) (by omega) (by omega)) (by omega)) (by omega)) (by omega) (And.intro rfl (And.intro rfl (And.intro rfl (And.intro rfl (And.intro rfl (True.intro))))))
  · refine y_iconst rfl ?_
    refine y_goto rfl rfl ?_
    refine y_istore_n rfl rfl rfl ?_
    refine y_iconst rfl ?_
    refine y_istore rfl rfl rfl ?_
    exact Pl_weak (C24 fu (by omega) (1) (0) (by omega) (by omega) (by omega) (by omega) (by first | exact fun _ => alK_0 | exact fun q => alK_s (E24 (by omega)) (by omega) (by omega) | exact fun q => absurd q (by omega)) (by first | exact fun q => absurd q (by omega) | exact fun q h => absurd h.1 (by omega) | exact fun q h => absurd (h.2 (v4) (by omega) (by omega)) (by omega)) (by omega)) (by omega) (And.intro rfl (And.intro rfl (And.intro rfl (And.intro rfl (And.intro rfl (True.intro))))))
abbrev Q_mo_isBelow__p (S : sS) (kind : Int) (of_ : Int) : pst := fun r S1 => S = S1 ∧ (∃ z : Int, r = some (iv z) ∧ (0 ≤ z ∧ z ≤ 1) ∧ (z = blR S kind of_))
set_option maxRecDepth 100000 in
theorem t_mo_isBelow__p {S : sS} (hH : RI S) (kind : Int) (of_ : Int) (hkind : -1 ≤ kind ∧ kind ≤ 15) (hof_ : -2147483648 ≤ of_ ∧ of_ ≤ 2147483647) (hB : ABV S) (d : Nat) : Mp lay0 (d + 1) m_mo_isBelow [.ref 904, iv kind, iv of_] S (Q_mo_isBelow__p S kind of_) := by
  refine Mp_R rfl rfl (fun fu => ?_)
  have C2 : ∀ (n2 : Nat) (_ : n2 ≤ fu) (v3 : Int), (-2147483648 ≤ v3 ∧ v3 ≤ 15) → (v3 ≤ kind) → (blR S kind of_ = blR S v3 of_) → Pl n2 lay0 (d + 0) m_mo_isBelow 2 [(0, .ref 904), (2, iv of_), (3, iv v3)] [] S (Q_mo_isBelow__p S kind of_) := by
    intro n2
    induction n2 with
    | zero => intros; exact Pl_0
    | succ n2 ih2 =>
      intro hm2 v3 w1 w2 f2
      have C21 : ∀  (v3 : Int), (-2147483648 ≤ v3 ∧ v3 ≤ 15) → (v3 ≤ kind) → (blR S kind of_ = blR S v3 of_) → (v3 < 0 ∨ v3 ≠ of_ → blR S v3 of_ = 0) → Pl n2 lay0 (d + 0) m_mo_isBelow 21 [(2, iv of_), (3, iv v3)] [] S (Q_mo_isBelow__p S kind of_) := by
        intro v3 w3 w4 f21 g21
        refine y_iload_n rfl rfl ?_
        refine y_iload_n rfl rfl ?_
        refine y_icmp_ne rfl rfl (by unfold rg; omega) (by unfold rg; omega) (fun w5 => ?_) (fun w6 => ?_)
        · refine y_iconst rfl ?_
          refine y_ireturn rfl rfl ?_
          exact ⟨rfl, _, rfl, ⟨by omega, by omega⟩, (by first | (rw [f21]; exact (blR_e (by omega) (by omega)).symm) | (rw [f21]; exact (g21 (by omega)).symm))⟩
        · refine y_iload_n rfl rfl ?_
          refine y_if_lt rfl rfl (by unfold rg; omega) (fun w7 => ?_) (fun w8 => ?_)
          · refine y_iconst rfl ?_
            refine y_ireturn rfl rfl ?_
            exact ⟨rfl, _, rfl, ⟨by omega, by omega⟩, (by first | (rw [f21]; exact (blR_e (by omega) (by omega)).symm) | (rw [f21]; exact (g21 (by omega)).symm))⟩
          · refine y_iconst rfl ?_
            refine y_goto rfl rfl ?_
            refine y_ireturn rfl rfl ?_
            exact ⟨rfl, _, rfl, ⟨by omega, by omega⟩, (by first | (rw [f21]; exact (blR_e (by omega) (by omega)).symm) | (rw [f21]; exact (g21 (by omega)).symm))⟩
      refine ys_iload_n rfl rfl ?_
      refine y_if_lt rfl rfl (by unfold rg; omega) (fun w9 => ?_) (fun w10 => ?_)
      · exact Pl_weak (C21 (v3) (by omega) (by omega) (f2) (fun q => blR_n (by omega))) (by omega) (And.intro rfl (And.intro rfl (True.intro)))
      · refine y_iload_n rfl rfl ?_
        refine y_iload_n rfl rfl ?_
        refine y_icmp_eq rfl rfl (by unfold rg; omega) (by unfold rg; omega) (fun w11 => ?_) (fun w12 => ?_)
        · exact Pl_weak (C21 (v3) (by omega) (by omega) (f2) (fun q => blR_n (by omega))) (by omega) (And.intro rfl (And.intro rfl (True.intro)))
        · refine y_aload_n rfl rfl ?_
          refine y_gfr rfl rfl rfl rfl rfl (hH.r 904 17 917 rfl) ?_
          refine y_iload_n rfl rfl ?_
          refine y_ialoadP (n := 16) rfl rfl (by unfold rg; omega) (fun w13 w14 => ?_)
          have w15 : -2147483648 ≤ (Xi S 917 ((v3).toNat)) ∧ (Xi S 917 ((v3).toNat)) ≤ 2147483647 := Xi_rgI
          have b16 : (Xi S 917 ((v3).toNat)) < v3 := by have t := hB (v3).toNat (by omega); omega
          refine y_istore_n rfl rfl rfl ?_
          refine y_goto rfl rfl ?_
          exact Pl_weak (ih2 (by omega) ((Xi S 917 ((v3).toNat))) (by omega) (by omega) (by first | rfl | exact f2.trans (blR_s hB (by omega) (by omega) (by omega)))) (by omega) (And.intro rfl (And.intro rfl (And.intro rfl (True.intro))))
  refine y_iload_n rfl rfl ?_
  refine y_istore_n rfl rfl rfl ?_
  exact Pl_weak (C2 fu (by omega) (kind) (by omega) (by omega) (by first | rfl | exact f2.trans (blR_s hB (by omega) (by omega) (by omega)))) (by omega) (And.intro rfl (And.intro rfl (And.intro rfl (True.intro))))
abbrev Q_mo_has__p (S : sS) (kind : Int) (p : Int) : pst := fun r S1 => S = S1 ∧ (∃ z : Int, r = some (iv z) ∧ (0 ≤ z ∧ z ≤ 1) ∧ (z = hsR S kind p))
set_option maxRecDepth 100000 in
theorem t_mo_has__p {S : sS} (hH : RI S) (kind : Int) (p : Int) (hkind : -1 ≤ kind ∧ kind ≤ 15) (hp : 0 ≤ p ∧ p ≤ 11) (hB : ABV S) (d : Nat) : Mp lay0 (d + 1) m_mo_has [.ref 904, iv kind, iv p] S (Q_mo_has__p S kind p) := by
  refine Mp_R rfl rfl (fun fu => ?_)
  have C2 : ∀ (n2 : Nat) (_ : n2 ≤ fu) (v3 : Int), (-2147483648 ≤ v3 ∧ v3 ≤ 15) → (v3 ≤ kind) → (hsR S kind p = hsR S v3 p) → Pl n2 lay0 (d + 0) m_mo_has 2 [(0, .ref 904), (2, iv p), (3, iv v3)] [] S (Q_mo_has__p S kind p) := by
    intro n2
    induction n2 with
    | zero => intros; exact Pl_0
    | succ n2 ih2 =>
      intro hm2 v3 w1 w2 f2
      refine ys_iload_n rfl rfl ?_
      refine y_if_lt rfl rfl (by unfold rg; omega) (fun w3 => ?_) (fun w4 => ?_)
      · refine y_iconst rfl ?_
        refine y_ireturn rfl rfl ?_
        exact ⟨rfl, _, rfl, ⟨by omega, by omega⟩, (by first | (rw [f2]; exact (hsR_e (by omega) (by omega)).symm) | (rw [f2]; exact (hsR_n (by omega)).symm))⟩
      · refine y_aload_n rfl rfl ?_
        refine y_gfr rfl rfl rfl rfl rfl (hH.r 904 34 929 rfl) ?_
        refine y_bipush rfl rfl ?_
        refine y_iload_n rfl rfl ?_
        refine y_imul rfl ?_
        refine y_iload_n rfl rfl ?_
        refine y_iadd rfl ?_
        refine y_baloadP (n := 192) rfl rfl rfl (by decide) (by unfold rg; omega) (fun w5 w6 => ?_)
        have w7 : -2147483648 ≤ (Xi S 929 ((((12 * v3) + p)).toNat)) ∧ (Xi S 929 ((((12 * v3) + p)).toNat)) ≤ 2147483647 := Xi_rgI
        refine y_if_eq rfl rfl (by unfold rg; omega) (fun w8 => ?_) (fun w9 => ?_)
        · refine y_aload_n rfl rfl ?_
          refine y_gfr rfl rfl rfl rfl rfl (hH.r 904 17 917 rfl) ?_
          refine y_iload_n rfl rfl ?_
          refine y_ialoadP (n := 16) rfl rfl (by unfold rg; omega) (fun w10 w11 => ?_)
          have w12 : -2147483648 ≤ (Xi S 917 ((v3).toNat)) ∧ (Xi S 917 ((v3).toNat)) ≤ 2147483647 := Xi_rgI
          have b27 : (Xi S 917 ((v3).toNat)) < v3 := by have t := hB (v3).toNat (by omega); omega
          refine y_istore_n rfl rfl rfl ?_
          refine y_goto rfl rfl ?_
          exact Pl_weak (ih2 (by omega) ((Xi S 917 ((v3).toNat))) (by omega) (by omega) (by first | rfl | exact f2.trans (hsR_s hB (by omega) (by omega) (by omega)))) (by omega) (And.intro rfl (And.intro rfl (And.intro rfl (True.intro))))
        · refine y_iconst rfl ?_
          refine y_ireturn rfl rfl ?_
          exact ⟨rfl, _, rfl, ⟨by omega, by omega⟩, (by first | (rw [f2]; exact (hsR_e (by omega) (by omega)).symm) | (rw [f2]; exact (hsR_n (by omega)).symm))⟩
  refine y_iload_n rfl rfl ?_
  refine y_istore_n rfl rfl rfl ?_
  exact Pl_weak (C2 fu (by omega) (kind) (by omega) (by omega) (by first | rfl | exact f2.trans (hsR_s hB (by omega) (by omega) (by omega)))) (by omega) (And.intro rfl (And.intro rfl (And.intro rfl (True.intro))))
abbrev Q_mo_isNew__p (S : sS) (rn : Int) : pst := fun r S1 => S = S1 ∧ (∃ z : Int, r = some (iv z) ∧ (0 ≤ z ∧ z ≤ 1) ∧ ((z = 1 → nwR S rn) ∧ (z = 0 → ¬ nwR S rn)))
set_option maxRecDepth 100000 in
theorem t_mo_isNew__p {S : sS} (hH : RI S) (rn : Int) (hrn : -2147483648 ≤ rn ∧ rn ≤ 2147483647) (hLS : LSP S) (h15 : 0 ≤ Xi S 904 15) (hRB : RBD S) (hn0 : 0 ≤ Xi S 904 108) (d : Nat) : Mp lay0 (d + 3) m_mo_isNew [.ref 904, iv rn] S (Q_mo_isNew__p S rn) := by
  refine Mp_R rfl rfl (fun fu => ?_)
  have w1 : -2147483648 ≤ Xi S 904 108 ∧ Xi S 904 108 ≤ 2147483647 := Xi_rgI
  have w2 : -2147483648 ≤ Xi S 904 15 ∧ Xi S 904 15 ≤ 2147483647 := Xi_rgI
  have hrt := hRB rn.toNat
  have C38 : ∀ (n38 : Nat) (_ : n38 ≤ fu) (v2 : Int) (v3 : Int), (0 ≤ v2 ∧ v2 ≤ 1) → (-2147483648 ≤ v3 ∧ v3 ≤ 2147483647) → (0 ≤ v3 ∧ v3 ≤ Xi S 904 108) → (v2 = 1 → (Xi S 951 rn.toNat ≤ 3 ∧ rmR S rn = -1) ∧ ∀ k : Nat, (k : Int) < v3 → ¬ alR S rn (Xi S 966 k)) → (v2 = 0 → ¬ nwR S rn) → Pl n38 lay0 (d + 2) m_mo_isNew 38 [(0, .ref 904), (1, iv rn), (2, iv v2), (3, iv v3)] [] S (Q_mo_isNew__p S rn) := by
    intro n38
    induction n38 with
    | zero => intros; exact Pl_0
    | succ n38 ih38 =>
      intro hm38 v2 v3 w3 w4 w5 E38 F38
      have C76 : ∀  (v2 : Int), (0 ≤ v2 ∧ v2 ≤ 1) → (v2 = 1 → nwR S rn) → (v2 = 0 → ¬ nwR S rn) → Pl n38 lay0 (d + 2) m_mo_isNew 76 [(2, iv v2)] [] S (Q_mo_isNew__p S rn) := by
        intro v2 w6 E76 F76
        refine y_iload_n rfl rfl ?_
        refine y_ireturn rfl (retI_z (by omega)) ?_
        exact ⟨rfl, _, rfl, ⟨by omega, by omega⟩, (⟨E76, F76⟩)⟩
      refine ys_iload_n rfl rfl ?_
      refine y_aload_n rfl rfl ?_
      refine y_gfi rfl rfl rfl rfl rfl ?_
      refine y_icmp_ge rfl rfl (by unfold rg; omega) (by unfold rg; omega) (fun w7 => ?_) (fun w8 => ?_)
      · exact Pl_weak (C76 (v2) (by omega) (fun q => ⟨(E38 q).1.1, (E38 q).1.2, fun k hk => (E38 q).2 k (by omega)⟩) (F38)) (by omega) (And.intro rfl (True.intro))
      · refine y_iload_n rfl rfl ?_
        refine y_if_eq rfl rfl (by unfold rg; omega) (fun w9 => ?_) (fun w10 => ?_)
        · exact Pl_weak (C76 (v2) (by omega) (fun q => ⟨(E38 q).1.1, (E38 q).1.2, fun k hk => (E38 q).2 k (by omega)⟩) (F38)) (by omega) (And.intro rfl (True.intro))
        · refine y_aload_n rfl rfl ?_
          refine y_iload_n rfl rfl ?_
          refine y_aload_n rfl rfl ?_
          refine y_gfr rfl rfl rfl rfl rfl (hH.r 904 107 966 rfl) ?_
          refine y_iload_n rfl rfl ?_
          refine y_ialoadP (n := 2600) rfl rfl (by unfold rg; omega) (fun w11 w12 => ?_)
          have w13 : -2147483648 ≤ (Xi S 966 ((v3).toNat)) ∧ (Xi S 966 ((v3).toNat)) ≤ 2147483647 := Xi_rgI
          refine y_callV rfl rfl rfl (t_mo_isAlike__p hH rn (Xi S 966 ((v3).toNat)) ⟨by omega, by omega⟩ ⟨by omega, by omega⟩ (by first | assumption | exact (by assumption : RBD S)) _) ?_
          rintro _ _ ⟨rfl, z14, rfl, w14, f58_⟩
          show Pl _ _ _ _ _ _ [iv z14] _ _
          have f58 : (z14 = 1 → alR S rn (Xi S 966 (v3).toNat)) ∧ (z14 = 0 → ¬ alR S rn (Xi S 966 (v3).toNat)) := f58_
          refine y_if_ne rfl rfl (by unfold rg; omega) (fun w15 => ?_) (fun w16 => ?_)
          · refine y_iconst rfl ?_
            refine y_istore_n rfl rfl rfl ?_
            refine y_iinc rfl rfl rfl rfl ?_
            refine y_goto rfl rfl ?_
            exact Pl_weak (ih38 (by omega) (0) ((v3 + 1)) (by omega) (by omega) (by omega) (by first | exact fun q => absurd q (by omega) | exact fun q => ⟨⟨by omega, by omega⟩, fun k hk => absurd hk (by omega)⟩ | exact fun q => ⟨(E38 (by omega)).1, fun k hk => (Int.lt_or_le (k : Int) v3).elim (fun h => (E38 (by omega)).2 k h) (fun h => by rw [show k = (v3).toNat by omega]; exact f58.2 (by omega))⟩) (by first | exact fun q => absurd q (by omega) | exact fun q h => h.2.2 (v3).toNat (by omega) (f58.1 (by omega)) | exact fun q h => absurd h.1 (by omega) | exact fun q h => absurd h.2.1 (by omega))) (by omega) (And.intro rfl (And.intro rfl (And.intro rfl (And.intro rfl (True.intro)))))
          · refine y_iconst rfl ?_
            refine y_goto rfl rfl ?_
            refine y_istore_n rfl rfl rfl ?_
            refine y_iinc rfl rfl rfl rfl ?_
            refine y_goto rfl rfl ?_
            exact Pl_weak (ih38 (by omega) (1) ((v3 + 1)) (by omega) (by omega) (by omega) (by first | exact fun q => absurd q (by omega) | exact fun q => ⟨⟨by omega, by omega⟩, fun k hk => absurd hk (by omega)⟩ | exact fun q => ⟨(E38 (by omega)).1, fun k hk => (Int.lt_or_le (k : Int) v3).elim (fun h => (E38 (by omega)).2 k h) (fun h => by rw [show k = (v3).toNat by omega]; exact f58.2 (by omega))⟩) (by first | exact fun q => absurd q (by omega) | exact fun q h => h.2.2 (v3).toNat (by omega) (f58.1 (by omega)) | exact fun q h => absurd h.1 (by omega) | exact fun q h => absurd h.2.1 (by omega))) (by omega) (And.intro rfl (And.intro rfl (And.intro rfl (And.intro rfl (True.intro)))))
  refine y_aload_n rfl rfl ?_
  refine y_gfr rfl rfl rfl rfl rfl (hH.r 904 68 951 rfl) ?_
  refine y_iload_n rfl rfl ?_
  refine y_ialoadP (n := 2600) rfl rfl (by unfold rg; omega) (fun w17 w18 => ?_)
  have w19 : -2147483648 ≤ (Xi S 951 ((rn).toNat)) ∧ (Xi S 951 ((rn).toNat)) ≤ 2147483647 := Xi_rgI
  refine y_iconst rfl ?_
  refine y_icmp_gt rfl rfl (by unfold rg; omega) (by unfold rg; omega) (fun w20 => ?_) (fun w21 => ?_)
  · refine y_iconst rfl ?_
    refine y_istore_n rfl rfl rfl ?_
    refine y_iconst rfl ?_
    refine y_istore_n rfl rfl rfl ?_
    exact Pl_weak (C38 fu (by omega) (0) (0) (by omega) (by omega) (by omega) (by first | exact fun q => absurd q (by omega) | exact fun q => ⟨⟨by omega, by omega⟩, fun k hk => absurd hk (by omega)⟩ | exact fun q => ⟨(E38 (by omega)).1, fun k hk => (Int.lt_or_le (k : Int) v3).elim (fun h => (E38 (by omega)).2 k h) (fun h => by rw [show k = (v3).toNat by omega]; exact f58.2 (by omega))⟩) (by first | exact fun q => absurd q (by omega) | exact fun q h => h.2.2 (v3).toNat (by omega) (f58.1 (by omega)) | exact fun q h => absurd h.1 (by omega) | exact fun q h => absurd h.2.1 (by omega))) (by omega) (And.intro rfl (And.intro rfl (And.intro rfl (And.intro rfl (True.intro)))))
  · refine y_aload_n rfl rfl ?_
    refine y_aload_n rfl rfl ?_
    refine y_gfr rfl rfl rfl rfl rfl (hH.r 904 67 950 rfl) ?_
    refine y_iload_n rfl rfl ?_
    refine y_ialoadP (n := 2600) rfl rfl (by unfold rg; omega) (fun w22 w23 => ?_)
    have w24 : -2147483648 ≤ (Xi S 950 ((rn).toNat)) ∧ (Xi S 950 ((rn).toNat)) ≤ 2147483647 := Xi_rgI
    refine y_aload_n rfl rfl ?_
    refine y_gfr rfl rfl rfl rfl rfl (hH.r 904 68 951 rfl) ?_
    refine y_iload_n rfl rfl ?_
    refine y_ialoadP (n := 2600) rfl rfl (by unfold rg; omega) (fun w25 w26 => ?_)
    refine y_callV rfl rfl rfl (t_mo_mean__p hH (Xi S 950 ((rn).toNat)) (Xi S 951 ((rn).toNat)) ⟨by omega, by omega⟩ ⟨by omega, by omega⟩ (by first | assumption | exact (by assumption : LSP S)) (by first | assumption | omega) _) ?_
    rintro _ _ ⟨rfl, z27, rfl, w27, f23⟩
    show Pl _ _ _ _ _ _ [iv z27] _ _
    have m23 : z27 = rmR S rn := f23
    refine y_iconst rfl ?_
    refine y_icmp_ne rfl rfl (by unfold rg; omega) (by unfold rg; omega) (fun w28 => ?_) (fun w29 => ?_)
    · refine y_iconst rfl ?_
      refine y_istore_n rfl rfl rfl ?_
      refine y_iconst rfl ?_
      refine y_istore_n rfl rfl rfl ?_
      exact Pl_weak (C38 fu (by omega) (0) (0) (by omega) (by omega) (by omega) (by first | exact fun q => absurd q (by omega) | exact fun q => ⟨⟨by omega, by omega⟩, fun k hk => absurd hk (by omega)⟩ | exact fun q => ⟨(E38 (by omega)).1, fun k hk => (Int.lt_or_le (k : Int) v3).elim (fun h => (E38 (by omega)).2 k h) (fun h => by rw [show k = (v3).toNat by omega]; exact f58.2 (by omega))⟩) (by first | exact fun q => absurd q (by omega) | exact fun q h => h.2.2 (v3).toNat (by omega) (f58.1 (by omega)) | exact fun q h => absurd h.1 (by omega) | exact fun q h => absurd h.2.1 (by omega))) (by omega) (And.intro rfl (And.intro rfl (And.intro rfl (And.intro rfl (True.intro)))))
    · refine y_iconst rfl ?_
      refine y_goto rfl rfl ?_
      refine y_istore_n rfl rfl rfl ?_
      refine y_iconst rfl ?_
      refine y_istore_n rfl rfl rfl ?_
      exact Pl_weak (C38 fu (by omega) (1) (0) (by omega) (by omega) (by omega) (by first | exact fun q => absurd q (by omega) | exact fun q => ⟨⟨by omega, by omega⟩, fun k hk => absurd hk (by omega)⟩ | exact fun q => ⟨(E38 (by omega)).1, fun k hk => (Int.lt_or_le (k : Int) v3).elim (fun h => (E38 (by omega)).2 k h) (fun h => by rw [show k = (v3).toNat by omega]; exact f58.2 (by omega))⟩) (by first | exact fun q => absurd q (by omega) | exact fun q h => h.2.2 (v3).toNat (by omega) (f58.1 (by omega)) | exact fun q h => absurd h.1 (by omega) | exact fun q h => absurd h.2.1 (by omega))) (by omega) (And.intro rfl (And.intro rfl (And.intro rfl (And.intro rfl (True.intro)))))
def md_mo_mustBeNew__p : List rec := [(904, 905, 104, 105), (904, 905, 105, 106), (904, 905, 106, 107), (904, 905, 108, 109), (966, 967, 0, 100000)]
abbrev Q_mo_mustBeNew__p (S : sS) (rn : Int) (there : Int) (most : Int) : pst := fun r S1 => RI S1 ∧ FR md_mo_mustBeNew__p S S1 ∧ (r = none ∧ (nwR S rn → NT3 S1 = (if there < most then NT3 S else ntF (NT3 S) 9 (Xi S 908 (Xi S 950 rn.toNat).toNat)) ∧ Xi S1 904 108 = Xi S 904 108 + 1 ∧ Xi S1 966 (Xi S 904 108).toNat = rn ∧ ∀ k : Nat, (k : Int) < Xi S 904 108 → Xi S1 966 k = Xi S 966 k) ∧ (¬ nwR S rn → NT3 S1 = ntF (NT3 S) 3 (Xi S 908 (Xi S 950 rn.toNat).toNat) ∧ Xi S1 904 108 = Xi S 904 108 ∧ ∀ k : Nat, Xi S1 966 k = Xi S 966 k))
set_option maxRecDepth 100000 in
theorem t_mo_mustBeNew__p {S : sS} (hH : RI S) (rn : Int) (there : Int) (most : Int) (hrn : -2147483648 ≤ rn ∧ rn ≤ 2147483647) (hthere : -2147483648 ≤ there ∧ there ≤ 2147483647) (hmost : -2147483648 ≤ most ∧ most ≤ 2147483647) (hLS : LSP S) (h15 : 0 ≤ Xi S 904 15) (hRB : RBD S) (hn0 : 0 ≤ Xi S 904 108) (d : Nat) : Mp lay0 (d + 4) m_mo_mustBeNew [.ref 904, iv rn, iv there, iv most] S (Q_mo_mustBeNew__p S rn there most) := by
  refine Mp_R rfl rfl (fun fu => ?_)
  have hF : FR md_mo_mustBeNew__p S S := FR.rf
  have w1 : -2147483648 ≤ Xi S 904 108 ∧ Xi S 904 108 ≤ 2147483647 := Xi_rgI
  have w2 : -2147483648 ≤ Xi S 904 15 ∧ Xi S 904 15 ≤ 2147483647 := Xi_rgI
  refine y_aload_n rfl rfl ?_
  refine y_iload_n rfl rfl ?_
  refine y_callV rfl rfl rfl (t_mo_isNew__p hH rn ⟨by omega, by omega⟩ (by first | assumption | exact (LSP_FR hF rfl rfl (by assumption : LSP S))) (by first | assumption | omega) (by first | assumption | exact (RBD_FR hF rfl (by assumption : RBD S))) (by first | assumption | omega) _) ?_
  rintro _ _ ⟨rfl, z3, rfl, w3, f2⟩
  show Pl _ _ _ _ _ _ [iv z3] _ _
  refine y_if_eq rfl rfl (by unfold rg; omega) (fun w4 => ?_) (fun w5 => ?_)
  · refine y_aload_n rfl rfl ?_
    refine y_iconst rfl ?_
    refine y_aload_n rfl rfl ?_
    refine y_gfr rfl rfl rfl rfl rfl (hH.r 904 67 950 rfl) ?_
    refine y_iload_n rfl rfl ?_
    refine y_ialoadP (n := 2600) rfl rfl (by unfold rg; omega) (fun w6 w7 => ?_)
    have w8 : -2147483648 ≤ (Xi S 950 ((rn).toNat)) ∧ (Xi S 950 ((rn).toNat)) ≤ 2147483647 := Xi_rgI
    refine y_callV rfl rfl rfl (t_mo_note__p hH 3 (Xi S 950 ((rn).toNat)) ⟨by omega, by omega⟩ ⟨by omega, by omega⟩ _) ?_
    rintro _ T1 ⟨hHT1, w10, rfl, n61⟩
    have hFT1 : FR md_mo_mustBeNew__p S T1 := FR.tr hF w10 rfl
    show Pl _ _ _ _ _ _ [] _ _
    have Y61 : NT3 T1 = ntF (NT3 S) 3 (Xi S 908 (Xi S 950 rn.toNat).toNat) ∧ Xi T1 904 108 = Xi S 904 108 ∧ ∀ k : Nat, Xi T1 966 k = Xi S 966 k := ⟨n61, (by assumption : FR md_mo_note__p S T1).x 904 108 rfl, fun k => ((by assumption : FR md_mo_note__p S T1).cx 966 rfl k).1⟩
    refine y_return rfl rfl ?_
    have w11 : Xi T1 904 108 = Xi S 904 108 := (show Xi T1 904 108 = Xi S 904 108 from w10.x _ _ rfl)
    exact ⟨hHT1, hFT1, rfl, (fun q => by first | exact Y47 | exact absurd q (f2.2 (by omega))), (fun q => by first | exact Y61 | exact absurd (f2.1 (by omega)) q)⟩
  · refine y_aload_n rfl rfl ?_
    refine y_iload_n rfl rfl ?_
    refine y_iload_n rfl rfl ?_
    refine y_icmp_ge rfl rfl (by unfold rg; omega) (by unfold rg; omega) (fun w12 => ?_) (fun w13 => ?_)
    · refine y_iconst rfl ?_
      refine y_bipush rfl rfl ?_
      refine y_aload_n rfl rfl ?_
      refine y_gfr rfl rfl rfl rfl rfl (hH.r 904 67 950 rfl) ?_
      refine y_iload_n rfl rfl ?_
      refine y_ialoadP (n := 2600) rfl rfl (by unfold rg; omega) (fun w14 w15 => ?_)
      have w16 : -2147483648 ≤ (Xi S 950 ((rn).toNat)) ∧ (Xi S 950 ((rn).toNat)) ≤ 2147483647 := Xi_rgI
      refine y_callV rfl rfl rfl (t_mo_need__p hH 0 9 (Xi S 950 ((rn).toNat)) ⟨by omega, by omega⟩ ⟨by omega, by omega⟩ ⟨by omega, by omega⟩ _) ?_
      rintro _ T2 ⟨hHT2, w18, rfl, n27⟩
      have hFT2 : FR md_mo_mustBeNew__p S T2 := FR.tr hF w18 rfl
      show Pl _ _ _ _ _ _ [] _ _
      refine y_aload_n rfl rfl ?_
      refine y_gfr rfl rfl rfl rfl rfl (hHT2.r 904 107 966 rfl) ?_
      refine y_aload_n rfl rfl ?_
      refine y_gfi rfl rfl rfl rfl rfl ?_
      have w19 : (Xi T2 904 108) = (Xi S 904 108) := (show Xi T2 904 108 = Xi S 904 108 from w18.x _ _ rfl)
      rw [w19]
      refine y_iload_n rfl rfl ?_
      refine y_iastoreP (n := 2600) rfl rfl (by unfold rg; omega) (fun w20 w21 => ?_)
      obtain ⟨U3, eU3⟩ : ∃ T : sS, T = uI T2 966 (((Xi S 904 108)).toNat) (Int32.ofInt rn) := ⟨_, rfl⟩
      rw [← eU3]
      have hHU3 : RI U3 := by rw [eU3]; exact RI_w hHT2
      have hFU3 : FR md_mo_mustBeNew__p S U3 := by rw [eU3]; exact FR.wI hFT2 (mdf_i (r := (966, 967, 0, 100000)) (List.mem_of_getElem? (i := 4) rfl) (inR_i (by omega) (by omega) (by omega) (by omega)))
      have w22 : Xi U3 966 (((Xi S 904 108)).toNat) = rn := by rw [eU3]; exact Xi_same (by unfold rg; omega)
      refine y_aload_n rfl rfl ?_
      refine y_dup rfl rfl ?_
      refine y_gfi rfl rfl rfl rfl rfl ?_
      have w23 : (Xi U3 904 108) = (Xi S 904 108) := (show Xi U3 904 108 = Xi T2 904 108 from by rw [eU3]; exact Xi_ne (by omega)).trans ((show Xi T2 904 108 = Xi S 904 108 from w18.x _ _ rfl))
      rw [w23]
      refine y_iconst rfl ?_
      refine y_iadd rfl ?_
      refine y_pfi rfl rfl rfl rfl ?_
      obtain ⟨U4, eU4⟩ : ∃ T : sS, T = uI U3 904 108 (Int32.ofInt ((Xi S 904 108) + 1)) := ⟨_, rfl⟩
      rw [← eU4]
      have hHU4 : RI U4 := by rw [eU4]; exact RI_w hHU3
      have hFU4 : FR md_mo_mustBeNew__p S U4 := by rw [eU4]; exact FR.wI hFU3 (mdf_i (r := (904, 905, 108, 109)) (List.mem_of_getElem? (i := 3) rfl) (inR_i (by omega) (by omega) (by omega) (by omega)))
      have w24 : Xi U4 904 108 = ((Xi S 904 108) + 1) := by rw [eU4]; exact Xi_same (by unfold rg; omega)
      have N47 : NT3 U4 = if there < most then NT3 S else ntF (NT3 S) 9 (Xi S 908 (Xi S 950 rn.toNat).toNat) := (NT3_FR (FR_e eU4) rfl).trans ((NT3_FR (FR_e eU3) rfl).trans (n27.trans (by first | (rw [if_neg (by omega), if_pos (by omega)]) | (rw [if_pos (by omega), if_neg (by omega)]))))
      have Y47 : NT3 U4 = (if there < most then NT3 S else ntF (NT3 S) 9 (Xi S 908 (Xi S 950 rn.toNat).toNat)) ∧ Xi U4 904 108 = Xi S 904 108 + 1 ∧ Xi U4 966 (Xi S 904 108).toNat = rn ∧ ∀ k : Nat, (k : Int) < Xi S 904 108 → Xi U4 966 k = Xi S 966 k := ⟨N47, by omega, by rw [eU4, Xi_ne (by omega), eU3]; exact Xi_same (by unfold rg; omega), fun k hk => by rw [eU4, Xi_ne (by omega), eU3, Xi_ne (by omega)]; exact ((by assumption : FR md_mo_need__p S _).cx 966 rfl k).1⟩
      refine y_goto rfl rfl ?_
      refine y_return rfl rfl ?_
      exact ⟨hHU4, hFU4, rfl, (fun q => by first | exact Y47 | exact absurd q (f2.2 (by omega))), (fun q => by first | exact Y61 | exact absurd (f2.1 (by omega)) q)⟩
    · refine y_iconst rfl ?_
      refine y_goto rfl rfl ?_
      refine y_bipush rfl rfl ?_
      refine y_aload_n rfl rfl ?_
      refine y_gfr rfl rfl rfl rfl rfl (hH.r 904 67 950 rfl) ?_
      refine y_iload_n rfl rfl ?_
      refine y_ialoadP (n := 2600) rfl rfl (by unfold rg; omega) (fun w25 w26 => ?_)
      have w27 : -2147483648 ≤ (Xi S 950 ((rn).toNat)) ∧ (Xi S 950 ((rn).toNat)) ≤ 2147483647 := Xi_rgI
      refine y_callV rfl rfl rfl (t_mo_need__p hH 1 9 (Xi S 950 ((rn).toNat)) ⟨by omega, by omega⟩ ⟨by omega, by omega⟩ ⟨by omega, by omega⟩ _) ?_
      rintro _ T5 ⟨hHT5, w29, rfl, n27⟩
      have hFT5 : FR md_mo_mustBeNew__p S T5 := FR.tr hF w29 rfl
      show Pl _ _ _ _ _ _ [] _ _
      refine y_aload_n rfl rfl ?_
      refine y_gfr rfl rfl rfl rfl rfl (hHT5.r 904 107 966 rfl) ?_
      refine y_aload_n rfl rfl ?_
      refine y_gfi rfl rfl rfl rfl rfl ?_
      have w30 : (Xi T5 904 108) = (Xi S 904 108) := (show Xi T5 904 108 = Xi S 904 108 from w29.x _ _ rfl)
      rw [w30]
      refine y_iload_n rfl rfl ?_
      refine y_iastoreP (n := 2600) rfl rfl (by unfold rg; omega) (fun w31 w32 => ?_)
      obtain ⟨U6, eU6⟩ : ∃ T : sS, T = uI T5 966 (((Xi S 904 108)).toNat) (Int32.ofInt rn) := ⟨_, rfl⟩
      rw [← eU6]
      have hHU6 : RI U6 := by rw [eU6]; exact RI_w hHT5
      have hFU6 : FR md_mo_mustBeNew__p S U6 := by rw [eU6]; exact FR.wI hFT5 (mdf_i (r := (966, 967, 0, 100000)) (List.mem_of_getElem? (i := 4) rfl) (inR_i (by omega) (by omega) (by omega) (by omega)))
      have w33 : Xi U6 966 (((Xi S 904 108)).toNat) = rn := by rw [eU6]; exact Xi_same (by unfold rg; omega)
      refine y_aload_n rfl rfl ?_
      refine y_dup rfl rfl ?_
      refine y_gfi rfl rfl rfl rfl rfl ?_
      have w34 : (Xi U6 904 108) = (Xi S 904 108) := (show Xi U6 904 108 = Xi T5 904 108 from by rw [eU6]; exact Xi_ne (by omega)).trans ((show Xi T5 904 108 = Xi S 904 108 from w29.x _ _ rfl))
      rw [w34]
      refine y_iconst rfl ?_
      refine y_iadd rfl ?_
      refine y_pfi rfl rfl rfl rfl ?_
      obtain ⟨U7, eU7⟩ : ∃ T : sS, T = uI U6 904 108 (Int32.ofInt ((Xi S 904 108) + 1)) := ⟨_, rfl⟩
      rw [← eU7]
      have hHU7 : RI U7 := by rw [eU7]; exact RI_w hHU6
      have hFU7 : FR md_mo_mustBeNew__p S U7 := by rw [eU7]; exact FR.wI hFU6 (mdf_i (r := (904, 905, 108, 109)) (List.mem_of_getElem? (i := 3) rfl) (inR_i (by omega) (by omega) (by omega) (by omega)))
      have w35 : Xi U7 904 108 = ((Xi S 904 108) + 1) := by rw [eU7]; exact Xi_same (by unfold rg; omega)
      have N47 : NT3 U7 = if there < most then NT3 S else ntF (NT3 S) 9 (Xi S 908 (Xi S 950 rn.toNat).toNat) := (NT3_FR (FR_e eU7) rfl).trans ((NT3_FR (FR_e eU6) rfl).trans (n27.trans (by first | (rw [if_neg (by omega), if_pos (by omega)]) | (rw [if_pos (by omega), if_neg (by omega)]))))
      have Y47 : NT3 U7 = (if there < most then NT3 S else ntF (NT3 S) 9 (Xi S 908 (Xi S 950 rn.toNat).toNat)) ∧ Xi U7 904 108 = Xi S 904 108 + 1 ∧ Xi U7 966 (Xi S 904 108).toNat = rn ∧ ∀ k : Nat, (k : Int) < Xi S 904 108 → Xi U7 966 k = Xi S 966 k := ⟨N47, by omega, by rw [eU7, Xi_ne (by omega), eU6]; exact Xi_same (by unfold rg; omega), fun k hk => by rw [eU7, Xi_ne (by omega), eU6, Xi_ne (by omega)]; exact ((by assumption : FR md_mo_need__p S _).cx 966 rfl k).1⟩
      refine y_goto rfl rfl ?_
      refine y_return rfl rfl ?_
      exact ⟨hHU7, hFU7, rfl, (fun q => by first | exact Y47 | exact absurd q (f2.2 (by omega))), (fun q => by first | exact Y61 | exact absurd (f2.1 (by omega)) q)⟩
def md_mo_kindOfRun__p : List rec := [(904, 905, 104, 105), (904, 905, 105, 106), (904, 905, 106, 107)]
abbrev Q_mo_kindOfRun__p (S : sS) (rn : Int) : pst := fun r S1 => RI S1 ∧ FR md_mo_kindOfRun__p S S1 ∧ (∃ z : Int, r = some (iv z) ∧ (-2147483648 ≤ z ∧ z ≤ 2147483647) ∧ (z = rnR S rn 0) ∧ (NT3 S1 = if rnR S rn 0 = -1 then ntF (NT3 S) 4 (Xi S 908 (Xi S 950 rn.toNat).toNat) else NT3 S))
set_option maxRecDepth 100000 in
theorem t_mo_kindOfRun__p {S : sS} (hH : RI S) (rn : Int) (hrn : -2147483648 ≤ rn ∧ rn ≤ 2147483647) (hLS : LSP S) (h15 : 0 ≤ Xi S 904 15) (hRB : RBD S) (d : Nat) : Mp lay0 (d + 5) m_mo_kindOfRun [.ref 904, iv rn] S (Q_mo_kindOfRun__p S rn) := by
  refine Mp_R rfl rfl (fun fu => ?_)
  have hF : FR md_mo_kindOfRun__p S S := FR.rf
  have w1 : -2147483648 ≤ Xi S 904 15 ∧ Xi S 904 15 ≤ 2147483647 := Xi_rgI
  have hrt := hRB rn.toNat
  refine y_aload_n rfl rfl ?_
  refine y_iload_n rfl rfl ?_
  refine y_iconst rfl ?_
  refine y_callV rfl rfl rfl (t_mo_meansRun__p hH rn 0 ⟨by omega, by omega⟩ ⟨by omega, by omega⟩ (by first | assumption | exact (LSP_FR hF rfl rfl (by assumption : LSP S))) (by first | assumption | omega) (by first | assumption | exact (RBD_FR hF rfl (by assumption : RBD S))) _) ?_
  rintro _ _ ⟨rfl, z2, rfl, w2, f3⟩
  show Pl _ _ _ _ _ _ [iv z2] _ _
  refine y_istore_n rfl rfl rfl ?_
  refine y_aload_n rfl rfl ?_
  refine y_iload_n rfl rfl ?_
  refine y_iconst rfl ?_
  refine y_icmp_eq rfl rfl (by unfold rg; omega) (by unfold rg; omega) (fun w3 => ?_) (fun w4 => ?_)
  · refine y_iconst rfl ?_
    refine y_iconst rfl ?_
    refine y_aload_n rfl rfl ?_
    refine y_gfr rfl rfl rfl rfl rfl (hH.r 904 67 950 rfl) ?_
    refine y_iload_n rfl rfl ?_
    refine y_ialoadP (n := 2600) rfl rfl (by unfold rg; omega) (fun w5 w6 => ?_)
    have w7 : -2147483648 ≤ (Xi S 950 ((rn).toNat)) ∧ (Xi S 950 ((rn).toNat)) ≤ 2147483647 := Xi_rgI
    refine y_callV rfl rfl rfl (t_mo_need__p hH 0 4 (Xi S 950 ((rn).toNat)) ⟨by omega, by omega⟩ ⟨by omega, by omega⟩ ⟨by omega, by omega⟩ _) ?_
    rintro _ T1 ⟨hHT1, w10, rfl, w8⟩
    have hFT1 : FR md_mo_kindOfRun__p S T1 := FR.tr hF w10 rfl
    show Pl _ _ _ _ _ _ [] _ _
    refine y_iload_n rfl rfl ?_
    refine y_ireturn rfl rfl ?_
    exact ⟨hHT1, hFT1, _, rfl, ⟨by omega, by omega⟩, (by assumption), (by rw [← f3]; refine (by assumption : NT3 T1 = _).trans ?_; first | (rw [if_neg (by omega), if_neg (by omega)]) | (rw [if_pos (by omega), if_pos (by omega)]))⟩
  · refine y_iconst rfl ?_
    refine y_goto rfl rfl ?_
    refine y_iconst rfl ?_
    refine y_aload_n rfl rfl ?_
    refine y_gfr rfl rfl rfl rfl rfl (hH.r 904 67 950 rfl) ?_
    refine y_iload_n rfl rfl ?_
    refine y_ialoadP (n := 2600) rfl rfl (by unfold rg; omega) (fun w11 w12 => ?_)
    have w13 : -2147483648 ≤ (Xi S 950 ((rn).toNat)) ∧ (Xi S 950 ((rn).toNat)) ≤ 2147483647 := Xi_rgI
    refine y_callV rfl rfl rfl (t_mo_need__p hH 1 4 (Xi S 950 ((rn).toNat)) ⟨by omega, by omega⟩ ⟨by omega, by omega⟩ ⟨by omega, by omega⟩ _) ?_
    rintro _ T2 ⟨hHT2, w16, rfl, w14⟩
    have hFT2 : FR md_mo_kindOfRun__p S T2 := FR.tr hF w16 rfl
    show Pl _ _ _ _ _ _ [] _ _
    refine y_iload_n rfl rfl ?_
    refine y_ireturn rfl rfl ?_
    exact ⟨hHT2, hFT2, _, rfl, ⟨by omega, by omega⟩, (by assumption), (by rw [← f3]; refine (by assumption : NT3 T2 = _).trans ?_; first | (rw [if_neg (by omega), if_neg (by omega)]) | (rw [if_pos (by omega), if_pos (by omega)]))⟩
def md_mo_tell__p : List rec := [(904, 905, 15, 16), (912, 913, 0, 100000), (913, 914, 0, 100000), (914, 915, 0, 100000), (915, 916, 0, 100000), (916, 917, 0, 100000)]
abbrev Q_mo_tell__p (S : sS) (so : Int) (ix : Int) (a : Int) (b : Int) (c : Int) (m : Int) : pst := fun r S1 => RI S1 ∧ FR md_mo_tell__p S S1 ∧ (r = none ∧ (TLR S S1 so ix a b c m))
set_option maxRecDepth 100000 in
theorem t_mo_tell__p {S : sS} (hH : RI S) (so : Int) (ix : Int) (a : Int) (b : Int) (c : Int) (m : Int) (hso : -2147483648 ≤ so ∧ so ≤ 2147483647) (hix : -2147483648 ≤ ix ∧ ix ≤ 2147483647) (hm : -2147483648 ≤ m ∧ m ≤ 2147483647) (ra : rgL a) (rb : rgL b) (rc : rgL c) (d : Nat) : Mp lay0 (d + 1) m_mo_tell [.ref 904, iv so, iv ix, jw a, jw b, jw c, iv m] S (Q_mo_tell__p S so ix a b c m) := by
  refine Mp_R rfl rfl (fun fu => ?_)
  have hF : FR md_mo_tell__p S S := FR.rf
  refine y_aload_n rfl rfl ?_
  refine y_gfr rfl rfl rfl rfl rfl (hH.r 904 10 912 rfl) ?_
  refine y_aload_n rfl rfl ?_
  refine y_gfi rfl rfl rfl rfl rfl ?_
  have w1 : -2147483648 ≤ (Xi S 904 15) ∧ (Xi S 904 15) ≤ 2147483647 := Xi_rgI
  refine y_iload rfl rfl ?_
  refine y_iastoreP (n := 300) rfl rfl (by unfold rg; omega) (fun w2 w3 => ?_)
  obtain ⟨U1, eU1⟩ : ∃ T : sS, T = uI S 912 (((Xi S 904 15)).toNat) (Int32.ofInt m) := ⟨_, rfl⟩
  rw [← eU1]
  have hHU1 : RI U1 := by rw [eU1]; exact RI_w hH
  have hFU1 : FR md_mo_tell__p S U1 := by rw [eU1]; exact FR.wI hF (mdf_i (r := (912, 913, 0, 100000)) (List.mem_of_getElem? (i := 1) rfl) (inR_i (by omega) (by omega) (by omega) (by omega)))
  have w4 : Xi U1 912 (((Xi S 904 15)).toNat) = m := by rw [eU1]; exact Xi_same (by unfold rg; omega)
  refine y_aload_n rfl rfl ?_
  refine y_gfr rfl rfl rfl rfl rfl (hHU1.r 904 11 913 rfl) ?_
  refine y_iconst rfl ?_
  refine y_aload_n rfl rfl ?_
  refine y_gfi rfl rfl rfl rfl rfl ?_
  have w5 : (Xi U1 904 15) = (Xi S 904 15) := (show Xi U1 904 15 = Xi S 904 15 from by rw [eU1]; exact Xi_ne (by omega))
  rw [w5]
  refine y_imul rfl ?_
  refine y_lload_n rfl rfl ?_
  refine y_lastoreP (n := 900) rfl rfl (by unfold rg; omega) (fun w6 w7 => ?_)
  obtain ⟨U2, eU2⟩ : ∃ T : sS, T = uJ U1 913 (((3 * (Xi S 904 15))).toNat) (Int64.ofInt a) := ⟨_, rfl⟩
  rw [← eU2]
  have hHU2 : RI U2 := by rw [eU2]; exact RI_J hHU1
  have hFU2 : FR md_mo_tell__p S U2 := by rw [eU2]; exact FR.wJ hFU1 (mdf_i (r := (913, 914, 0, 100000)) (List.mem_of_getElem? (i := 2) rfl) (inR_i (by omega) (by omega) (by omega) (by omega)))
  refine y_aload_n rfl rfl ?_
  refine y_gfr rfl rfl rfl rfl rfl (hHU2.r 904 11 913 rfl) ?_
  refine y_iconst rfl ?_
  refine y_aload_n rfl rfl ?_
  refine y_gfi rfl rfl rfl rfl rfl ?_
  have w8 : (Xi U2 904 15) = (Xi S 904 15) := (show Xi U2 904 15 = Xi U1 904 15 from by rw [eU2]; rfl).trans ((show Xi U1 904 15 = Xi S 904 15 from by rw [eU1]; exact Xi_ne (by omega)))
  rw [w8]
  refine y_imul rfl ?_
  refine y_iconst rfl ?_
  refine y_iadd rfl ?_
  refine y_lload rfl rfl ?_
  refine y_lastoreP (n := 900) rfl rfl (by unfold rg; omega) (fun w9 w10 => ?_)
  obtain ⟨U3, eU3⟩ : ∃ T : sS, T = uJ U2 913 ((((3 * (Xi S 904 15)) + 1)).toNat) (Int64.ofInt b) := ⟨_, rfl⟩
  rw [← eU3]
  have hHU3 : RI U3 := by rw [eU3]; exact RI_J hHU2
  have hFU3 : FR md_mo_tell__p S U3 := by rw [eU3]; exact FR.wJ hFU2 (mdf_i (r := (913, 914, 0, 100000)) (List.mem_of_getElem? (i := 2) rfl) (inR_i (by omega) (by omega) (by omega) (by omega)))
  refine y_aload_n rfl rfl ?_
  refine y_gfr rfl rfl rfl rfl rfl (hHU3.r 904 11 913 rfl) ?_
  refine y_iconst rfl ?_
  refine y_aload_n rfl rfl ?_
  refine y_gfi rfl rfl rfl rfl rfl ?_
  have w11 : (Xi U3 904 15) = (Xi S 904 15) := (show Xi U3 904 15 = Xi U2 904 15 from by rw [eU3]; rfl).trans ( (show Xi U2 904 15 = Xi U1 904 15 from by rw [eU2]; rfl).trans ((show Xi U1 904 15 = Xi S 904 15 from by rw [eU1]; exact Xi_ne (by omega))))
  rw [w11]
  refine y_imul rfl ?_
  refine y_iconst rfl ?_
  refine y_iadd rfl ?_
  refine y_lload rfl rfl ?_
  refine y_lastoreP (n := 900) rfl rfl (by unfold rg; omega) (fun w12 w13 => ?_)
  obtain ⟨U4, eU4⟩ : ∃ T : sS, T = uJ U3 913 ((((3 * (Xi S 904 15)) + 2)).toNat) (Int64.ofInt c) := ⟨_, rfl⟩
  rw [← eU4]
  have hHU4 : RI U4 := by rw [eU4]; exact RI_J hHU3
  have hFU4 : FR md_mo_tell__p S U4 := by rw [eU4]; exact FR.wJ hFU3 (mdf_i (r := (913, 914, 0, 100000)) (List.mem_of_getElem? (i := 2) rfl) (inR_i (by omega) (by omega) (by omega) (by omega)))
  refine y_aload_n rfl rfl ?_
  refine y_gfr rfl rfl rfl rfl rfl (hHU4.r 904 12 914 rfl) ?_
  refine y_aload_n rfl rfl ?_
  refine y_gfi rfl rfl rfl rfl rfl ?_
  have w14 : (Xi U4 904 15) = (Xi S 904 15) := (show Xi U4 904 15 = Xi U3 904 15 from by rw [eU4]; rfl).trans ( (show Xi U3 904 15 = Xi U2 904 15 from by rw [eU3]; rfl).trans ( (show Xi U2 904 15 = Xi U1 904 15 from by rw [eU2]; rfl).trans ((show Xi U1 904 15 = Xi S 904 15 from by rw [eU1]; exact Xi_ne (by omega)))))
  rw [w14]
  refine y_iload_n rfl rfl ?_
  refine y_iastoreP (n := 300) rfl rfl (by unfold rg; omega) (fun w15 w16 => ?_)
  obtain ⟨U5, eU5⟩ : ∃ T : sS, T = uI U4 914 (((Xi S 904 15)).toNat) (Int32.ofInt so) := ⟨_, rfl⟩
  rw [← eU5]
  have hHU5 : RI U5 := by rw [eU5]; exact RI_w hHU4
  have hFU5 : FR md_mo_tell__p S U5 := by rw [eU5]; exact FR.wI hFU4 (mdf_i (r := (914, 915, 0, 100000)) (List.mem_of_getElem? (i := 3) rfl) (inR_i (by omega) (by omega) (by omega) (by omega)))
  have w17 : Xi U5 914 (((Xi S 904 15)).toNat) = so := by rw [eU5]; exact Xi_same (by unfold rg; omega)
  refine y_aload_n rfl rfl ?_
  refine y_gfr rfl rfl rfl rfl rfl (hHU5.r 904 13 915 rfl) ?_
  refine y_aload_n rfl rfl ?_
  refine y_gfi rfl rfl rfl rfl rfl ?_
  have w18 : (Xi U5 904 15) = (Xi S 904 15) := (show Xi U5 904 15 = Xi U4 904 15 from by rw [eU5]; exact Xi_ne (by omega)).trans ( (show Xi U4 904 15 = Xi U3 904 15 from by rw [eU4]; rfl).trans ( (show Xi U3 904 15 = Xi U2 904 15 from by rw [eU3]; rfl).trans ( (show Xi U2 904 15 = Xi U1 904 15 from by rw [eU2]; rfl).trans ((show Xi U1 904 15 = Xi S 904 15 from by rw [eU1]; exact Xi_ne (by omega))))))
  rw [w18]
  refine y_iload_n rfl rfl ?_
  refine y_iastoreP (n := 300) rfl rfl (by unfold rg; omega) (fun w19 w20 => ?_)
  obtain ⟨U6, eU6⟩ : ∃ T : sS, T = uI U5 915 (((Xi S 904 15)).toNat) (Int32.ofInt ix) := ⟨_, rfl⟩
  rw [← eU6]
  have hHU6 : RI U6 := by rw [eU6]; exact RI_w hHU5
  have hFU6 : FR md_mo_tell__p S U6 := by rw [eU6]; exact FR.wI hFU5 (mdf_i (r := (915, 916, 0, 100000)) (List.mem_of_getElem? (i := 4) rfl) (inR_i (by omega) (by omega) (by omega) (by omega)))
  have w21 : Xi U6 915 (((Xi S 904 15)).toNat) = ix := by rw [eU6]; exact Xi_same (by unfold rg; omega)
  refine y_aload_n rfl rfl ?_
  refine y_gfr rfl rfl rfl rfl rfl (hHU6.r 904 14 916 rfl) ?_
  refine y_aload_n rfl rfl ?_
  refine y_gfi rfl rfl rfl rfl rfl ?_
  have w22 : (Xi U6 904 15) = (Xi S 904 15) := (show Xi U6 904 15 = Xi U5 904 15 from by rw [eU6]; exact Xi_ne (by omega)).trans ( (show Xi U5 904 15 = Xi U4 904 15 from by rw [eU5]; exact Xi_ne (by omega)).trans ( (show Xi U4 904 15 = Xi U3 904 15 from by rw [eU4]; rfl).trans ( (show Xi U3 904 15 = Xi U2 904 15 from by rw [eU3]; rfl).trans ( (show Xi U2 904 15 = Xi U1 904 15 from by rw [eU2]; rfl).trans ((show Xi U1 904 15 = Xi S 904 15 from by rw [eU1]; exact Xi_ne (by omega)))))))
  rw [w22]
  refine y_iconst rfl ?_
  refine y_bastoreZP (n := 300) rfl rfl (by unfold rg; omega) ⟨by omega, by omega⟩ (fun w23 w24 => ?_)
  obtain ⟨U7, eU7⟩ : ∃ T : sS, T = uI U6 916 (((Xi S 904 15)).toNat) (Int32.ofInt 0) := ⟨_, rfl⟩
  rw [← eU7]
  have hHU7 : RI U7 := by rw [eU7]; exact RI_w hHU6
  have hFU7 : FR md_mo_tell__p S U7 := by rw [eU7]; exact FR.wI hFU6 (mdf_i (r := (916, 917, 0, 100000)) (List.mem_of_getElem? (i := 5) rfl) (inR_i (by omega) (by omega) (by omega) (by omega)))
  have w25 : Xi U7 916 (((Xi S 904 15)).toNat) = 0 := by rw [eU7]; exact Xi_same (by unfold rg; omega)
  refine y_aload_n rfl rfl ?_
  refine y_dup rfl rfl ?_
  refine y_gfi rfl rfl rfl rfl rfl ?_
  have w26 : (Xi U7 904 15) = (Xi S 904 15) := (show Xi U7 904 15 = Xi U6 904 15 from by rw [eU7]; exact Xi_ne (by omega)).trans ( (show Xi U6 904 15 = Xi U5 904 15 from by rw [eU6]; exact Xi_ne (by omega)).trans ( (show Xi U5 904 15 = Xi U4 904 15 from by rw [eU5]; exact Xi_ne (by omega)).trans ( (show Xi U4 904 15 = Xi U3 904 15 from by rw [eU4]; rfl).trans ( (show Xi U3 904 15 = Xi U2 904 15 from by rw [eU3]; rfl).trans ( (show Xi U2 904 15 = Xi U1 904 15 from by rw [eU2]; rfl).trans ((show Xi U1 904 15 = Xi S 904 15 from by rw [eU1]; exact Xi_ne (by omega))))))))
  rw [w26]
  refine y_iconst rfl ?_
  refine y_iadd rfl ?_
  refine y_pfi rfl rfl rfl rfl ?_
  obtain ⟨U8, eU8⟩ : ∃ T : sS, T = uI U7 904 15 (Int32.ofInt ((Xi S 904 15) + 1)) := ⟨_, rfl⟩
  rw [← eU8]
  have hHU8 : RI U8 := by rw [eU8]; exact RI_w hHU7
  have hFU8 : FR md_mo_tell__p S U8 := by rw [eU8]; exact FR.wI hFU7 (mdf_i (r := (904, 905, 15, 16)) (List.mem_of_getElem? (i := 0) rfl) (inR_i (by omega) (by omega) (by omega) (by omega)))
  have w27 : Xi U8 904 15 = ((Xi S 904 15) + 1) := by rw [eU8]; exact Xi_same (by unfold rg; omega)
  refine y_return rfl rfl ?_
  exact ⟨hHU8, hFU8, rfl, (tlr_of eU1 eU2 eU3 eU4 eU5 eU6 eU7 eU8 (by omega) (by omega) ra rb rc (by unfold rg; omega) (by unfold rg; omega) (by unfold rg; omega))⟩
def md_mo_tellTokens__p : List rec := [(904, 905, 15, 16), (912, 913, 0, 100000), (913, 914, 0, 100000), (914, 915, 0, 100000), (915, 916, 0, 100000), (916, 917, 0, 100000)]
abbrev Q_mo_tellTokens__p (S : sS) (so : Int) (ix : Int) (t : Int) (m : Int) : pst := fun r S1 => RI S1 ∧ FR md_mo_tellTokens__p S S1 ∧ (r = none ∧ (TLR S S1 so ix (Xj S 910 (t).toNat) (if 1 < m then Xj S 910 (t + 1).toNat else 0) (if 2 < m then Xj S 910 (t + 2).toNat else 0) (m)))
set_option maxRecDepth 100000 in
theorem t_mo_tellTokens__p {S : sS} (hH : RI S) (so : Int) (ix : Int) (t : Int) (m : Int) (hso : -2147483648 ≤ so ∧ so ≤ 2147483647) (hix : -2147483648 ≤ ix ∧ ix ≤ 2147483647) (ht : -2147483648 ≤ t ∧ t ≤ 2147483600) (hm : -2147483648 ≤ m ∧ m ≤ 2147483647) (d : Nat) : Mp lay0 (d + 2) m_mo_tellTokens [.ref 904, iv so, iv ix, iv t, iv m] S (Q_mo_tellTokens__p S so ix t m) := by
  refine Mp_R rfl rfl (fun fu => ?_)
  have hF : FR md_mo_tellTokens__p S S := FR.rf
  refine y_aload_n rfl rfl ?_
  refine y_iload_n rfl rfl ?_
  refine y_iload_n rfl rfl ?_
  refine y_aload_n rfl rfl ?_
  refine y_gfr rfl rfl rfl rfl rfl (hH.r 904 7 910 rfl) ?_
  refine y_iload_n rfl rfl ?_
  refine y_laloadP (n := 5002) rfl rfl (by unfold rg; omega) (fun w1 w2 => ?_)
  have w3 : -9223372036854775808 ≤ (Xj S 910 ((t).toNat)) ∧ (Xj S 910 ((t).toNat)) < 9223372036854775808 := Xj_rg
  refine y_iload rfl rfl ?_
  refine y_iconst rfl ?_
  refine y_icmp_le rfl rfl (by unfold rg; omega) (by unfold rg; omega) (fun w4 => ?_) (fun w5 => ?_)
  · refine y_lconst (z := 0) rfl rfl ?_
    refine y_iload rfl rfl ?_
    refine y_iconst rfl ?_
    refine y_icmp_le rfl rfl (by unfold rg; omega) (by unfold rg; omega) (fun w6 => ?_) (fun w7 => ?_)
    · refine y_lconst (z := 0) rfl rfl ?_
      refine y_iload rfl rfl ?_
      refine y_callV rfl rfl rfl (t_mo_tell__p hH so ix (Xj S 910 ((t).toNat)) 0 0 m ⟨by omega, by omega⟩ ⟨by omega, by omega⟩ ⟨by omega, by omega⟩ (by first | exact Xj_rg | (unfold rgL; omega)) (by first | exact Xj_rg | (unfold rgL; omega)) (by first | exact Xj_rg | (unfold rgL; omega)) _) ?_
      rintro _ T1 ⟨hHT1, w10, rfl, w8⟩
      have hFT1 : FR md_mo_tellTokens__p S T1 := FR.tr hF w10 rfl
      show Pl _ _ _ _ _ _ [] _ _
      refine y_return rfl rfl ?_
      exact ⟨hHT1, hFT1, rfl, (by first | (rw [if_neg (by omega), if_neg (by omega)]; assumption) | (rw [if_pos (by omega), if_neg (by omega)]; assumption) | (rw [if_pos (by omega), if_pos (by omega)]; assumption) | (exfalso; omega))⟩
    · refine y_aload_n rfl rfl ?_
      refine y_gfr rfl rfl rfl rfl rfl (hH.r 904 7 910 rfl) ?_
      refine y_iload_n rfl rfl ?_
      refine y_iconst rfl ?_
      refine y_iadd rfl ?_
      refine y_laloadP (n := 5002) rfl rfl (by unfold rg; omega) (fun w11 w12 => ?_)
      have w13 : -9223372036854775808 ≤ (Xj S 910 (((t + 2)).toNat)) ∧ (Xj S 910 (((t + 2)).toNat)) < 9223372036854775808 := Xj_rg
      refine y_goto rfl rfl ?_
      refine y_iload rfl rfl ?_
      refine y_callV rfl rfl rfl (t_mo_tell__p hH so ix (Xj S 910 ((t).toNat)) 0 (Xj S 910 (((t + 2)).toNat)) m ⟨by omega, by omega⟩ ⟨by omega, by omega⟩ ⟨by omega, by omega⟩ (by first | exact Xj_rg | (unfold rgL; omega)) (by first | exact Xj_rg | (unfold rgL; omega)) (by first | exact Xj_rg | (unfold rgL; omega)) _) ?_
      rintro _ T2 ⟨hHT2, w16, rfl, w14⟩
      have hFT2 : FR md_mo_tellTokens__p S T2 := FR.tr hF w16 rfl
      show Pl _ _ _ _ _ _ [] _ _
      refine y_return rfl rfl ?_
      exact ⟨hHT2, hFT2, rfl, (by first | (rw [if_neg (by omega), if_neg (by omega)]; assumption) | (rw [if_pos (by omega), if_neg (by omega)]; assumption) | (rw [if_pos (by omega), if_pos (by omega)]; assumption) | (exfalso; omega))⟩
  · refine y_aload_n rfl rfl ?_
    refine y_gfr rfl rfl rfl rfl rfl (hH.r 904 7 910 rfl) ?_
    refine y_iload_n rfl rfl ?_
    refine y_iconst rfl ?_
    refine y_iadd rfl ?_
    refine y_laloadP (n := 5002) rfl rfl (by unfold rg; omega) (fun w17 w18 => ?_)
    have w19 : -9223372036854775808 ≤ (Xj S 910 (((t + 1)).toNat)) ∧ (Xj S 910 (((t + 1)).toNat)) < 9223372036854775808 := Xj_rg
    refine y_goto rfl rfl ?_
    refine y_iload rfl rfl ?_
    refine y_iconst rfl ?_
    refine y_icmp_le rfl rfl (by unfold rg; omega) (by unfold rg; omega) (fun w20 => ?_) (fun w21 => ?_)
    · refine y_lconst (z := 0) rfl rfl ?_
      refine y_iload rfl rfl ?_
      refine y_callV rfl rfl rfl (t_mo_tell__p hH so ix (Xj S 910 ((t).toNat)) (Xj S 910 (((t + 1)).toNat)) 0 m ⟨by omega, by omega⟩ ⟨by omega, by omega⟩ ⟨by omega, by omega⟩ (by first | exact Xj_rg | (unfold rgL; omega)) (by first | exact Xj_rg | (unfold rgL; omega)) (by first | exact Xj_rg | (unfold rgL; omega)) _) ?_
      rintro _ T3 ⟨hHT3, w24, rfl, w22⟩
      have hFT3 : FR md_mo_tellTokens__p S T3 := FR.tr hF w24 rfl
      show Pl _ _ _ _ _ _ [] _ _
      refine y_return rfl rfl ?_
      exact ⟨hHT3, hFT3, rfl, (by first | (rw [if_neg (by omega), if_neg (by omega)]; assumption) | (rw [if_pos (by omega), if_neg (by omega)]; assumption) | (rw [if_pos (by omega), if_pos (by omega)]; assumption) | (exfalso; omega))⟩
    · refine y_aload_n rfl rfl ?_
      refine y_gfr rfl rfl rfl rfl rfl (hH.r 904 7 910 rfl) ?_
      refine y_iload_n rfl rfl ?_
      refine y_iconst rfl ?_
      refine y_iadd rfl ?_
      refine y_laloadP (n := 5002) rfl rfl (by unfold rg; omega) (fun w25 w26 => ?_)
      have w27 : -9223372036854775808 ≤ (Xj S 910 (((t + 2)).toNat)) ∧ (Xj S 910 (((t + 2)).toNat)) < 9223372036854775808 := Xj_rg
      refine y_goto rfl rfl ?_
      refine y_iload rfl rfl ?_
      refine y_callV rfl rfl rfl (t_mo_tell__p hH so ix (Xj S 910 ((t).toNat)) (Xj S 910 (((t + 1)).toNat)) (Xj S 910 (((t + 2)).toNat)) m ⟨by omega, by omega⟩ ⟨by omega, by omega⟩ ⟨by omega, by omega⟩ (by first | exact Xj_rg | (unfold rgL; omega)) (by first | exact Xj_rg | (unfold rgL; omega)) (by first | exact Xj_rg | (unfold rgL; omega)) _) ?_
      rintro _ T4 ⟨hHT4, w30, rfl, w28⟩
      have hFT4 : FR md_mo_tellTokens__p S T4 := FR.tr hF w30 rfl
      show Pl _ _ _ _ _ _ [] _ _
      refine y_return rfl rfl ?_
      exact ⟨hHT4, hFT4, rfl, (by first | (rw [if_neg (by omega), if_neg (by omega)]; assumption) | (rw [if_pos (by omega), if_neg (by omega)]; assumption) | (rw [if_pos (by omega), if_pos (by omega)]; assumption) | (exfalso; omega))⟩
def md_mo_tellRun__p : List rec := [(904, 905, 15, 16), (912, 913, 0, 100000), (913, 914, 0, 100000), (914, 915, 0, 100000), (915, 916, 0, 100000), (916, 917, 0, 100000)]
abbrev Q_mo_tellRun__p (S : sS) (so : Int) (ix : Int) (rn : Int) : pst := fun r S1 => RI S1 ∧ FR md_mo_tellRun__p S S1 ∧ (r = none ∧ (TLR S S1 so ix (Xj S 910 (Xi S 950 rn.toNat).toNat) (if 1 < Xi S 951 rn.toNat then Xj S 910 (Xi S 950 rn.toNat + 1).toNat else 0) (if 2 < Xi S 951 rn.toNat then Xj S 910 (Xi S 950 rn.toNat + 2).toNat else 0) (Xi S 951 rn.toNat)))
set_option maxRecDepth 100000 in
theorem t_mo_tellRun__p {S : sS} (hH : RI S) (so : Int) (ix : Int) (rn : Int) (hso : -2147483648 ≤ so ∧ so ≤ 2147483647) (hix : -2147483648 ≤ ix ∧ ix ≤ 2147483647) (hrn : -2147483648 ≤ rn ∧ rn ≤ 2147483647) (hRB : RBD S) (d : Nat) : Mp lay0 (d + 3) m_mo_tellRun [.ref 904, iv so, iv ix, iv rn] S (Q_mo_tellRun__p S so ix rn) := by
  refine Mp_R rfl rfl (fun fu => ?_)
  have hF : FR md_mo_tellRun__p S S := FR.rf
  have hrt := hRB rn.toNat
  refine y_aload_n rfl rfl ?_
  refine y_iload_n rfl rfl ?_
  refine y_iload_n rfl rfl ?_
  refine y_aload_n rfl rfl ?_
  refine y_gfr rfl rfl rfl rfl rfl (hH.r 904 67 950 rfl) ?_
  refine y_iload_n rfl rfl ?_
  refine y_ialoadP (n := 2600) rfl rfl (by unfold rg; omega) (fun w1 w2 => ?_)
  have w3 : -2147483648 ≤ (Xi S 950 ((rn).toNat)) ∧ (Xi S 950 ((rn).toNat)) ≤ 2147483647 := Xi_rgI
  refine y_aload_n rfl rfl ?_
  refine y_gfr rfl rfl rfl rfl rfl (hH.r 904 68 951 rfl) ?_
  refine y_iload_n rfl rfl ?_
  refine y_ialoadP (n := 2600) rfl rfl (by unfold rg; omega) (fun w4 w5 => ?_)
  have w6 : -2147483648 ≤ (Xi S 951 ((rn).toNat)) ∧ (Xi S 951 ((rn).toNat)) ≤ 2147483647 := Xi_rgI
  refine y_callV rfl rfl rfl (t_mo_tellTokens__p hH so ix (Xi S 950 ((rn).toNat)) (Xi S 951 ((rn).toNat)) ⟨by omega, by omega⟩ ⟨by omega, by omega⟩ ⟨by omega, by omega⟩ ⟨by omega, by omega⟩ _) ?_
  rintro _ T1 ⟨hHT1, w9, rfl, w7⟩
  have hFT1 : FR md_mo_tellRun__p S T1 := FR.tr hF w9 rfl
  show Pl _ _ _ _ _ _ [] _ _
  refine y_return rfl rfl ?_
  exact ⟨hHT1, hFT1, rfl, (by assumption)⟩
end
section
/-- the class's entries: sorts and numbers -/
def CEN (S : sS) : Prop := ∀ i : Nat, (i : Int) < Xi S 1 3 → (0 ≤ Xi S 3 i ∧ Xi S 3 i ≤ 14) ∧ 0 ≤ Xi S 4 i ∧ Xi S 4 i ≤ 63
theorem CEN_FR {l : List rec} {S T : sS} (h : FR l S T) (e1 : kdis l [(3, 5)] = true) (e : mdf l 1 3 = false) (q : CEN S) : CEN T := by
  unfold CEN
  rw [h.x 1 3 e]
  simp only [(h.smk e1).x 3 rfl, (h.smk e1).x 4 rfl]
  exact q

abbrev Q_vo_meaning__p (S : sS) (k n : Nat) (from_ : Int) (to : Int) : pst := fun r S1 => S = S1 ∧ (∃ z : Int, r = some (iv z) ∧ (-2147483648 ≤ z ∧ z ≤ 2147483647) ∧ (1 ≤ to - from_ → to - from_ ≤ 3 → 0 ≤ from_ → to ≤ n → z = mnR S k from_.toNat (to - from_).toNat) ∧ (to - from_ < 1 ∨ 3 < to - from_ ∨ from_ < 0 ∨ (n : Int) < to → z = -1))
set_option maxRecDepth 100000 in
theorem t_vo_meaning__p {S : sS} (hH : RI S) (k n : Nat) (from_ : Int) (to : Int) (hlk : lay0 k = (2, n)) (hkk : k < 2000 ∧ n ≤ 5130) (hfrom_ : -1 ≤ from_ ∧ from_ ≤ 6000) (hto : -1 ≤ to ∧ to ≤ 6000) (h13 : 0 ≤ Xi S 1 3 ∧ Xi S 1 3 ≤ 200) (hCE : CEN S) (d : Nat) : Mp lay0 (d + 1) m_vo_meaning [.ref 1, .ref k, iv from_, iv to] S (Q_vo_meaning__p S k n from_ to) := by
  refine Mp_R rfl rfl (fun fu => ?_)
  have w1 : -2147483648 ≤ Xi S 1 3 ∧ Xi S 1 3 ≤ 2147483647 := Xi_rgI
  have h13a := h13.1
  have h13b := h13.2
  have C66 : ∀ (n66 : Nat) (_ : n66 ≤ fu) (v5 : Int) (v7 : Int) (v9 : Int), (-2147483648 ≤ v9 ∧ v9 ≤ 2147483647) → (0 ≤ v9 ∧ v9 ≤ Xi S 1 3) → (mnR S k from_.toNat (to - from_).toNat = msc S (Xj S k from_.toNat) v5 v7 (Xi S 1 3 - v9).toNat v9.toNat) → (-9223372036854775808 ≤ v5 ∧ v5 < 9223372036854775808) → (-9223372036854775808 ≤ v7 ∧ v7 < 9223372036854775808) → (1 ≤ to - from_ ∧ to - from_ ≤ 3 ∧ 0 ≤ from_ ∧ to ≤ n) → Pl n66 lay0 (d + 0) m_vo_meaning 66 [(0, .ref 1), (1, .ref k), (2, iv from_), (5, jw v5), (7, jw v7), (9, iv v9)] [] S (Q_vo_meaning__p S k n from_ to) := by
    intro n66
    induction n66 with
    | zero => intros; exact Pl_0
    | succ n66 ih66 =>
      intro hm66 v5 v7 v9 w2 w3 h66 w4 w5 w6
      refine ys_iload rfl rfl ?_
      refine y_aload_n rfl rfl ?_
      refine y_gfi rfl rfl rfl rfl rfl ?_
      refine y_icmp_ge rfl rfl (by unfold rg; omega) (by unfold rg; omega) (fun w7 => ?_) (fun w8 => ?_)
      · refine y_iconst rfl ?_
        refine y_ireturn rfl rfl ?_
        exact ⟨rfl, _, rfl, ⟨by omega, by omega⟩, (by first | (intro a b c e; omega) | exact fun _ _ _ _ => (h66.trans (msc_f (by omega) (by omega) (by omega) (by omega) (by omega))).symm | exact fun _ _ _ _ => (h66.trans (msc_e (by omega))).symm), (by omega)⟩
      · refine y_iconst rfl ?_
        refine y_iload rfl rfl ?_
        refine y_imul rfl ?_
        refine y_istore rfl rfl rfl ?_
        refine y_aload_n rfl rfl ?_
        refine y_gfr rfl rfl rfl rfl rfl (hH.r 1 0 2 rfl) ?_
        refine y_iload rfl rfl ?_
        refine y_laloadP (n := 600) rfl rfl (by unfold rg; omega) (fun w9 w10 => ?_)
        have w11 : -9223372036854775808 ≤ (Xj S 2 (((3 * v9)).toNat)) ∧ (Xj S 2 (((3 * v9)).toNat)) < 9223372036854775808 := Xj_rg
        refine y_aload_n rfl rfl ?_
        refine y_iload_n rfl rfl ?_
        refine y_laloadP (n := n) rfl hlk (by unfold rg; omega) (fun w12 w13 => ?_)
        have w14 : -9223372036854775808 ≤ (Xj S k ((from_).toNat)) ∧ (Xj S k ((from_).toNat)) < 9223372036854775808 := Xj_rg
        refine y_lcmp rfl (by unfold rgL; omega) (by unfold rgL; omega) (fun c15 w15 w15a w15b w15c => ?_)
        refine y_if_ne rfl rfl (by unfold rg; omega) (fun w16 => ?_) (fun w17 => ?_)
        · refine y_iinc rfl rfl rfl rfl ?_
          refine y_goto rfl rfl ?_
          exact Pl_weak (ih66 (by omega) (v5) (v7) ((v9 + 1)) (by omega) (by omega) (by first | exact mn_a (by omega) | exact mn_b (by omega) (by omega) (by omega) | exact mn_c (by omega) (by omega) | exact h66.trans (msc_s (by omega) (by omega) (by omega)) | (exfalso; omega)) (by omega) (by omega) (by omega)) (by omega) (And.intro rfl (And.intro rfl (And.intro rfl (And.intro rfl (And.intro rfl (And.intro rfl (True.intro)))))))
        · refine y_aload_n rfl rfl ?_
          refine y_gfr rfl rfl rfl rfl rfl (hH.r 1 0 2 rfl) ?_
          refine y_iload rfl rfl ?_
          refine y_iconst rfl ?_
          refine y_iadd rfl ?_
          refine y_laloadP (n := 600) rfl rfl (by unfold rg; omega) (fun w18 w19 => ?_)
          have w20 : -9223372036854775808 ≤ (Xj S 2 ((((3 * v9) + 1)).toNat)) ∧ (Xj S 2 ((((3 * v9) + 1)).toNat)) < 9223372036854775808 := Xj_rg
          refine y_lload rfl rfl ?_
          refine y_lcmp rfl (by unfold rgL; omega) (by unfold rgL; omega) (fun c21 w21 w21a w21b w21c => ?_)
          refine y_if_ne rfl rfl (by unfold rg; omega) (fun w22 => ?_) (fun w23 => ?_)
          · refine y_iinc rfl rfl rfl rfl ?_
            refine y_goto rfl rfl ?_
            exact Pl_weak (ih66 (by omega) (v5) (v7) ((v9 + 1)) (by omega) (by omega) (by first | exact mn_a (by omega) | exact mn_b (by omega) (by omega) (by omega) | exact mn_c (by omega) (by omega) | exact h66.trans (msc_s (by omega) (by omega) (by omega)) | (exfalso; omega)) (by omega) (by omega) (by omega)) (by omega) (And.intro rfl (And.intro rfl (And.intro rfl (And.intro rfl (And.intro rfl (And.intro rfl (True.intro)))))))
          · refine y_aload_n rfl rfl ?_
            refine y_gfr rfl rfl rfl rfl rfl (hH.r 1 0 2 rfl) ?_
            refine y_iload rfl rfl ?_
            refine y_iconst rfl ?_
            refine y_iadd rfl ?_
            refine y_laloadP (n := 600) rfl rfl (by unfold rg; omega) (fun w24 w25 => ?_)
            have w26 : -9223372036854775808 ≤ (Xj S 2 ((((3 * v9) + 2)).toNat)) ∧ (Xj S 2 ((((3 * v9) + 2)).toNat)) < 9223372036854775808 := Xj_rg
            refine y_lload rfl rfl ?_
            refine y_lcmp rfl (by unfold rgL; omega) (by unfold rgL; omega) (fun c27 w27 w27a w27b w27c => ?_)
            refine y_if_ne rfl rfl (by unfold rg; omega) (fun w28 => ?_) (fun w29 => ?_)
            · refine y_iinc rfl rfl rfl rfl ?_
              refine y_goto rfl rfl ?_
              exact Pl_weak (ih66 (by omega) (v5) (v7) ((v9 + 1)) (by omega) (by omega) (by first | exact mn_a (by omega) | exact mn_b (by omega) (by omega) (by omega) | exact mn_c (by omega) (by omega) | exact h66.trans (msc_s (by omega) (by omega) (by omega)) | (exfalso; omega)) (by omega) (by omega) (by omega)) (by omega) (And.intro rfl (And.intro rfl (And.intro rfl (And.intro rfl (And.intro rfl (And.intro rfl (True.intro)))))))
            · refine y_aload_n rfl rfl ?_
              refine y_gfr rfl rfl rfl rfl rfl (hH.r 1 1 3 rfl) ?_
              refine y_iload rfl rfl ?_
              refine y_ialoadP (n := 200) rfl rfl (by unfold rg; omega) (fun w30 w31 => ?_)
              have w32 : -2147483648 ≤ (Xi S 3 ((v9).toNat)) ∧ (Xi S 3 ((v9).toNat)) ≤ 2147483647 := Xi_rgI
              have c131 := hCE v9.toNat (by omega)
              refine y_sipush rfl rfl ?_
              refine y_imul rfl ?_
              refine y_aload_n rfl rfl ?_
              refine y_gfr rfl rfl rfl rfl rfl (hH.r 1 2 4 rfl) ?_
              refine y_iload rfl rfl ?_
              refine y_ialoadP (n := 200) rfl rfl (by unfold rg; omega) (fun w33 w34 => ?_)
              have w35 : -2147483648 ≤ (Xi S 4 ((v9).toNat)) ∧ (Xi S 4 ((v9).toNat)) ≤ 2147483647 := Xi_rgI
              have c142 := hCE v9.toNat (by omega)
              refine y_iadd rfl ?_
              refine y_ireturn rfl rfl ?_
              exact ⟨rfl, _, rfl, ⟨by omega, by omega⟩, (by first | (intro a b c e; omega) | exact fun _ _ _ _ => (h66.trans (msc_f (by omega) (by omega) (by omega) (by omega) (by omega))).symm | exact fun _ _ _ _ => (h66.trans (msc_e (by omega))).symm), (by omega)⟩
  refine y_iload_n rfl rfl ?_
  refine y_iload_n rfl rfl ?_
  refine y_isub rfl ?_
  refine y_istore rfl rfl rfl ?_
  refine y_iload rfl rfl ?_
  refine y_iconst rfl ?_
  refine y_icmp_lt rfl rfl (by unfold rg; omega) (by unfold rg; omega) (fun w36 => ?_) (fun w37 => ?_)
  · refine y_iconst rfl ?_
    refine y_ireturn rfl rfl ?_
    exact ⟨rfl, _, rfl, ⟨by omega, by omega⟩, (by first | (intro a b c e; omega) | exact fun _ _ _ _ => (h66.trans (msc_f (by omega) (by omega) (by omega) (by omega) (by omega))).symm | exact fun _ _ _ _ => (h66.trans (msc_e (by omega))).symm), (by omega)⟩
  · refine y_iload rfl rfl ?_
    refine y_iconst rfl ?_
    refine y_icmp_gt rfl rfl (by unfold rg; omega) (by unfold rg; omega) (fun w38 => ?_) (fun w39 => ?_)
    · refine y_iconst rfl ?_
      refine y_ireturn rfl rfl ?_
      exact ⟨rfl, _, rfl, ⟨by omega, by omega⟩, (by first | (intro a b c e; omega) | exact fun _ _ _ _ => (h66.trans (msc_f (by omega) (by omega) (by omega) (by omega) (by omega))).symm | exact fun _ _ _ _ => (h66.trans (msc_e (by omega))).symm), (by omega)⟩
    · refine y_iload_n rfl rfl ?_
      refine y_if_lt rfl rfl (by unfold rg; omega) (fun w40 => ?_) (fun w41 => ?_)
      · refine y_iconst rfl ?_
        refine y_ireturn rfl rfl ?_
        exact ⟨rfl, _, rfl, ⟨by omega, by omega⟩, (by first | (intro a b c e; omega) | exact fun _ _ _ _ => (h66.trans (msc_f (by omega) (by omega) (by omega) (by omega) (by omega))).symm | exact fun _ _ _ _ => (h66.trans (msc_e (by omega))).symm), (by omega)⟩
      · refine y_iload_n rfl rfl ?_
        refine y_aload_n rfl rfl ?_
        refine y_alen (n := n) (z := (n : Int)) rfl (sv_k (by omega)) hlk rfl alen_z ?_
        refine y_icmp_le rfl rfl (by unfold rg; omega) (by unfold rg; omega) (fun w42 => ?_) (fun w43 => ?_)
        · refine y_iload rfl rfl ?_
          refine y_iconst rfl ?_
          refine y_icmp_le rfl rfl (by unfold rg; omega) (by unfold rg; omega) (fun w44 => ?_) (fun w45 => ?_)
          · refine y_lconst (z := 0) rfl rfl ?_
            refine y_lstore rfl rfl rfl rfl ?_
            refine y_iload rfl rfl ?_
            refine y_iconst rfl ?_
            refine y_icmp_le rfl rfl (by unfold rg; omega) (by unfold rg; omega) (fun w46 => ?_) (fun w47 => ?_)
            · refine y_lconst (z := 0) rfl rfl ?_
              refine y_lstore rfl rfl rfl rfl ?_
              refine y_iconst rfl ?_
              refine y_istore rfl rfl rfl ?_
              exact Pl_weak (C66 fu (by omega) (0) (0) (0) (by omega) (by omega) (by first | exact mn_a (by omega) | exact mn_b (by omega) (by omega) (by omega) | exact mn_c (by omega) (by omega) | exact h66.trans (msc_s (by omega) (by omega) (by omega)) | (exfalso; omega)) (by omega) (by omega) (by omega)) (by omega) (And.intro rfl (And.intro rfl (And.intro rfl (And.intro rfl (And.intro rfl (And.intro rfl (True.intro)))))))
            · refine y_aload_n rfl rfl ?_
              refine y_iload_n rfl rfl ?_
              refine y_iconst rfl ?_
              refine y_iadd rfl ?_
              refine y_laloadP (n := n) rfl hlk (by unfold rg; omega) (fun w48 w49 => ?_)
              have w50 : -9223372036854775808 ≤ (Xj S k (((from_ + 2)).toNat)) ∧ (Xj S k (((from_ + 2)).toNat)) < 9223372036854775808 := Xj_rg
              refine y_goto rfl rfl ?_
              refine y_lstore rfl rfl rfl rfl ?_
              refine y_iconst rfl ?_
              refine y_istore rfl rfl rfl ?_
              exact Pl_weak (C66 fu (by omega) (0) ((Xj S k (((from_ + 2)).toNat))) (0) (by omega) (by omega) (by first | exact mn_a (by omega) | exact mn_b (by omega) (by omega) (by omega) | exact mn_c (by omega) (by omega) | exact h66.trans (msc_s (by omega) (by omega) (by omega)) | (exfalso; omega)) (by omega) (by omega) (by omega)) (by omega) (And.intro rfl (And.intro rfl (And.intro rfl (And.intro rfl (And.intro rfl (And.intro rfl (True.intro)))))))
          · refine y_aload_n rfl rfl ?_
            refine y_iload_n rfl rfl ?_
            refine y_iconst rfl ?_
            refine y_iadd rfl ?_
            refine y_laloadP (n := n) rfl hlk (by unfold rg; omega) (fun w51 w52 => ?_)
            have w53 : -9223372036854775808 ≤ (Xj S k (((from_ + 1)).toNat)) ∧ (Xj S k (((from_ + 1)).toNat)) < 9223372036854775808 := Xj_rg
            refine y_goto rfl rfl ?_
            refine y_lstore rfl rfl rfl rfl ?_
            refine y_iload rfl rfl ?_
            refine y_iconst rfl ?_
            refine y_icmp_le rfl rfl (by unfold rg; omega) (by unfold rg; omega) (fun w54 => ?_) (fun w55 => ?_)
            · refine y_lconst (z := 0) rfl rfl ?_
              refine y_lstore rfl rfl rfl rfl ?_
              refine y_iconst rfl ?_
              refine y_istore rfl rfl rfl ?_
              exact Pl_weak (C66 fu (by omega) ((Xj S k (((from_ + 1)).toNat))) (0) (0) (by omega) (by omega) (by first | exact mn_a (by omega) | exact mn_b (by omega) (by omega) (by omega) | exact mn_c (by omega) (by omega) | exact h66.trans (msc_s (by omega) (by omega) (by omega)) | (exfalso; omega)) (by omega) (by omega) (by omega)) (by omega) (And.intro rfl (And.intro rfl (And.intro rfl (And.intro rfl (And.intro rfl (And.intro rfl (True.intro)))))))
            · refine y_aload_n rfl rfl ?_
              refine y_iload_n rfl rfl ?_
              refine y_iconst rfl ?_
              refine y_iadd rfl ?_
              refine y_laloadP (n := n) rfl hlk (by unfold rg; omega) (fun w56 w57 => ?_)
              have w58 : -9223372036854775808 ≤ (Xj S k (((from_ + 2)).toNat)) ∧ (Xj S k (((from_ + 2)).toNat)) < 9223372036854775808 := Xj_rg
              refine y_goto rfl rfl ?_
              refine y_lstore rfl rfl rfl rfl ?_
              refine y_iconst rfl ?_
              refine y_istore rfl rfl rfl ?_
              exact Pl_weak (C66 fu (by omega) ((Xj S k (((from_ + 1)).toNat))) ((Xj S k (((from_ + 2)).toNat))) (0) (by omega) (by omega) (by first | exact mn_a (by omega) | exact mn_b (by omega) (by omega) (by omega) | exact mn_c (by omega) (by omega) | exact h66.trans (msc_s (by omega) (by omega) (by omega)) | (exfalso; omega)) (by omega) (by omega) (by omega)) (by omega) (And.intro rfl (And.intro rfl (And.intro rfl (And.intro rfl (And.intro rfl (And.intro rfl (True.intro)))))))
        · refine y_iconst rfl ?_
          refine y_ireturn rfl rfl ?_
          exact ⟨rfl, _, rfl, ⟨by omega, by omega⟩, (by first | (intro a b c e; omega) | exact fun _ _ _ _ => (h66.trans (msc_f (by omega) (by omega) (by omega) (by omega) (by omega))).symm | exact fun _ _ _ _ => (h66.trans (msc_e (by omega))).symm), (by omega)⟩
abbrev Q_me_find__p (S : sS) (sort : Int) (from_ : Int) (to : Int) : pst := fun r S1 => S = S1 ∧ (∃ z : Int, r = some (iv z) ∧ (-2147483648 ≤ z ∧ z ≤ 2147483647) ∧ (z = fnd S sort from_ to))
set_option maxRecDepth 100000 in
theorem t_me_find__p {S : sS} (hH : RI S) (sort : Int) (from_ : Int) (to : Int) (hsort : 0 ≤ sort ∧ sort ≤ 14) (hfrom_ : -1 ≤ from_ ∧ from_ ≤ 6000) (hto : -1 ≤ to ∧ to ≤ 6000) (h13 : 0 ≤ Xi S 1 3 ∧ Xi S 1 3 ≤ 200) (hCE : CEN S) (d : Nat) : Mp lay0 (d + 2) m_me_find [.ref 895, iv sort, iv from_, iv to] S (Q_me_find__p S sort from_ to) := by
  refine Mp_R rfl rfl (fun fu => ?_)
  have w1 : -2147483648 ≤ Xi S 1 3 ∧ Xi S 1 3 ≤ 2147483647 := Xi_rgI
  refine y_aload_n rfl rfl ?_
  refine y_gfr rfl rfl rfl rfl rfl (hH.r 895 1 1 rfl) ?_
  refine y_aload_n rfl rfl ?_
  refine y_gfr rfl rfl rfl rfl rfl (hH.r 895 0 876 rfl) ?_
  refine y_gfr rfl rfl rfl rfl rfl (hH.r 876 2 879 rfl) ?_
  refine y_iload_n rfl rfl ?_
  refine y_iload_n rfl rfl ?_
  refine y_callV rfl rfl rfl (t_vo_meaning__p hH 879 5130 from_ to rfl ⟨by omega, by omega⟩ ⟨by omega, by omega⟩ ⟨by omega, by omega⟩ (by first | assumption | omega) (by first | assumption | exact (by assumption : CEN S)) _) ?_
  rintro _ _ ⟨rfl, z2, rfl, w2, f13, n13⟩
  show Pl _ _ _ _ _ _ [iv z2] _ _
  have hmv : mnV S from_ to = z2 := mnV_of f13 n13
  refine y_istore rfl rfl rfl ?_
  refine y_iload rfl rfl ?_
  refine y_bipush rfl rfl ?_
  refine y_ishr8 rfl (by unfold rg; omega) ?_
  refine y_iload_n rfl rfl ?_
  refine y_icmp_ne rfl rfl (by unfold rg; omega) (by unfold rg; omega) (fun w4 => ?_) (fun w5 => ?_)
  · refine y_iconst rfl ?_
    refine y_ireturn rfl rfl ?_
    exact ⟨rfl, _, rfl, ⟨by omega, by omega⟩, (by first | exact fnd_y hmv (by omega) | exact fnd_n hmv (by omega))⟩
  · refine y_iload rfl rfl ?_
    refine y_sipush rfl rfl ?_
    refine y_iand255 rfl (by unfold rg; omega) ?_
    refine y_goto rfl rfl ?_
    refine y_ireturn rfl rfl ?_
    exact ⟨rfl, _, rfl, ⟨by omega, by omega⟩, (by first | exact fnd_y hmv (by omega) | exact fnd_n hmv (by omega))⟩
abbrev Q_vo_entryOf__p (S : sS) (sort : Int) (which : Int) : pst := fun r S1 => S = S1 ∧ (∃ z : Int, r = some (iv z) ∧ (-2147483648 ≤ z ∧ z ≤ 2147483647) ∧ (z = -1 ∨ (0 ≤ z ∧ z < Xi S 1 3)) ∧ (z ≠ -1 → Xi S 3 z.toNat = sort ∧ Xi S 4 z.toNat = which) ∧ (z = -1 → ∀ i : Nat, (i : Int) < Xi S 1 3 → Xi S 3 i = sort → Xi S 4 i ≠ which))
set_option maxRecDepth 100000 in
theorem t_vo_entryOf__p {S : sS} (hH : RI S) (sort : Int) (which : Int) (hsort : -2147483648 ≤ sort ∧ sort ≤ 2147483647) (hwhich : -2147483648 ≤ which ∧ which ≤ 2147483647) (d : Nat) : Mp lay0 (d + 1) m_vo_entryOf [.ref 1, iv sort, iv which] S (Q_vo_entryOf__p S sort which) := by
  refine Mp_R rfl rfl (fun fu => ?_)
  have w1 : -2147483648 ≤ Xi S 1 3 ∧ Xi S 1 3 ≤ 2147483647 := Xi_rgI
  have C2 : ∀ (n2 : Nat) (_ : n2 ≤ fu) (v3 : Int), (-2147483648 ≤ v3 ∧ v3 ≤ 2147483647) → (0 ≤ v3) → (∀ i : Nat, (i : Int) < v3 → Xi S 3 i = sort → Xi S 4 i ≠ which) → Pl n2 lay0 (d + 0) m_vo_entryOf 2 [(0, .ref 1), (1, iv sort), (2, iv which), (3, iv v3)] [] S (Q_vo_entryOf__p S sort which) := by
    intro n2
    induction n2 with
    | zero => intros; exact Pl_0
    | succ n2 ih2 =>
      intro hm2 v3 w2 w3 hq
      refine ys_iload_n rfl rfl ?_
      refine y_aload_n rfl rfl ?_
      refine y_gfi rfl rfl rfl rfl rfl ?_
      refine y_icmp_ge rfl rfl (by unfold rg; omega) (by unfold rg; omega) (fun w4 => ?_) (fun w5 => ?_)
      · refine y_iconst rfl ?_
        refine y_ireturn rfl rfl ?_
        exact ⟨rfl, _, rfl, ⟨by omega, by omega⟩, (by omega), (by omega), (by first | (intro hz; omega) | exact fun _ i hi => hq i (by omega))⟩
      · refine y_aload_n rfl rfl ?_
        refine y_gfr rfl rfl rfl rfl rfl (hH.r 1 1 3 rfl) ?_
        refine y_iload_n rfl rfl ?_
        refine y_ialoadP (n := 200) rfl rfl (by unfold rg; omega) (fun w6 w7 => ?_)
        have w8 : -2147483648 ≤ (Xi S 3 ((v3).toNat)) ∧ (Xi S 3 ((v3).toNat)) ≤ 2147483647 := Xi_rgI
        refine y_iload_n rfl rfl ?_
        refine y_icmp_ne rfl rfl (by unfold rg; omega) (by unfold rg; omega) (fun w9 => ?_) (fun w10 => ?_)
        · refine y_iinc rfl rfl rfl rfl ?_
          refine y_goto rfl rfl ?_
          exact Pl_weak (ih2 (by omega) ((v3 + 1)) (by omega) (by omega) (by first | (intro i hi; omega) | exact no_step hq (by omega) (by omega))) (by omega) (And.intro rfl (And.intro rfl (And.intro rfl (And.intro rfl (True.intro)))))
        · refine y_aload_n rfl rfl ?_
          refine y_gfr rfl rfl rfl rfl rfl (hH.r 1 2 4 rfl) ?_
          refine y_iload_n rfl rfl ?_
          refine y_ialoadP (n := 200) rfl rfl (by unfold rg; omega) (fun w11 w12 => ?_)
          have w13 : -2147483648 ≤ (Xi S 4 ((v3).toNat)) ∧ (Xi S 4 ((v3).toNat)) ≤ 2147483647 := Xi_rgI
          refine y_iload_n rfl rfl ?_
          refine y_icmp_ne rfl rfl (by unfold rg; omega) (by unfold rg; omega) (fun w14 => ?_) (fun w15 => ?_)
          · refine y_iinc rfl rfl rfl rfl ?_
            refine y_goto rfl rfl ?_
            exact Pl_weak (ih2 (by omega) ((v3 + 1)) (by omega) (by omega) (by first | (intro i hi; omega) | exact no_step hq (by omega) (by omega))) (by omega) (And.intro rfl (And.intro rfl (And.intro rfl (And.intro rfl (True.intro)))))
          · refine y_iload_n rfl rfl ?_
            refine y_ireturn rfl rfl ?_
            exact ⟨rfl, _, rfl, ⟨by omega, by omega⟩, (by omega), (by omega), (by first | (intro hz; omega) | exact fun _ i hi => hq i (by omega))⟩
  refine y_iconst rfl ?_
  refine y_istore_n rfl rfl rfl ?_
  exact Pl_weak (C2 fu (by omega) (0) (by omega) (by omega) (by first | (intro i hi; omega) | exact no_step hq (by omega) (by omega))) (by omega) (And.intro rfl (And.intro rfl (And.intro rfl (And.intro rfl (True.intro)))))
def md_vo_addEntry__p : List rec := [(1, 2, 3, 4), (2, 3, 0, 100000), (3, 4, 0, 100000), (4, 5, 0, 100000)]
abbrev Q_vo_addEntry__p (S : sS) (sort : Int) (which : Int) (word : Int) : pst := fun r S1 => RI S1 ∧ FR md_vo_addEntry__p S S1 ∧ (r = none ∧ (AEN S S1 sort which word 0 0))
set_option maxRecDepth 100000 in
theorem t_vo_addEntry__p {S : sS} (hH : RI S) (sort : Int) (which : Int) (word : Int) (hsort : 0 ≤ sort ∧ sort ≤ 14) (hwhich : 0 ≤ which ∧ which ≤ 63) (h13 : 0 ≤ Xi S 1 3 ∧ Xi S 1 3 ≤ 200) (h2 : Xi S 1 3 < 200) (rw : rgL word) (d : Nat) : Mp lay0 (d + 1) m_vo_addEntry [.ref 1, iv sort, iv which, jw word] S (Q_vo_addEntry__p S sort which word) := by
  refine Mp_R rfl rfl (fun fu => ?_)
  have hF : FR md_vo_addEntry__p S S := FR.rf
  have w1 : -2147483648 ≤ Xi S 1 3 ∧ Xi S 1 3 ≤ 2147483647 := Xi_rgI
  refine y_aload_n rfl rfl ?_
  refine y_gfi rfl rfl rfl rfl rfl ?_
  refine y_sipush rfl rfl ?_
  refine y_icmp_ge rfl rfl (by unfold rg; omega) (by unfold rg; omega) (fun w2 => ?_) (fun w3 => ?_)
  · refine y_return rfl rfl ?_
    exact ⟨hH, hF, rfl, (by first | (exfalso; omega) | exact aen_of eU1 eU2 eU3 eU4 eU5 eU6 (by omega) (by omega) rw (by unfold rgL; omega) (by unfold rgL; omega) (by unfold rg; omega) (by unfold rg; omega))⟩
  · refine y_aload_n rfl rfl ?_
    refine y_gfr rfl rfl rfl rfl rfl (hH.r 1 0 2 rfl) ?_
    refine y_iconst rfl ?_
    refine y_aload_n rfl rfl ?_
    refine y_gfi rfl rfl rfl rfl rfl ?_
    refine y_imul rfl ?_
    refine y_lload_n rfl rfl ?_
    refine y_lastoreP (n := 600) rfl rfl (by unfold rg; omega) (fun w4 w5 => ?_)
    obtain ⟨U1, eU1⟩ : ∃ T : sS, T = uJ S 2 (((3 * (Xi S 1 3))).toNat) (Int64.ofInt word) := ⟨_, rfl⟩
    rw [← eU1]
    have hHU1 : RI U1 := by rw [eU1]; exact RI_J hH
    have hFU1 : FR md_vo_addEntry__p S U1 := by rw [eU1]; exact FR.wJ hF (mdf_i (r := (2, 3, 0, 100000)) (List.mem_of_getElem? (i := 1) rfl) (inR_i (by omega) (by omega) (by omega) (by omega)))
    refine y_aload_n rfl rfl ?_
    refine y_gfr rfl rfl rfl rfl rfl (hHU1.r 1 0 2 rfl) ?_
    refine y_iconst rfl ?_
    refine y_aload_n rfl rfl ?_
    refine y_gfi rfl rfl rfl rfl rfl ?_
    have w6 : (Xi U1 1 3) = (Xi S 1 3) := (show Xi U1 1 3 = Xi S 1 3 from by rw [eU1]; rfl)
    rw [w6]
    refine y_imul rfl ?_
    refine y_iconst rfl ?_
    refine y_iadd rfl ?_
    refine y_lconst (z := 0) rfl rfl ?_
    refine y_lastoreP (n := 600) rfl rfl (by unfold rg; omega) (fun w7 w8 => ?_)
    obtain ⟨U2, eU2⟩ : ∃ T : sS, T = uJ U1 2 ((((3 * (Xi S 1 3)) + 1)).toNat) (Int64.ofInt 0) := ⟨_, rfl⟩
    rw [← eU2]
    have hHU2 : RI U2 := by rw [eU2]; exact RI_J hHU1
    have hFU2 : FR md_vo_addEntry__p S U2 := by rw [eU2]; exact FR.wJ hFU1 (mdf_i (r := (2, 3, 0, 100000)) (List.mem_of_getElem? (i := 1) rfl) (inR_i (by omega) (by omega) (by omega) (by omega)))
    refine y_aload_n rfl rfl ?_
    refine y_gfr rfl rfl rfl rfl rfl (hHU2.r 1 0 2 rfl) ?_
    refine y_iconst rfl ?_
    refine y_aload_n rfl rfl ?_
    refine y_gfi rfl rfl rfl rfl rfl ?_
    have w9 : (Xi U2 1 3) = (Xi S 1 3) := (show Xi U2 1 3 = Xi U1 1 3 from by rw [eU2]; rfl).trans ((show Xi U1 1 3 = Xi S 1 3 from by rw [eU1]; rfl))
    rw [w9]
    refine y_imul rfl ?_
    refine y_iconst rfl ?_
    refine y_iadd rfl ?_
    refine y_lconst (z := 0) rfl rfl ?_
    refine y_lastoreP (n := 600) rfl rfl (by unfold rg; omega) (fun w10 w11 => ?_)
    obtain ⟨U3, eU3⟩ : ∃ T : sS, T = uJ U2 2 ((((3 * (Xi S 1 3)) + 2)).toNat) (Int64.ofInt 0) := ⟨_, rfl⟩
    rw [← eU3]
    have hHU3 : RI U3 := by rw [eU3]; exact RI_J hHU2
    have hFU3 : FR md_vo_addEntry__p S U3 := by rw [eU3]; exact FR.wJ hFU2 (mdf_i (r := (2, 3, 0, 100000)) (List.mem_of_getElem? (i := 1) rfl) (inR_i (by omega) (by omega) (by omega) (by omega)))
    refine y_aload_n rfl rfl ?_
    refine y_gfr rfl rfl rfl rfl rfl (hHU3.r 1 1 3 rfl) ?_
    refine y_aload_n rfl rfl ?_
    refine y_gfi rfl rfl rfl rfl rfl ?_
    have w12 : (Xi U3 1 3) = (Xi S 1 3) := (show Xi U3 1 3 = Xi U2 1 3 from by rw [eU3]; rfl).trans ( (show Xi U2 1 3 = Xi U1 1 3 from by rw [eU2]; rfl).trans ((show Xi U1 1 3 = Xi S 1 3 from by rw [eU1]; rfl)))
    rw [w12]
    refine y_iload_n rfl rfl ?_
    refine y_iastoreP (n := 200) rfl rfl (by unfold rg; omega) (fun w13 w14 => ?_)
    obtain ⟨U4, eU4⟩ : ∃ T : sS, T = uI U3 3 (((Xi S 1 3)).toNat) (Int32.ofInt sort) := ⟨_, rfl⟩
    rw [← eU4]
    have hHU4 : RI U4 := by rw [eU4]; exact RI_w hHU3
    have hFU4 : FR md_vo_addEntry__p S U4 := by rw [eU4]; exact FR.wI hFU3 (mdf_i (r := (3, 4, 0, 100000)) (List.mem_of_getElem? (i := 2) rfl) (inR_i (by omega) (by omega) (by omega) (by omega)))
    have w15 : Xi U4 3 (((Xi S 1 3)).toNat) = sort := by rw [eU4]; exact Xi_same (by unfold rg; omega)
    refine y_aload_n rfl rfl ?_
    refine y_gfr rfl rfl rfl rfl rfl (hHU4.r 1 2 4 rfl) ?_
    refine y_aload_n rfl rfl ?_
    refine y_gfi rfl rfl rfl rfl rfl ?_
    have w16 : (Xi U4 1 3) = (Xi S 1 3) := (show Xi U4 1 3 = Xi U3 1 3 from by rw [eU4]; exact Xi_ne (by omega)).trans ( (show Xi U3 1 3 = Xi U2 1 3 from by rw [eU3]; rfl).trans ( (show Xi U2 1 3 = Xi U1 1 3 from by rw [eU2]; rfl).trans ((show Xi U1 1 3 = Xi S 1 3 from by rw [eU1]; rfl))))
    rw [w16]
    refine y_iload_n rfl rfl ?_
    refine y_iastoreP (n := 200) rfl rfl (by unfold rg; omega) (fun w17 w18 => ?_)
    obtain ⟨U5, eU5⟩ : ∃ T : sS, T = uI U4 4 (((Xi S 1 3)).toNat) (Int32.ofInt which) := ⟨_, rfl⟩
    rw [← eU5]
    have hHU5 : RI U5 := by rw [eU5]; exact RI_w hHU4
    have hFU5 : FR md_vo_addEntry__p S U5 := by rw [eU5]; exact FR.wI hFU4 (mdf_i (r := (4, 5, 0, 100000)) (List.mem_of_getElem? (i := 3) rfl) (inR_i (by omega) (by omega) (by omega) (by omega)))
    have w19 : Xi U5 4 (((Xi S 1 3)).toNat) = which := by rw [eU5]; exact Xi_same (by unfold rg; omega)
    refine y_aload_n rfl rfl ?_
    refine y_dup rfl rfl ?_
    refine y_gfi rfl rfl rfl rfl rfl ?_
    have w20 : (Xi U5 1 3) = (Xi S 1 3) := (show Xi U5 1 3 = Xi U4 1 3 from by rw [eU5]; exact Xi_ne (by omega)).trans ( (show Xi U4 1 3 = Xi U3 1 3 from by rw [eU4]; exact Xi_ne (by omega)).trans ( (show Xi U3 1 3 = Xi U2 1 3 from by rw [eU3]; rfl).trans ( (show Xi U2 1 3 = Xi U1 1 3 from by rw [eU2]; rfl).trans ((show Xi U1 1 3 = Xi S 1 3 from by rw [eU1]; rfl)))))
    rw [w20]
    refine y_iconst rfl ?_
    refine y_iadd rfl ?_
    refine y_pfi rfl rfl rfl rfl ?_
    obtain ⟨U6, eU6⟩ : ∃ T : sS, T = uI U5 1 3 (Int32.ofInt ((Xi S 1 3) + 1)) := ⟨_, rfl⟩
    rw [← eU6]
    have hHU6 : RI U6 := by rw [eU6]; exact RI_w hHU5
    have hFU6 : FR md_vo_addEntry__p S U6 := by rw [eU6]; exact FR.wI hFU5 (mdf_i (r := (1, 2, 3, 4)) (List.mem_of_getElem? (i := 0) rfl) (inR_i (by omega) (by omega) (by omega) (by omega)))
    have w21 : Xi U6 1 3 = ((Xi S 1 3) + 1) := by rw [eU6]; exact Xi_same (by unfold rg; omega)
    refine y_return rfl rfl ?_
    exact ⟨hHU6, hFU6, rfl, (by first | (exfalso; omega) | exact aen_of eU1 eU2 eU3 eU4 eU5 eU6 (by omega) (by omega) rw (by unfold rgL; omega) (by unfold rgL; omega) (by unfold rg; omega) (by unfold rg; omega))⟩
def md_vo_nameIt__p : List rec := [(1, 2, 3, 4), (2, 3, 0, 100000), (3, 4, 0, 100000), (4, 5, 0, 100000)]
abbrev Q_vo_nameIt__p (S : sS) (sort : Int) (which : Int) (k n : Nat) (from_ : Int) (to : Int) : pst := fun r S1 => RI S1 ∧ FR md_vo_nameIt__p S S1 ∧ (r = none ∧ (∃ i : Nat, NMI S S1 i sort which (wRw S k from_ to 0) (wRw S k from_ to 1) (wRw S k from_ to 2)))
set_option maxRecDepth 100000 in
theorem t_vo_nameIt__p {S : sS} (hH : RI S) (sort : Int) (which : Int) (k n : Nat) (from_ : Int) (to : Int) (hsort : 0 ≤ sort ∧ sort ≤ 14) (hwhich : 0 ≤ which ∧ which ≤ 63) (hlk : lay0 k = (2, n)) (hkk : k < 2000 ∧ n ≤ 5130) (hfrom_ : 0 ≤ from_ ∧ from_ ≤ 6000) (hto : 0 ≤ to ∧ to ≤ 6000) (h13 : 0 ≤ Xi S 1 3 ∧ Xi S 1 3 ≤ 200) (h2 : Xi S 1 3 < 200) (hk : k = 879 ∨ k = 894) (d : Nat) : Mp lay0 (d + 2) m_vo_nameIt [.ref 1, iv sort, iv which, .ref k, iv from_, iv to] S (Q_vo_nameIt__p S sort which k n from_ to) := by
  refine Mp_R rfl rfl (fun fu => ?_)
  have hF : FR md_vo_nameIt__p S S := FR.rf
  have w1 : -2147483648 ≤ Xi S 1 3 ∧ Xi S 1 3 ≤ 2147483647 := Xi_rgI
  have C27 : ∀  (T1 : sS) (_ : RI T1) (_ : FR md_vo_nameIt__p S T1) (v6 : Int), (-2147483648 ≤ v6 ∧ v6 ≤ 2147483647) → (0 ≤ v6 ∧ v6 < 200) → ((Xi T1 1 3 = Xi S 1 3 ∧ v6 < Xi S 1 3 ∧ Xi S 3 v6.toNat = sort ∧ Xi S 4 v6.toNat = which) ∨ (Xi T1 1 3 = Xi S 1 3 + 1 ∧ v6 = Xi S 1 3 ∧ ∀ j : Nat, (j : Int) < Xi S 1 3 → Xi S 3 j = sort → Xi S 4 j ≠ which)) → (Xi T1 3 v6.toNat = sort ∧ Xi T1 4 v6.toNat = which) → (∀ j : Nat, j ≠ v6.toNat → Xi T1 3 j = Xi S 3 j ∧ Xi T1 4 j = Xi S 4 j ∧ ∀ t, t < 3 → Xj T1 2 (3 * j + t) = Xj S 2 (3 * j + t)) → (∀ j, Xj T1 k j = Xj S k j) → Pl fu lay0 (d + 1) m_vo_nameIt 27 [(0, .ref 1), (3, .ref k), (4, iv from_), (5, iv to), (6, iv v6)] [] T1 (Q_vo_nameIt__p S sort which k n from_ to) := by
    intro T1 hHT1 hFT1 v6 w2 w3 A27 E27 O27 R27
    have w4 : -2147483648 ≤ Xi T1 1 3 ∧ Xi T1 1 3 ≤ 2147483647 := Xi_rgI
    have C30 : ∀ (n30 : Nat) (_ : n30 ≤ fu) (T2 : sS) (_ : RI T2) (_ : FR md_vo_nameIt__p S T2) (v6 : Int) (v7 : Int), (-2147483648 ≤ v6 ∧ v6 ≤ 2147483647) → (-2147483648 ≤ v7 ∧ v7 ≤ 2147483647) → (0 ≤ v6 ∧ v6 < 200) → ((Xi T2 1 3 = Xi S 1 3 ∧ v6 < Xi S 1 3 ∧ Xi S 3 v6.toNat = sort ∧ Xi S 4 v6.toNat = which) ∨ (Xi T2 1 3 = Xi S 1 3 + 1 ∧ v6 = Xi S 1 3 ∧ ∀ j : Nat, (j : Int) < Xi S 1 3 → Xi S 3 j = sort → Xi S 4 j ≠ which)) → (Xi T2 3 v6.toNat = sort ∧ Xi T2 4 v6.toNat = which) → (∀ j : Nat, j ≠ v6.toNat → Xi T2 3 j = Xi S 3 j ∧ Xi T2 4 j = Xi S 4 j ∧ ∀ t, t < 3 → Xj T2 2 (3 * j + t) = Xj S 2 (3 * j + t)) → (∀ j, Xj T2 k j = Xj S k j) → (0 ≤ v7 ∧ v7 ≤ 3) → (∀ t : Nat, (t : Int) < v7 → Xj T2 2 (3 * v6.toNat + t) = wRw S k from_ to t) → Pl n30 lay0 (d + 1) m_vo_nameIt 30 [(0, .ref 1), (3, .ref k), (4, iv from_), (5, iv to), (6, iv v6), (7, iv v7)] [] T2 (Q_vo_nameIt__p S sort which k n from_ to) := by
      intro n30
      induction n30 with
      | zero => intros; exact Pl_0
      | succ n30 ih30 =>
        intro hm30 T2 hHT2 hFT2 v6 v7 w5 w6 w7 A30 E30 O30 R30 w8 W30
        have w9 : -2147483648 ≤ Xi T2 1 3 ∧ Xi T2 1 3 ≤ 2147483647 := Xi_rgI
        refine ys_iload rfl rfl ?_
        refine y_iconst rfl ?_
        refine y_icmp_ge rfl rfl (by unfold rg; omega) (by unfold rg; omega) (fun w10 => ?_) (fun w11 => ?_)
        · refine y_return rfl rfl ?_
          exact ⟨hHT2, hFT2, rfl, (⟨v6.toNat, ⟨E30.1, E30.2, W30 0 (by omega), W30 1 (by omega), W30 2 (by omega)⟩, O30, by rw [show ((v6.toNat : Nat) : Int) = v6 by omega]; exact A30⟩)⟩
        · refine y_iload rfl rfl ?_
          refine y_sipush rfl rfl ?_
          refine y_icmp_ge rfl rfl (by unfold rg; omega) (by unfold rg; omega) (fun w12 => ?_) (fun w13 => ?_)
          · refine y_return rfl rfl ?_
            exact ⟨hHT2, hFT2, rfl, (⟨v6.toNat, ⟨E30.1, E30.2, W30 0 (by omega), W30 1 (by omega), W30 2 (by omega)⟩, O30, by rw [show ((v6.toNat : Nat) : Int) = v6 by omega]; exact A30⟩)⟩
          · refine y_aload_n rfl rfl ?_
            refine y_gfr rfl rfl rfl rfl rfl (hHT2.r 1 0 2 rfl) ?_
            refine y_iconst rfl ?_
            refine y_iload rfl rfl ?_
            refine y_imul rfl ?_
            refine y_iload rfl rfl ?_
            refine y_iadd rfl ?_
            refine y_iload rfl rfl ?_
            refine y_iload rfl rfl ?_
            refine y_iadd rfl ?_
            refine y_iload rfl rfl ?_
            refine y_icmp_ge rfl rfl (by unfold rg; omega) (by unfold rg; omega) (fun w14 => ?_) (fun w15 => ?_)
            · refine y_lconst (z := 0) rfl rfl ?_
              refine y_lastoreP (n := 600) rfl rfl (by unfold rg; omega) (fun w16 w17 => ?_)
              obtain ⟨U3, eU3⟩ : ∃ T : sS, T = uJ T2 2 ((((3 * v6) + v7)).toNat) (Int64.ofInt 0) := ⟨_, rfl⟩
              rw [← eU3]
              have hHU3 : RI U3 := by rw [eU3]; exact RI_J hHT2
              have hFU3 : FR md_vo_nameIt__p S U3 := by rw [eU3]; exact FR.wJ hFT2 (mdf_i (r := (2, 3, 0, 100000)) (List.mem_of_getElem? (i := 1) rfl) (inR_i (by omega) (by omega) (by omega) (by omega)))
              have R76 : ∀ j, Xj U3 k j = Xj S k j := fun j => by rw [eU3, Xj_ne (by omega)]; exact R30 j
              have E76 : Xi U3 3 v6.toNat = sort ∧ Xi U3 4 v6.toNat = which := by rw [eU3]; exact E30
              have O76 : ∀ j : Nat, j ≠ v6.toNat → Xi U3 3 j = Xi S 3 j ∧ Xi U3 4 j = Xi S 4 j ∧ ∀ t, t < 3 → Xj U3 2 (3 * j + t) = Xj S 2 (3 * j + t) := fun j hj => by obtain ⟨a, b, c⟩ := O30 j hj; exact ⟨by rw [eU3]; exact a, by rw [eU3]; exact b, fun t ht => by rw [eU3, Xj_ne (by omega)]; exact c t ht⟩
              have A76 : (Xi U3 1 3 = Xi S 1 3 ∧ v6 < Xi S 1 3 ∧ Xi S 3 v6.toNat = sort ∧ Xi S 4 v6.toNat = which) ∨ (Xi U3 1 3 = Xi S 1 3 + 1 ∧ v6 = Xi S 1 3 ∧ ∀ j : Nat, (j : Int) < Xi S 1 3 → Xi S 3 j = sort → Xi S 4 j ≠ which) := by have t := A30; rw [show Xi T2 1 3 = Xi U3 1 3 from by rw [eU3]; rfl] at t; exact t
              have W76 : ∀ t : Nat, (t : Int) < v7 + 1 → Xj U3 2 (3 * v6.toNat + t) = wRw S k from_ to t := fun t ht => (by omega : (t : Int) < v7 ∨ (t : Int) = v7).elim (fun q => by rw [eU3, Xj_ne (by omega)]; exact W30 t q) (fun q => by rw [eU3, show 3 * v6.toNat + t = (3 * v6 + v7).toNat by omega]; refine (Xj_same (by unfold rgL; omega)).trans ?_; unfold wRw; first | (rw [if_pos (by omega), ← R30]; exact congrArg (fun z : Int => Xj T2 k z.toNat) (by omega)) | (rw [if_neg (by omega)]))
              refine y_iinc rfl rfl rfl rfl ?_
              refine y_goto rfl rfl ?_
              have w18 : Xi U3 1 3 = Xi T2 1 3 := (show Xi U3 1 3 = Xi T2 1 3 from by rw [eU3]; rfl)
              exact Pl_weak (ih30 (by omega) U3 hHU3 hFU3 (v6) ((v7 + 1)) (by omega) (by omega) (by omega) (by first | exact A76 | exact A27) (by first | exact E76 | exact E27) (by first | exact O76 | exact O27) (by first | exact R76 | exact R27) (by omega) (by first | exact W76 | exact (fun t ht => absurd ht (by omega)))) (by omega) (And.intro rfl (And.intro rfl (And.intro rfl (And.intro rfl (And.intro rfl (And.intro rfl (True.intro)))))))
            · refine y_aload_n rfl rfl ?_
              refine y_iload rfl rfl ?_
              refine y_iload rfl rfl ?_
              refine y_iadd rfl ?_
              refine y_laloadP (n := n) rfl hlk (by unfold rg; omega) (fun w19 w20 => ?_)
              have w21 : -9223372036854775808 ≤ (Xj T2 k (((from_ + v7)).toNat)) ∧ (Xj T2 k (((from_ + v7)).toNat)) < 9223372036854775808 := Xj_rg
              refine y_goto rfl rfl ?_
              refine y_lastoreP (n := 600) rfl rfl (by unfold rg; omega) (fun w22 w23 => ?_)
              obtain ⟨U4, eU4⟩ : ∃ T : sS, T = uJ T2 2 ((((3 * v6) + v7)).toNat) (Int64.ofInt (Xj T2 k (((from_ + v7)).toNat))) := ⟨_, rfl⟩
              rw [← eU4]
              have hHU4 : RI U4 := by rw [eU4]; exact RI_J hHT2
              have hFU4 : FR md_vo_nameIt__p S U4 := by rw [eU4]; exact FR.wJ hFT2 (mdf_i (r := (2, 3, 0, 100000)) (List.mem_of_getElem? (i := 1) rfl) (inR_i (by omega) (by omega) (by omega) (by omega)))
              have R76 : ∀ j, Xj U4 k j = Xj S k j := fun j => by rw [eU4, Xj_ne (by omega)]; exact R30 j
              have E76 : Xi U4 3 v6.toNat = sort ∧ Xi U4 4 v6.toNat = which := by rw [eU4]; exact E30
              have O76 : ∀ j : Nat, j ≠ v6.toNat → Xi U4 3 j = Xi S 3 j ∧ Xi U4 4 j = Xi S 4 j ∧ ∀ t, t < 3 → Xj U4 2 (3 * j + t) = Xj S 2 (3 * j + t) := fun j hj => by obtain ⟨a, b, c⟩ := O30 j hj; exact ⟨by rw [eU4]; exact a, by rw [eU4]; exact b, fun t ht => by rw [eU4, Xj_ne (by omega)]; exact c t ht⟩
              have A76 : (Xi U4 1 3 = Xi S 1 3 ∧ v6 < Xi S 1 3 ∧ Xi S 3 v6.toNat = sort ∧ Xi S 4 v6.toNat = which) ∨ (Xi U4 1 3 = Xi S 1 3 + 1 ∧ v6 = Xi S 1 3 ∧ ∀ j : Nat, (j : Int) < Xi S 1 3 → Xi S 3 j = sort → Xi S 4 j ≠ which) := by have t := A30; rw [show Xi T2 1 3 = Xi U4 1 3 from by rw [eU4]; rfl] at t; exact t
              have W76 : ∀ t : Nat, (t : Int) < v7 + 1 → Xj U4 2 (3 * v6.toNat + t) = wRw S k from_ to t := fun t ht => (by omega : (t : Int) < v7 ∨ (t : Int) = v7).elim (fun q => by rw [eU4, Xj_ne (by omega)]; exact W30 t q) (fun q => by rw [eU4, show 3 * v6.toNat + t = (3 * v6 + v7).toNat by omega]; refine (Xj_same (by unfold rgL; omega)).trans ?_; unfold wRw; first | (rw [if_pos (by omega), ← R30]; exact congrArg (fun z : Int => Xj T2 k z.toNat) (by omega)) | (rw [if_neg (by omega)]))
              refine y_iinc rfl rfl rfl rfl ?_
              refine y_goto rfl rfl ?_
              have w24 : Xi U4 1 3 = Xi T2 1 3 := (show Xi U4 1 3 = Xi T2 1 3 from by rw [eU4]; rfl)
              exact Pl_weak (ih30 (by omega) U4 hHU4 hFU4 (v6) ((v7 + 1)) (by omega) (by omega) (by omega) (by first | exact A76 | exact A27) (by first | exact E76 | exact E27) (by first | exact O76 | exact O27) (by first | exact R76 | exact R27) (by omega) (by first | exact W76 | exact (fun t ht => absurd ht (by omega)))) (by omega) (And.intro rfl (And.intro rfl (And.intro rfl (And.intro rfl (And.intro rfl (And.intro rfl (True.intro)))))))
    refine y_iconst rfl ?_
    refine y_istore rfl rfl rfl ?_
    exact Pl_weak (C30 fu (by omega) T1 hHT1 hFT1 (v6) (0) (by omega) (by omega) (by omega) (by first | exact A76 | exact A27) (by first | exact E76 | exact E27) (by first | exact O76 | exact O27) (by first | exact R76 | exact R27) (by omega) (by first | exact W76 | exact (fun t ht => absurd ht (by omega)))) (by omega) (And.intro rfl (And.intro rfl (And.intro rfl (And.intro rfl (And.intro rfl (And.intro rfl (True.intro)))))))
  refine y_aload_n rfl rfl ?_
  refine y_iload_n rfl rfl ?_
  refine y_iload_n rfl rfl ?_
  refine y_callV rfl rfl rfl (t_vo_entryOf__p hH sort which ⟨by omega, by omega⟩ ⟨by omega, by omega⟩ _) ?_
  rintro _ _ ⟨rfl, z25, rfl, w25, p3, q3, r3⟩
  show Pl _ _ _ _ _ _ [iv z25] _ _
  refine y_istore rfl rfl rfl ?_
  refine y_iload rfl rfl ?_
  refine y_iconst rfl ?_
  refine y_icmp_ne rfl rfl (by unfold rg; omega) (by unfold rg; omega) (fun w26 => ?_) (fun w27 => ?_)
  · exact Pl_weak (C27 S hH hF (z25) (by omega) (by omega) (by first | exact Or.inr ⟨E24.2.2, rfl, r3 (by omega)⟩ | exact Or.inl ⟨rfl, by omega, q3 (by omega)⟩) (by first | exact ⟨E24.1.1, E24.1.2.1⟩ | exact q3 (by omega)) (by first | exact E24.2.1 | exact (fun j _ => ⟨rfl, rfl, fun _ _ => rfl⟩)) (by first | exact R24 | exact (fun _ => rfl))) (by omega) (And.intro rfl (And.intro rfl (And.intro rfl (And.intro rfl (And.intro rfl (True.intro))))))
  · refine y_aload_n rfl rfl ?_
    refine y_gfi rfl rfl rfl rfl rfl ?_
    refine y_istore rfl rfl rfl ?_
    refine y_aload_n rfl rfl ?_
    refine y_iload_n rfl rfl ?_
    refine y_iload_n rfl rfl ?_
    refine y_lconst (z := 0) rfl rfl ?_
    refine y_callV rfl rfl rfl (t_vo_addEntry__p hH sort which 0 ⟨by omega, by omega⟩ ⟨by omega, by omega⟩ (by first | assumption | omega) (by first | assumption | omega) (by unfold rgL; omega) _) ?_
    rintro _ T5 ⟨hHT5, w29, rfl, E24⟩
    have hFT5 : FR md_vo_nameIt__p S T5 := FR.tr hF w29 rfl
    show Pl _ _ _ _ _ _ [] _ _
    have R24 : ∀ j, Xj T5 k j = Xj S k j := fun j => by rcases hk with h | h <;> rw [h] <;> first | exact ((by assumption : FR md_vo_addEntry__p S T5).cx 879 rfl j).2 | exact ((by assumption : FR md_vo_addEntry__p S T5).cx 894 rfl j).2
    exact Pl_weak (C27 T5 hHT5 hFT5 ((Xi S 1 3)) (by omega) (by omega) (by first | exact Or.inr ⟨E24.2.2, rfl, r3 (by omega)⟩ | exact Or.inl ⟨rfl, by omega, q3 (by omega)⟩) (by first | exact ⟨E24.1.1, E24.1.2.1⟩ | exact q3 (by omega)) (by first | exact E24.2.1 | exact (fun j _ => ⟨rfl, rfl, fun _ _ => rfl⟩)) (by first | exact R24 | exact (fun _ => rfl))) (by omega) (And.intro rfl (And.intro rfl (And.intro rfl (And.intro rfl (And.intro rfl (True.intro))))))
abbrev Q_to_placeAt__p (S : sS) (row : Int) : pst := fun r S1 => S = S1 ∧ (∃ z : Int, r = some (iv z) ∧ (-2147483648 ≤ z ∧ z ≤ 2147483647) ∧ (z = pc7 S row))
set_option maxRecDepth 100000 in
theorem t_to_placeAt__p {S : sS} (hH : RI S) (row : Int) (hrow : -2147483648 ≤ row ∧ row ≤ 2147483647) (d : Nat) : Mp lay0 (d + 1) m_to_placeAt [.ref 876, iv row] S (Q_to_placeAt__p S row) := by
  refine Mp_R rfl rfl (fun fu => ?_)
  refine y_iload_n rfl rfl ?_
  refine y_if_lt rfl rfl (by unfold rg; omega) (fun w1 => ?_) (fun w2 => ?_)
  · refine y_aload_n rfl rfl ?_
    refine y_gfi rfl rfl rfl rfl rfl ?_
    have w3 : -2147483648 ≤ (Xi S 876 5) ∧ (Xi S 876 5) ≤ 2147483647 := Xi_rgI
    refine y_ireturn rfl rfl ?_
    exact ⟨rfl, _, rfl, ⟨by omega, by omega⟩, (by unfold pc7; first | (rw [if_pos (by omega)]) | (rw [if_neg (by omega)]))⟩
  · refine y_iload_n rfl rfl ?_
    refine y_aload_n rfl rfl ?_
    refine y_gfi rfl rfl rfl rfl rfl ?_
    have w4 : -2147483648 ≤ (Xi S 876 7) ∧ (Xi S 876 7) ≤ 2147483647 := Xi_rgI
    refine y_icmp_ge rfl rfl (by unfold rg; omega) (by unfold rg; omega) (fun w5 => ?_) (fun w6 => ?_)
    · refine y_aload_n rfl rfl ?_
      refine y_gfi rfl rfl rfl rfl rfl ?_
      have w7 : -2147483648 ≤ (Xi S 876 5) ∧ (Xi S 876 5) ≤ 2147483647 := Xi_rgI
      refine y_ireturn rfl rfl ?_
      exact ⟨rfl, _, rfl, ⟨by omega, by omega⟩, (by unfold pc7; first | (rw [if_pos (by omega)]) | (rw [if_neg (by omega)]))⟩
    · refine y_aload_n rfl rfl ?_
      refine y_gfr rfl rfl rfl rfl rfl (hH.r 876 1 878 rfl) ?_
      refine y_iload_n rfl rfl ?_
      refine y_ialoadP (n := 5130) rfl rfl (by unfold rg; omega) (fun w8 w9 => ?_)
      have w10 : -2147483648 ≤ (Xi S 878 ((row).toNat)) ∧ (Xi S 878 ((row).toNat)) ≤ 2147483647 := Xi_rgI
      refine y_goto rfl rfl ?_
      refine y_ireturn rfl rfl ?_
      exact ⟨rfl, _, rfl, ⟨by omega, by omega⟩, (by unfold pc7; first | (rw [if_pos (by omega)]) | (rw [if_neg (by omega)]))⟩
def md_to_wrong__p : List rec := [(876, 877, 8, 9), (876, 877, 9, 10)]
abbrev Q_to_wrong__p (S : sS) (code : Int) (row : Int) : pst := fun r S1 => RI S1 ∧ FR md_to_wrong__p S S1 ∧ (∃ z : Int, r = some (iv z) ∧ (0 ≤ z ∧ z ≤ 1) ∧ (z = 0) ∧ (Xi S 876 8 = 0 → Xi S1 876 8 = code ∧ Xi S1 876 9 = pc7 S row) ∧ (Xi S 876 8 ≠ 0 → Xi S1 876 8 = Xi S 876 8 ∧ Xi S1 876 9 = Xi S 876 9))
set_option maxRecDepth 100000 in
theorem t_to_wrong__p {S : sS} (hH : RI S) (code : Int) (row : Int) (hcode : -2147483648 ≤ code ∧ code ≤ 2147483647) (hrow : -2147483648 ≤ row ∧ row ≤ 2147483647) (d : Nat) : Mp lay0 (d + 1) m_to_wrong [.ref 876, iv code, iv row] S (Q_to_wrong__p S code row) := by
  refine Mp_R rfl rfl (fun fu => ?_)
  have hF : FR md_to_wrong__p S S := FR.rf
  have w1 : -2147483648 ≤ Xi S 876 5 ∧ Xi S 876 5 ≤ 2147483647 := Xi_rgI
  have w2 : -2147483648 ≤ Xi S 876 7 ∧ Xi S 876 7 ≤ 2147483647 := Xi_rgI
  have w3 : -2147483648 ≤ Xi S 876 8 ∧ Xi S 876 8 ≤ 2147483647 := Xi_rgI
  have w4 : -2147483648 ≤ Xi S 876 9 ∧ Xi S 876 9 ≤ 2147483647 := Xi_rgI
  refine y_aload_n rfl rfl ?_
  refine y_gfi rfl rfl rfl rfl rfl ?_
  refine y_if_ne rfl rfl (by unfold rg; omega) (fun w5 => ?_) (fun w6 => ?_)
  · refine y_iconst rfl ?_
    refine y_ireturn rfl rfl ?_
    exact ⟨hH, hF, _, rfl, ⟨by omega, by omega⟩, (rfl), (by first | (intro q; exfalso; omega) | (intro _; unfold pc7; first | (rw [if_pos (by omega)]; exact ⟨by omega, by omega⟩) | (rw [if_neg (by omega)]; exact ⟨by omega, by omega⟩))), (by first | (intro q; exfalso; omega) | (intro _; exact ⟨rfl, rfl⟩))⟩
  · refine y_aload_n rfl rfl ?_
    refine y_iload_n rfl rfl ?_
    refine y_pfi rfl rfl rfl rfl ?_
    obtain ⟨U1, eU1⟩ : ∃ T : sS, T = uI S 876 8 (Int32.ofInt code) := ⟨_, rfl⟩
    rw [← eU1]
    have hHU1 : RI U1 := by rw [eU1]; exact RI_w hH
    have hFU1 : FR md_to_wrong__p S U1 := by rw [eU1]; exact FR.wI hF (mdf_i (r := (876, 877, 8, 9)) (List.mem_of_getElem? (i := 0) rfl) (inR_i (by omega) (by omega) (by omega) (by omega)))
    have w7 : Xi U1 876 8 = code := by rw [eU1]; exact Xi_same (by unfold rg; omega)
    refine y_aload_n rfl rfl ?_
    refine y_iload_n rfl rfl ?_
    refine y_if_lt rfl rfl (by unfold rg; omega) (fun w8 => ?_) (fun w9 => ?_)
    · refine y_aload_n rfl rfl ?_
      refine y_gfi rfl rfl rfl rfl rfl ?_
      have w10 : (Xi U1 876 5) = (Xi S 876 5) := (show Xi U1 876 5 = Xi S 876 5 from by rw [eU1]; exact Xi_ne (by omega))
      rw [w10]
      refine y_pfi rfl rfl rfl rfl ?_
      obtain ⟨U2, eU2⟩ : ∃ T : sS, T = uI U1 876 9 (Int32.ofInt (Xi S 876 5)) := ⟨_, rfl⟩
      rw [← eU2]
      have hHU2 : RI U2 := by rw [eU2]; exact RI_w hHU1
      have hFU2 : FR md_to_wrong__p S U2 := by rw [eU2]; exact FR.wI hFU1 (mdf_i (r := (876, 877, 9, 10)) (List.mem_of_getElem? (i := 1) rfl) (inR_i (by omega) (by omega) (by omega) (by omega)))
      have w11 : Xi U2 876 9 = (Xi S 876 5) := by rw [eU2]; exact Xi_same (by unfold rg; omega)
      refine y_iconst rfl ?_
      refine y_ireturn rfl rfl ?_
      have w12 : Xi U2 876 5 = Xi S 876 5 := (show Xi U2 876 5 = Xi U1 876 5 from by rw [eU2]; exact Xi_ne (by omega)).trans ((show Xi U1 876 5 = Xi S 876 5 from by rw [eU1]; exact Xi_ne (by omega)))
      have w13 : Xi U2 876 7 = Xi S 876 7 := (show Xi U2 876 7 = Xi U1 876 7 from by rw [eU2]; exact Xi_ne (by omega)).trans ((show Xi U1 876 7 = Xi S 876 7 from by rw [eU1]; exact Xi_ne (by omega)))
      have w14 : Xi U2 876 8 = Xi U1 876 8 := (show Xi U2 876 8 = Xi U1 876 8 from by rw [eU2]; exact Xi_ne (by omega))
      exact ⟨hHU2, hFU2, _, rfl, ⟨by omega, by omega⟩, (rfl), (by first | (intro q; exfalso; omega) | (intro _; unfold pc7; first | (rw [if_pos (by omega)]; exact ⟨by omega, by omega⟩) | (rw [if_neg (by omega)]; exact ⟨by omega, by omega⟩))), (by first | (intro q; exfalso; omega) | (intro _; exact ⟨rfl, rfl⟩))⟩
    · refine y_iload_n rfl rfl ?_
      refine y_aload_n rfl rfl ?_
      refine y_gfi rfl rfl rfl rfl rfl ?_
      have w15 : (Xi U1 876 7) = (Xi S 876 7) := (show Xi U1 876 7 = Xi S 876 7 from by rw [eU1]; exact Xi_ne (by omega))
      rw [w15]
      refine y_icmp_ge rfl rfl (by unfold rg; omega) (by unfold rg; omega) (fun w16 => ?_) (fun w17 => ?_)
      · refine y_aload_n rfl rfl ?_
        refine y_gfi rfl rfl rfl rfl rfl ?_
        have w18 : (Xi U1 876 5) = (Xi S 876 5) := (show Xi U1 876 5 = Xi S 876 5 from by rw [eU1]; exact Xi_ne (by omega))
        rw [w18]
        refine y_pfi rfl rfl rfl rfl ?_
        obtain ⟨U3, eU3⟩ : ∃ T : sS, T = uI U1 876 9 (Int32.ofInt (Xi S 876 5)) := ⟨_, rfl⟩
        rw [← eU3]
        have hHU3 : RI U3 := by rw [eU3]; exact RI_w hHU1
        have hFU3 : FR md_to_wrong__p S U3 := by rw [eU3]; exact FR.wI hFU1 (mdf_i (r := (876, 877, 9, 10)) (List.mem_of_getElem? (i := 1) rfl) (inR_i (by omega) (by omega) (by omega) (by omega)))
        have w19 : Xi U3 876 9 = (Xi S 876 5) := by rw [eU3]; exact Xi_same (by unfold rg; omega)
        refine y_iconst rfl ?_
        refine y_ireturn rfl rfl ?_
        have w20 : Xi U3 876 5 = Xi S 876 5 := (show Xi U3 876 5 = Xi U1 876 5 from by rw [eU3]; exact Xi_ne (by omega)).trans ((show Xi U1 876 5 = Xi S 876 5 from by rw [eU1]; exact Xi_ne (by omega)))
        have w21 : Xi U3 876 7 = Xi S 876 7 := (show Xi U3 876 7 = Xi U1 876 7 from by rw [eU3]; exact Xi_ne (by omega)).trans ((show Xi U1 876 7 = Xi S 876 7 from by rw [eU1]; exact Xi_ne (by omega)))
        have w22 : Xi U3 876 8 = Xi U1 876 8 := (show Xi U3 876 8 = Xi U1 876 8 from by rw [eU3]; exact Xi_ne (by omega))
        exact ⟨hHU3, hFU3, _, rfl, ⟨by omega, by omega⟩, (rfl), (by first | (intro q; exfalso; omega) | (intro _; unfold pc7; first | (rw [if_pos (by omega)]; exact ⟨by omega, by omega⟩) | (rw [if_neg (by omega)]; exact ⟨by omega, by omega⟩))), (by first | (intro q; exfalso; omega) | (intro _; exact ⟨rfl, rfl⟩))⟩
      · refine y_aload_n rfl rfl ?_
        refine y_gfr rfl rfl rfl rfl rfl (hHU1.r 876 1 878 rfl) ?_
        refine y_iload_n rfl rfl ?_
        refine y_ialoadP (n := 5130) rfl rfl (by unfold rg; omega) (fun w23 w24 => ?_)
        have w25 : -2147483648 ≤ (Xi U1 878 ((row).toNat)) ∧ (Xi U1 878 ((row).toNat)) ≤ 2147483647 := Xi_rgI
        have p30 : (Xi U1 878 ((row).toNat)) = Xi S 878 row.toNat := by first | rfl | exact (hFU1.cx 878 rfl _).1
        refine y_goto rfl rfl ?_
        refine y_pfi rfl rfl rfl rfl ?_
        obtain ⟨U4, eU4⟩ : ∃ T : sS, T = uI U1 876 9 (Int32.ofInt (Xi U1 878 ((row).toNat))) := ⟨_, rfl⟩
        rw [← eU4]
        have hHU4 : RI U4 := by rw [eU4]; exact RI_w hHU1
        have hFU4 : FR md_to_wrong__p S U4 := by rw [eU4]; exact FR.wI hFU1 (mdf_i (r := (876, 877, 9, 10)) (List.mem_of_getElem? (i := 1) rfl) (inR_i (by omega) (by omega) (by omega) (by omega)))
        have w26 : Xi U4 876 9 = (Xi U1 878 ((row).toNat)) := by rw [eU4]; exact Xi_same (by unfold rg; omega)
        refine y_iconst rfl ?_
        refine y_ireturn rfl rfl ?_
        have w27 : Xi U4 876 5 = Xi S 876 5 := (show Xi U4 876 5 = Xi U1 876 5 from by rw [eU4]; exact Xi_ne (by omega)).trans ((show Xi U1 876 5 = Xi S 876 5 from by rw [eU1]; exact Xi_ne (by omega)))
        have w28 : Xi U4 876 7 = Xi S 876 7 := (show Xi U4 876 7 = Xi U1 876 7 from by rw [eU4]; exact Xi_ne (by omega)).trans ((show Xi U1 876 7 = Xi S 876 7 from by rw [eU1]; exact Xi_ne (by omega)))
        have w29 : Xi U4 876 8 = Xi U1 876 8 := (show Xi U4 876 8 = Xi U1 876 8 from by rw [eU4]; exact Xi_ne (by omega))
        exact ⟨hHU4, hFU4, _, rfl, ⟨by omega, by omega⟩, (rfl), (by first | (intro q; exfalso; omega) | (intro _; unfold pc7; first | (rw [if_pos (by omega)]; exact ⟨by omega, by omega⟩) | (rw [if_neg (by omega)]; exact ⟨by omega, by omega⟩))), (by first | (intro q; exfalso; omega) | (intro _; exact ⟨rfl, rfl⟩))⟩
abbrev Q_vo_countOf__p (S : sS) (s : Int) : pst := fun r S1 => S = S1 ∧ (∃ z : Int, r = some (iv z) ∧ (-2147483648 ≤ z ∧ z ≤ 2147483647) ∧ (0 ≤ s → s ≤ 8 → z = Xi S 5 s.toNat))
set_option maxRecDepth 100000 in
theorem t_vo_countOf__p {S : sS} (hH : RI S) (s : Int) (hs : -2147483648 ≤ s ∧ s ≤ 2147483647) (d : Nat) : Mp lay0 (d + 1) m_vo_countOf [.ref 1, iv s] S (Q_vo_countOf__p S s) := by
  refine Mp_R rfl rfl (fun fu => ?_)
  refine y_iload_n rfl rfl ?_
  refine y_if_lt rfl rfl (by unfold rg; omega) (fun w1 => ?_) (fun w2 => ?_)
  · refine y_iconst rfl ?_
    refine y_ireturn rfl rfl ?_
    exact ⟨rfl, _, rfl, ⟨by omega, by omega⟩, (by first | (intro a b; exfalso; omega) | (intro _ _; rfl))⟩
  · refine y_iload_n rfl rfl ?_
    refine y_aload_n rfl rfl ?_
    refine y_gfr rfl rfl rfl rfl rfl (hH.r 1 4 5 rfl) ?_
    refine y_alen (n := 9) (z := 9) rfl rfl rfl rfl rfl ?_
    refine y_icmp_ge rfl rfl (by unfold rg; omega) (by unfold rg; omega) (fun w3 => ?_) (fun w4 => ?_)
    · refine y_iconst rfl ?_
      refine y_ireturn rfl rfl ?_
      exact ⟨rfl, _, rfl, ⟨by omega, by omega⟩, (by first | (intro a b; exfalso; omega) | (intro _ _; rfl))⟩
    · refine y_aload_n rfl rfl ?_
      refine y_gfr rfl rfl rfl rfl rfl (hH.r 1 4 5 rfl) ?_
      refine y_iload_n rfl rfl ?_
      refine y_ialoadP (n := 9) rfl rfl (by unfold rg; omega) (fun w5 w6 => ?_)
      have w7 : -2147483648 ≤ (Xi S 5 ((s).toNat)) ∧ (Xi S 5 ((s).toNat)) ≤ 2147483647 := Xi_rgI
      refine y_goto rfl rfl ?_
      refine y_ireturn rfl rfl ?_
      exact ⟨rfl, _, rfl, ⟨by omega, by omega⟩, (by first | (intro a b; exfalso; omega) | (intro _ _; rfl))⟩
abbrev Q_vo_isKind__p (S : sS) (kind : Int) (other : Int) : pst := fun r S1 => S = S1 ∧ (∃ z : Int, r = some (iv z) ∧ (0 ≤ z ∧ z ≤ 1) ∧ (z = isK S kind other))
set_option maxRecDepth 100000 in
theorem t_vo_isKind__p {S : sS} (hH : RI S) (kind : Int) (other : Int) (hkind : -2147483648 ≤ kind ∧ kind ≤ 2147483647) (hother : -2147483648 ≤ other ∧ other ≤ 2147483647) (d : Nat) : Mp lay0 (d + 1) m_vo_isKind [.ref 1, iv kind, iv other] S (Q_vo_isKind__p S kind other) := by
  refine Mp_R rfl rfl (fun fu => ?_)
  have C5 : ∀ (n5 : Nat) (_ : n5 ≤ fu) (v3 : Int) (v4 : Int), (-2147483648 ≤ v3 ∧ v3 ≤ 2147483647) → (0 ≤ v4 ∧ v4 ≤ 16) → (isK S kind other = isKn S other (16 - v4).toNat v3) → Pl n5 lay0 (d + 0) m_vo_isKind 5 [(0, .ref 1), (2, iv other), (3, iv v3), (4, iv v4)] [] S (Q_vo_isKind__p S kind other) := by
    intro n5
    induction n5 with
    | zero => intros; exact Pl_0
    | succ n5 ih5 =>
      intro hm5 v3 v4 w1 w2 hq
      refine ys_iload rfl rfl ?_
      refine y_bipush rfl rfl ?_
      refine y_icmp_ge rfl rfl (by unfold rg; omega) (by unfold rg; omega) (fun w3 => ?_) (fun w4 => ?_)
      · refine y_iconst rfl ?_
        refine y_ireturn rfl rfl ?_
        exact ⟨rfl, _, rfl, ⟨by omega, by omega⟩, (by first | exact (hq.trans (isKn_f (by omega) (by omega) (by omega))).symm | exact (hq.trans (isKn_e (by omega))).symm)⟩
      · refine y_iload_n rfl rfl ?_
        refine y_if_lt rfl rfl (by unfold rg; omega) (fun w5 => ?_) (fun w6 => ?_)
        · refine y_iconst rfl ?_
          refine y_ireturn rfl rfl ?_
          exact ⟨rfl, _, rfl, ⟨by omega, by omega⟩, (by first | exact (hq.trans (isKn_f (by omega) (by omega) (by omega))).symm | exact (hq.trans (isKn_e (by omega))).symm)⟩
        · refine y_iload_n rfl rfl ?_
          refine y_iload_n rfl rfl ?_
          refine y_icmp_ne rfl rfl (by unfold rg; omega) (by unfold rg; omega) (fun w7 => ?_) (fun w8 => ?_)
          · refine y_aload_n rfl rfl ?_
            refine y_gfr rfl rfl rfl rfl rfl (hH.r 1 5 6 rfl) ?_
            refine y_iload_n rfl rfl ?_
            refine y_ialoadP (n := 16) rfl rfl (by unfold rg; omega) (fun w9 w10 => ?_)
            have w11 : -2147483648 ≤ (Xi S 6 ((v3).toNat)) ∧ (Xi S 6 ((v3).toNat)) ≤ 2147483647 := Xi_rgI
            refine y_istore_n rfl rfl rfl ?_
            refine y_iinc rfl rfl rfl rfl ?_
            refine y_goto rfl rfl ?_
            exact Pl_weak (ih5 (by omega) ((Xi S 6 ((v3).toNat))) ((v4 + 1)) (by omega) (by omega) (by first | exact hq.trans (isKn_s (by omega) (by omega) (by omega)) | rfl)) (by omega) (And.intro rfl (And.intro rfl (And.intro rfl (And.intro rfl (True.intro)))))
          · refine y_iconst rfl ?_
            refine y_ireturn rfl rfl ?_
            exact ⟨rfl, _, rfl, ⟨by omega, by omega⟩, (by first | exact (hq.trans (isKn_f (by omega) (by omega) (by omega))).symm | exact (hq.trans (isKn_e (by omega))).symm)⟩
  refine y_iload_n rfl rfl ?_
  refine y_istore_n rfl rfl rfl ?_
  refine y_iconst rfl ?_
  refine y_istore rfl rfl rfl ?_
  exact Pl_weak (C5 fu (by omega) (kind) (0) (by omega) (by omega) (by first | exact hq.trans (isKn_s (by omega) (by omega) (by omega)) | rfl)) (by omega) (And.intro rfl (And.intro rfl (And.intro rfl (And.intro rfl (True.intro)))))
abbrev Q_vo_propertiesOf__p (S : sS) (kind : Int) : pst := fun r S1 => S = S1 ∧ (∃ z : Int, r = some (iv z) ∧ (-2147483648 ≤ z ∧ z ≤ 2147483647) ∧ (z = pps S kind))
set_option maxRecDepth 100000 in
theorem t_vo_propertiesOf__p {S : sS} (hH : RI S) (kind : Int) (hkind : -2147483648 ≤ kind ∧ kind ≤ 2147483647) (d : Nat) : Mp lay0 (d + 1) m_vo_propertiesOf [.ref 1, iv kind] S (Q_vo_propertiesOf__p S kind) := by
  refine Mp_R rfl rfl (fun fu => ?_)
  have C7 : ∀ (n7 : Nat) (_ : n7 ≤ fu) (v2 : Int) (v3 : Int) (v4 : Int), (-2147483648 ≤ v2 ∧ v2 ≤ 2147483647) → (-2147483648 ≤ v3 ∧ v3 ≤ 2147483647) → (0 ≤ v4 ∧ v4 ≤ 16) → (pps S kind = ppn S (16 - v4).toNat v3 v2) → Pl n7 lay0 (d + 0) m_vo_propertiesOf 7 [(0, .ref 1), (2, iv v2), (3, iv v3), (4, iv v4)] [] S (Q_vo_propertiesOf__p S kind) := by
    intro n7
    induction n7 with
    | zero => intros; exact Pl_0
    | succ n7 ih7 =>
      intro hm7 v2 v3 v4 w1 w2 w3 hq
      refine ys_iload rfl rfl ?_
      refine y_bipush rfl rfl ?_
      refine y_icmp_ge rfl rfl (by unfold rg; omega) (by unfold rg; omega) (fun w4 => ?_) (fun w5 => ?_)
      · refine y_iload_n rfl rfl ?_
        refine y_ireturn rfl rfl ?_
        exact ⟨rfl, _, rfl, ⟨by omega, by omega⟩, ((hq.trans (ppn_e (by omega))).symm)⟩
      · refine y_iload_n rfl rfl ?_
        refine y_if_lt rfl rfl (by unfold rg; omega) (fun w6 => ?_) (fun w7 => ?_)
        · refine y_iload_n rfl rfl ?_
          refine y_ireturn rfl rfl ?_
          exact ⟨rfl, _, rfl, ⟨by omega, by omega⟩, ((hq.trans (ppn_e (by omega))).symm)⟩
        · refine y_iload_n rfl rfl ?_
          refine y_aload_n rfl rfl ?_
          refine y_gfr rfl rfl rfl rfl rfl (hH.r 1 6 7 rfl) ?_
          refine y_iload_n rfl rfl ?_
          refine y_ialoadP (n := 16) rfl rfl (by unfold rg; omega) (fun w8 w9 => ?_)
          have w10 : -2147483648 ≤ (Xi S 7 ((v3).toNat)) ∧ (Xi S 7 ((v3).toNat)) ≤ 2147483647 := Xi_rgI
          refine y_iorF rfl ?_
          have w11 : -2147483648 ≤ (iorF v2 (Xi S 7 ((v3).toNat))) ∧ (iorF v2 (Xi S 7 ((v3).toNat))) ≤ 2147483647 := iorF_rg
          have w11b : (0 : Int) ≤ v2 → (0 : Int) ≤ (Xi S 7 ((v3).toNat)) → 0 ≤ (iorF v2 (Xi S 7 ((v3).toNat))) := iorF_nn (by unfold rg; omega) (by unfold rg; omega)
          refine y_istore_n rfl rfl rfl ?_
          refine y_aload_n rfl rfl ?_
          refine y_gfr rfl rfl rfl rfl rfl (hH.r 1 5 6 rfl) ?_
          refine y_iload_n rfl rfl ?_
          refine y_ialoadP (n := 16) rfl rfl (by unfold rg; omega) (fun w12 w13 => ?_)
          have w14 : -2147483648 ≤ (Xi S 6 ((v3).toNat)) ∧ (Xi S 6 ((v3).toNat)) ≤ 2147483647 := Xi_rgI
          refine y_istore_n rfl rfl rfl ?_
          refine y_iinc rfl rfl rfl rfl ?_
          refine y_goto rfl rfl ?_
          exact Pl_weak (ih7 (by omega) ((iorF v2 (Xi S 7 ((v3).toNat)))) ((Xi S 6 ((v3).toNat))) ((v4 + 1)) (by omega) (by omega) (by omega) (by first | exact hq.trans (ppn_s (by omega) (by omega)) | rfl)) (by omega) (And.intro rfl (And.intro rfl (And.intro rfl (And.intro rfl (True.intro)))))
  refine y_iconst rfl ?_
  refine y_istore_n rfl rfl rfl ?_
  refine y_iload_n rfl rfl ?_
  refine y_istore_n rfl rfl rfl ?_
  refine y_iconst rfl ?_
  refine y_istore rfl rfl rfl ?_
  exact Pl_weak (C7 fu (by omega) (0) (kind) (0) (by omega) (by omega) (by omega) (by first | exact hq.trans (ppn_s (by omega) (by omega)) | rfl)) (by omega) (And.intro rfl (And.intro rfl (And.intro rfl (And.intro rfl (True.intro)))))
def md_vo_tellNew__p : List rec := [(1, 2, 3, 4), (2, 3, 0, 100000), (3, 4, 0, 100000), (4, 5, 0, 100000), (5, 6, 0, 100000)]
abbrev Q_vo_tellNew__p (S : sS) (sort : Int) (k n : Nat) (from_ : Int) (to : Int) : pst := fun r S1 => RI S1 ∧ FR md_vo_tellNew__p S S1 ∧ (∃ z : Int, r = some (iv z) ∧ (-2147483648 ≤ z ∧ z ≤ 2147483647) ∧ (z = Xi S 5 sort.toNat) ∧ (Xi S1 5 sort.toNat = Xi S 5 sort.toNat + 1) ∧ (∀ j, j ≠ sort.toNat → Xi S1 5 j = Xi S 5 j) ∧ (∃ i : Nat, NMI S S1 i sort z (wRw S k from_ to 0) (wRw S k from_ to 1) (wRw S k from_ to 2)))
set_option maxRecDepth 100000 in
theorem t_vo_tellNew__p {S : sS} (hH : RI S) (sort : Int) (k n : Nat) (from_ : Int) (to : Int) (hsort : 0 ≤ sort ∧ sort ≤ 8) (hlk : lay0 k = (2, n)) (hkk : k < 2000 ∧ n ≤ 5130) (hfrom_ : 0 ≤ from_ ∧ from_ ≤ 6000) (hto : 0 ≤ to ∧ to ≤ 6000) (h13 : 0 ≤ Xi S 1 3 ∧ Xi S 1 3 ≤ 200) (h2 : Xi S 1 3 < 200) (hk : k = 879 ∨ k = 894) (hc : 0 ≤ Xi S 5 sort.toNat ∧ Xi S 5 sort.toNat ≤ 62) (d : Nat) : Mp lay0 (d + 3) m_vo_tellNew [.ref 1, iv sort, .ref k, iv from_, iv to] S (Q_vo_tellNew__p S sort k n from_ to) := by
  refine Mp_R rfl rfl (fun fu => ?_)
  have hF : FR md_vo_tellNew__p S S := FR.rf
  have w1 : -2147483648 ≤ Xi S 1 3 ∧ Xi S 1 3 ≤ 2147483647 := Xi_rgI
  refine y_aload_n rfl rfl ?_
  refine y_gfr rfl rfl rfl rfl rfl (hH.r 1 4 5 rfl) ?_
  refine y_iload_n rfl rfl ?_
  refine y_ialoadP (n := 9) rfl rfl (by unfold rg; omega) (fun w2 w3 => ?_)
  have w4 : -2147483648 ≤ (Xi S 5 ((sort).toNat)) ∧ (Xi S 5 ((sort).toNat)) ≤ 2147483647 := Xi_rgI
  refine y_istore rfl rfl rfl ?_
  refine y_aload_n rfl rfl ?_
  refine y_gfr rfl rfl rfl rfl rfl (hH.r 1 4 5 rfl) ?_
  refine y_iload_n rfl rfl ?_
  refine y_dup2 rfl rfl ?_
  refine y_ialoadP (n := 9) rfl rfl (by unfold rg; omega) (fun w5 w6 => ?_)
  refine y_iconst rfl ?_
  refine y_iadd rfl ?_
  refine y_iastoreP (n := 9) rfl rfl (by unfold rg; omega) (fun w7 w8 => ?_)
  obtain ⟨U1, eU1⟩ : ∃ T : sS, T = uI S 5 ((sort).toNat) (Int32.ofInt ((Xi S 5 ((sort).toNat)) + 1)) := ⟨_, rfl⟩
  rw [← eU1]
  have hHU1 : RI U1 := by rw [eU1]; exact RI_w hH
  have hFU1 : FR md_vo_tellNew__p S U1 := by rw [eU1]; exact FR.wI hF (mdf_i (r := (5, 6, 0, 100000)) (List.mem_of_getElem? (i := 4) rfl) (inR_i (by omega) (by omega) (by omega) (by omega)))
  have w9 : Xi U1 5 ((sort).toNat) = ((Xi S 5 ((sort).toNat)) + 1) := by rw [eU1]; exact Xi_same (by unfold rg; omega)
  refine y_aload_n rfl rfl ?_
  refine y_iload_n rfl rfl ?_
  refine y_iload rfl rfl ?_
  refine y_aload_n rfl rfl ?_
  refine y_iload_n rfl rfl ?_
  refine y_iload rfl rfl ?_
  have w10 : Xi U1 1 3 = Xi S 1 3 := (show Xi U1 1 3 = Xi S 1 3 from by rw [eU1]; exact Xi_ne (by omega))
  refine y_callV rfl rfl rfl (t_vo_nameIt__p hHU1 sort (Xi S 5 ((sort).toNat)) k n from_ to ⟨by omega, by omega⟩ ⟨by omega, by omega⟩ hlk hkk ⟨by omega, by omega⟩ ⟨by omega, by omega⟩ (by omega) (by omega) (by first | assumption | omega) _) ?_
  rintro _ T2 ⟨hHT2, w12, rfl, e26⟩
  have hFT2 : FR md_vo_tellNew__p S T2 := FR.tr hFU1 w12 rfl
  show Pl _ _ _ _ _ _ [] _ _
  refine y_iload rfl rfl ?_
  refine y_ireturn rfl rfl ?_
  exact ⟨hHT2, hFT2, _, rfl, ⟨by omega, by omega⟩, (rfl), (by rw [((by assumption : FR md_vo_nameIt__p U1 T2).cx 5 rfl _).1]; omega), (fun j hj => by rw [((by assumption : FR md_vo_nameIt__p U1 T2).cx 5 rfl j).1, eU1, Xi_ne (by omega)]), (by obtain ⟨i, hi⟩ := e26; refine ⟨i, ?_⟩; have w : ∀ t, wRw U1 k from_ to t = wRw S k from_ to t := fun t => (by unfold wRw; rw [eU1, Xj_I]); rw [w, w, w] at hi; exact NMI_pre hi (fun j => by rw [eU1, Xi_ne (by omega)]) (fun j => by rw [eU1, Xi_ne (by omega)]) (fun j => by rw [eU1, Xj_I]) (by rw [eU1, Xi_ne (by omega)]))⟩
end
