section
/-! rules of the reference: ACTING without ART RUN -/
def acQ (S : sS) (f n tr m : Int) : Prop := msR S f m 11 ≠ -1 ∧ msR S (f + m) (n - m) 4 ≠ -1 ∧ 0 ≤ Xi S 942 (msR S f m 11).toNat ∧ (tr ≠ 0 ∨ blR S (Xi S 918 (msR S (f + m) (n - m) 4).toNat) (Xi S 942 (msR S f m 11).toNat) ≠ 0)
noncomputable def acF (S : sS) (f n tr : Int) : Nat → Int × Int × Int
  | 0 => if msR S f n 11 ≠ -1 ∧ (tr = 0 ∨ Xi S 942 (msR S f n 11).toNat = -1) then (msR S f n 11, -1, 1) else (0, 0, 0)
  | k + 1 => @ite (Int × Int × Int) (acQ S f n tr ((k : Int) + 1)) (Classical.propDecidable _) (if (acF S f n tr k).2.2 = 0 then (msR S f ((k : Int) + 1) 11, msR S (f + ((k : Int) + 1)) (n - ((k : Int) + 1)) 4, 1) else ((acF S f n tr k).1, (acF S f n tr k).2.1, (acF S f n tr k).2.2 + 1)) (acF S f n tr k)
def acK (n : Int) : Nat := if n ≤ 3 then (n - 1).toNat else 3
def ACL (S T : sS) (f n tr m c : Int) : Prop := (acF S f n tr (m - 1).toNat).2.2 = c ∧ (0 < c → Xi T 904 128 = (acF S f n tr (m - 1).toNat).1 ∧ Xi T 904 129 = (acF S f n tr (m - 1).toNat).2.1)
def ACO (S S1 : sS) (rn tr z : Int) : Prop := (acF S (Xi S 950 rn.toNat) (Xi S 951 rn.toNat) tr (acK (Xi S 951 rn.toNat))).2.2 = z ∧ (0 < z → Xi S1 904 128 = (acF S (Xi S 950 rn.toNat) (Xi S 951 rn.toNat) tr (acK (Xi S 951 rn.toNat))).1 ∧ Xi S1 904 129 = (acF S (Xi S 950 rn.toNat) (Xi S 951 rn.toNat) tr (acK (Xi S 951 rn.toNat))).2.1)
theorem acl_0 {S : sS} {f n tr m : Int} (hm : m = 1) (h : ¬ (msR S f n 11 ≠ -1 ∧ (tr = 0 ∨ Xi S 942 (msR S f n 11).toNat = -1))) : ACL S S f n tr m 0 := by
  unfold ACL
  rw [hm, show ((1 : Int) - 1).toNat = 0 by decide, acF, if_neg h]
  exact ⟨rfl, fun q => absurd q (by decide)⟩
theorem acl_1 {S A T : sS} {f n tr m a : Int} (hm : m = 1) (ha : a = msR S f n 11) (ra : rg a) (h : a ≠ -1 ∧ (tr = 0 ∨ Xi S 942 a.toNat = -1)) (e1 : A = uI S 904 128 (Int32.ofInt a)) (e2 : T = uI A 904 129 (Int32.ofInt (-1))) : ACL S T f n tr m 1 := by
  unfold ACL
  rw [hm, show ((1 : Int) - 1).toNat = 0 by decide, acF, if_pos (by rw [← ha]; exact h)]
  exact ⟨rfl, fun _ => ⟨by rw [e2, Xi_ne (by omega), e1, Xi_same ra]; exact ha, by rw [e2, Xi_same ⟨by decide, by decide⟩]⟩⟩
theorem acx_e {m : Int} (hm : 1 ≤ m) : (m + 1 - 1).toNat = (m - 1).toNat + 1 ∧ (((m - 1).toNat : Nat) : Int) + 1 = m := by omega
theorem acl_n {S T : sS} {f n tr m c : Int} (h : ACL S T f n tr m c) (hm : 1 ≤ m) (q : ¬ acQ S f n tr m) : ACL S T f n tr (m + 1) c := by
  unfold ACL at h ⊢
  rw [(acx_e hm).1, acF, (acx_e hm).2, if_neg q]
  exact h
theorem acl_f {S T A U : sS} {f n tr m c a o : Int} (h : ACL S T f n tr m c) (hm : 1 ≤ m) (q : acQ S f n tr m) (hc : c = 0) (ha : a = msR S f m 11) (ho : o = msR S (f + m) (n - m) 4) (ra : rg a) (ro : rg o) (e1 : A = uI T 904 128 (Int32.ofInt a)) (e2 : U = uI A 904 129 (Int32.ofInt o)) : ACL S U f n tr (m + 1) (c + 1) := by
  unfold ACL at h ⊢
  rw [(acx_e hm).1, acF, (acx_e hm).2, if_pos q, if_pos (h.1.trans hc), hc]
  exact ⟨rfl, fun _ => ⟨by rw [e2, Xi_ne (by omega), e1, Xi_same ra]; exact ha, by rw [e2, Xi_same ro]; exact ho⟩⟩
theorem acl_y {S T U : sS} {f n tr m c : Int} (h : ACL S T f n tr m c) (hm : 1 ≤ m) (q : acQ S f n tr m) (hc : 0 < c) (e1 : Xi U 904 128 = Xi T 904 128) (e2 : Xi U 904 129 = Xi T 904 129) : ACL S U f n tr (m + 1) (c + 1) := by
  unfold ACL at h ⊢
  rw [(acx_e hm).1, acF, (acx_e hm).2, if_pos q, if_neg (by omega)]
  exact ⟨by show _ + 1 = _; rw [h.1], fun _ => ⟨e1.trans (h.2 hc).1, e2.trans (h.2 hc).2⟩⟩
theorem aco_i {S T : sS} {rn tr m c f n : Int} (h : ACL S T f n tr m c) (hf : f = Xi S 950 rn.toNat) (hn : n = Xi S 951 rn.toNat) (hm : (1 ≤ m ∧ m ≤ 4) ∧ (m = 1 ∨ m ≤ n) ∧ (n ≤ m ∨ 3 < m)) : ACO S T rn tr c := by
  subst hf hn
  unfold ACL at h
  unfold ACO
  rw [show acK (Xi S 951 rn.toNat) = (m - 1).toNat by unfold acK; split <;> omega]
  exact h

def md_mo_actings__p : List rec := [(904, 905, 128, 129), (904, 905, 129, 130)]
abbrev Q_mo_actings__p (S : sS) (rn : Int) (isTry : Int) : pst := fun r S1 => RI S1 ∧ FR md_mo_actings__p S S1 ∧ (∃ z : Int, r = some (iv z) ∧ (-2147483648 ≤ z ∧ z ≤ 2147483647) ∧ (ACO S S1 rn isTry z))
set_option maxRecDepth 100000 in
theorem t_mo_actings__p {S : sS} (hH : RI S) (rn : Int) (isTry : Int) (hrn : 0 ≤ rn ∧ rn ≤ 2599) (hisTry : 0 ≤ isTry ∧ isTry ≤ 1) (hLS : LSP S) (h15 : 0 ≤ Xi S 904 15) (hB : ABV S) (hkx : Hid (∀ j : Nat, -1 ≤ Xi S 918 j ∧ Xi S 918 j ≤ 15)) (hrn : 0 ≤ (Xi S 950 rn.toNat) ∧ (Xi S 950 rn.toNat) ≤ 6000 ∧ 0 ≤ (Xi S 951 rn.toNat) ∧ (Xi S 951 rn.toNat) ≤ 6000) (d : Nat) : Mp lay0 (d + 4) m_mo_actings [.ref 904, iv rn, iv isTry] S (Q_mo_actings__p S rn isTry) := by
  refine Mp_R rfl rfl (fun fu => ?_)
  have hF : FR md_mo_actings__p S S := FR.rf
  have w1 : -2147483648 ≤ Xi S 904 15 ∧ Xi S 904 15 ≤ 2147483647 := Xi_rgI
  have C67 : ∀ (n67 : Nat) (_ : n67 ≤ fu) (T1 : sS) (_ : RI T1) (_ : FR md_mo_actings__p S T1) (v3 : Int) (v4 : Int) (v5 : Int) (v7 : Int), (0 ≤ v3 ∧ v3 ≤ 6000) → (0 ≤ v4 ∧ v4 ≤ 6000) → (0 ≤ v5 ∧ v5 ≤ 4) → (1 ≤ v7 ∧ v7 ≤ 4) → (v3 = (Xi S 950 rn.toNat)) → (v4 = (Xi S 951 rn.toNat)) → (1 ≤ v7 ∧ v7 ≤ 4) → (v7 = 1 ∨ v7 ≤ v4) → (0 ≤ v5 ∧ v5 ≤ v7) → (Hid (ACL S T1 v3 v4 isTry v7 v5)) → Pl n67 lay0 (d + 3) m_mo_actings 67 [(0, .ref 904), (2, iv isTry), (3, iv v3), (4, iv v4), (5, iv v5), (7, iv v7)] [] T1 (Q_mo_actings__p S rn isTry) := by
    intro n67
    induction n67 with
    | zero => intros; exact Pl_0
    | succ n67 ih67 =>
      intro hm67 T1 hHT1 hFT1 v3 v4 v5 v7 w2 w3 w4 w5 w6 w7 w8 w9 w10 A67
      have w11 : Xi T1 904 15 = Xi S 904 15 := hFT1.x _ _ rfl
      refine ys_iload rfl rfl ?_
      refine y_iload rfl rfl ?_
      refine y_icmp_ge rfl rfl (by unfold rg; omega) (by unfold rg; omega) (fun w12 => ?_) (fun w13 => ?_)
      · refine y_iload rfl rfl ?_
        refine y_ireturn rfl rfl ?_
        exact ⟨hHT1, hFT1, _, rfl, ⟨by omega, by omega⟩, (aco_i A67.o (by omega) (by omega) (by omega))⟩
      · refine y_iload rfl rfl ?_
        refine y_iconst rfl ?_
        refine y_icmp_gt rfl rfl (by unfold rg; omega) (by unfold rg; omega) (fun w14 => ?_) (fun w15 => ?_)
        · refine y_iload rfl rfl ?_
          refine y_ireturn rfl rfl ?_
          exact ⟨hHT1, hFT1, _, rfl, ⟨by omega, by omega⟩, (aco_i A67.o (by omega) (by omega) (by omega))⟩
        · refine y_aload_n rfl rfl ?_
          refine y_iload_n rfl rfl ?_
          refine y_iload rfl rfl ?_
          refine y_bipush rfl rfl ?_
          refine y_callV rfl rfl rfl (t_mo_means__p hHT1 v3 v7 11 ⟨by omega, by omega⟩ ⟨by omega, by omega⟩ ⟨by omega, by omega⟩ (by first | assumption | exact (LSP_FR hFT1 rfl rfl (by assumption : LSP S))) (by first | assumption | omega) _) ?_
          rintro _ _ ⟨rfl, z16, rfl, w16, f86⟩
          show Pl _ _ _ _ _ _ [iv z16] _ _
          have m86 : z16 = msR S v3 v7 11 := f86.trans (msR_FR hFT1 rfl)
          refine y_istore rfl rfl rfl ?_
          refine y_aload_n rfl rfl ?_
          refine y_iload_n rfl rfl ?_
          refine y_iload rfl rfl ?_
          refine y_iadd rfl ?_
          refine y_iload rfl rfl ?_
          refine y_iload rfl rfl ?_
          refine y_isub rfl ?_
          refine y_iconst rfl ?_
          refine y_callV rfl rfl rfl (t_mo_means__p hHT1 (v3 + v7) (v4 - v7) 4 ⟨by omega, by omega⟩ ⟨by omega, by omega⟩ ⟨by omega, by omega⟩ (by first | assumption | exact (LSP_FR hFT1 rfl rfl (by assumption : LSP S))) (by first | assumption | omega) _) ?_
          rintro _ _ ⟨rfl, z17, rfl, w17, f102⟩
          show Pl _ _ _ _ _ _ [iv z17] _ _
          have m102 : z17 = msR S (v3 + v7) (v4 - v7) 4 := f102.trans (msR_FR hFT1 rfl)
          refine y_istore rfl rfl rfl ?_
          refine y_iload rfl rfl ?_
          refine y_iconst rfl ?_
          refine y_icmp_eq rfl rfl (by unfold rg; omega) (by unfold rg; omega) (fun w18 => ?_) (fun w19 => ?_)
          · refine y_iinc rfl rfl rfl rfl ?_
            have C193 : Hid (ACL S T1 v3 v4 isTry (v7 + 1) v5) := by first | (have u := Q154; first | exact acl_f A67.o (by omega) Q154 (by omega) m86 m102 (by unfold rg; omega) (by unfold rg; omega) e169 e187 | exact acl_y A67.o (by omega) Q154 (by omega) (by rw [e187, Xi_ne (by omega), e169]; exact Xi_same (by unfold rg; omega)) (by rw [e187]; refine (Xi_same (by unfold rg; omega)).trans ?_; rw [e169, Xi_ne (by omega)])) | (have u := b148; exact acl_n A67.o (by omega) (fun q => by rcases q.2.2.2 with w | w; omega; (rw [← b148] at w; omega))) | (have u := k125; exact acl_n A67.o (by omega) (fun q => by have w := q.2.2.1; rw [← k125] at w; omega)) | exact acl_n A67.o (by omega) (fun q => q.2.1 (by rw [← m102]; omega)) | exact acl_n A67.o (by omega) (fun q => q.1 (by rw [← m86]; omega))
            refine y_goto rfl rfl ?_
            exact Pl_weak (ih67 (by omega) T1 hHT1 hFT1 (v3) (v4) (v5) ((v7 + 1)) (by omega) (by omega) (by omega) (by omega) (by omega) (by omega) (by omega) (by omega) (by omega) (by first | exact C193 | exact A65)) (by omega) (And.intro rfl (And.intro rfl (And.intro rfl (And.intro rfl (And.intro rfl (And.intro rfl (True.intro)))))))
          · refine y_iload rfl rfl ?_
            refine y_iconst rfl ?_
            refine y_icmp_eq rfl rfl (by unfold rg; omega) (by unfold rg; omega) (fun w20 => ?_) (fun w21 => ?_)
            · refine y_iinc rfl rfl rfl rfl ?_
              have C193 : Hid (ACL S T1 v3 v4 isTry (v7 + 1) v5) := by first | (have u := Q154; first | exact acl_f A67.o (by omega) Q154 (by omega) m86 m102 (by unfold rg; omega) (by unfold rg; omega) e169 e187 | exact acl_y A67.o (by omega) Q154 (by omega) (by rw [e187, Xi_ne (by omega), e169]; exact Xi_same (by unfold rg; omega)) (by rw [e187]; refine (Xi_same (by unfold rg; omega)).trans ?_; rw [e169, Xi_ne (by omega)])) | (have u := b148; exact acl_n A67.o (by omega) (fun q => by rcases q.2.2.2 with w | w; omega; (rw [← b148] at w; omega))) | (have u := k125; exact acl_n A67.o (by omega) (fun q => by have w := q.2.2.1; rw [← k125] at w; omega)) | exact acl_n A67.o (by omega) (fun q => q.2.1 (by rw [← m102]; omega)) | exact acl_n A67.o (by omega) (fun q => q.1 (by rw [← m86]; omega))
              refine y_goto rfl rfl ?_
              exact Pl_weak (ih67 (by omega) T1 hHT1 hFT1 (v3) (v4) (v5) ((v7 + 1)) (by omega) (by omega) (by omega) (by omega) (by omega) (by omega) (by omega) (by omega) (by omega) (by first | exact C193 | exact A65)) (by omega) (And.intro rfl (And.intro rfl (And.intro rfl (And.intro rfl (And.intro rfl (And.intro rfl (True.intro)))))))
            · refine y_aload_n rfl rfl ?_
              refine y_gfr rfl rfl rfl rfl rfl (hHT1.r 904 50 942 rfl) ?_
              refine y_iload rfl rfl ?_
              refine y_ialoadP (n := 12) rfl rfl (by unfold rg; omega) (fun w22 w23 => ?_)
              have w24 : -2147483648 ≤ (Xi T1 942 ((z16).toNat)) ∧ (Xi T1 942 ((z16).toNat)) ≤ 2147483647 := Xi_rgI
              have k125 : (Xi T1 942 ((z16).toNat)) = Xi S 942 (msR S v3 v7 11).toNat := by rw [← m86]; exact (hFT1.cx 942 rfl _).1
              refine y_if_lt rfl rfl (by unfold rg; omega) (fun w25 => ?_) (fun w26 => ?_)
              · refine y_iinc rfl rfl rfl rfl ?_
                have C193 : Hid (ACL S T1 v3 v4 isTry (v7 + 1) v5) := by first | (have u := Q154; first | exact acl_f A67.o (by omega) Q154 (by omega) m86 m102 (by unfold rg; omega) (by unfold rg; omega) e169 e187 | exact acl_y A67.o (by omega) Q154 (by omega) (by rw [e187, Xi_ne (by omega), e169]; exact Xi_same (by unfold rg; omega)) (by rw [e187]; refine (Xi_same (by unfold rg; omega)).trans ?_; rw [e169, Xi_ne (by omega)])) | (have u := b148; exact acl_n A67.o (by omega) (fun q => by rcases q.2.2.2 with w | w; omega; (rw [← b148] at w; omega))) | (have u := k125; exact acl_n A67.o (by omega) (fun q => by have w := q.2.2.1; rw [← k125] at w; omega)) | exact acl_n A67.o (by omega) (fun q => q.2.1 (by rw [← m102]; omega)) | exact acl_n A67.o (by omega) (fun q => q.1 (by rw [← m86]; omega))
                refine y_goto rfl rfl ?_
                exact Pl_weak (ih67 (by omega) T1 hHT1 hFT1 (v3) (v4) (v5) ((v7 + 1)) (by omega) (by omega) (by omega) (by omega) (by omega) (by omega) (by omega) (by omega) (by omega) (by first | exact C193 | exact A65)) (by omega) (And.intro rfl (And.intro rfl (And.intro rfl (And.intro rfl (And.intro rfl (And.intro rfl (True.intro)))))))
              · refine y_iload_n rfl rfl ?_
                refine y_if_ne rfl rfl (by unfold rg; omega) (fun w27 => ?_) (fun w28 => ?_)
                · refine y_aload_n rfl rfl ?_
                  have Q154 : acQ S v3 v4 isTry v7 := ⟨by rw [← m86]; omega, by rw [← m102]; omega, by rw [← k125]; omega, by first | (have u := b148; exact Or.inr (by rw [← b148]; omega)) | exact Or.inl (by omega)⟩
                  refine y_iload rfl rfl ?_
                  refine y_if_ne rfl rfl (by unfold rg; omega) (fun w29 => ?_) (fun w30 => ?_)
                  · refine y_aload_n rfl rfl ?_
                    refine y_gfi rfl rfl rfl rfl rfl ?_
                    have w31 : -2147483648 ≤ (Xi T1 904 128) ∧ (Xi T1 904 128) ≤ 2147483647 := Xi_rgI
                    refine y_pfi rfl rfl rfl rfl ?_
                    obtain ⟨U2, eU2⟩ : ∃ T : sS, T = uI T1 904 128 (Int32.ofInt (Xi T1 904 128)) := ⟨_, rfl⟩
                    rw [← eU2]
                    have hHU2 : RI U2 := by rw [eU2]; exact RI_w hHT1
                    have hFU2 : FR md_mo_actings__p S U2 := by rw [eU2]; exact FR.wI hFT1 (mdf_i (r := (904, 905, 128, 129)) (List.mem_of_getElem? (i := 0) rfl) (inR_i (by omega) (by omega) (by omega) (by omega)))
                    have w32 : Xi U2 904 128 = (Xi T1 904 128) := by rw [eU2]; exact Xi_same (by unfold rg; omega)
                    have e169 := eU2
                    refine y_aload_n rfl rfl ?_
                    refine y_iload rfl rfl ?_
                    refine y_if_ne rfl rfl (by unfold rg; omega) (fun w33 => ?_) (fun w34 => ?_)
                    · refine y_aload_n rfl rfl ?_
                      refine y_gfi rfl rfl rfl rfl rfl ?_
                      have w35 : -2147483648 ≤ (Xi U2 904 129) ∧ (Xi U2 904 129) ≤ 2147483647 := Xi_rgI
                      refine y_pfi rfl rfl rfl rfl ?_
                      obtain ⟨U3, eU3⟩ : ∃ T : sS, T = uI U2 904 129 (Int32.ofInt (Xi U2 904 129)) := ⟨_, rfl⟩
                      rw [← eU3]
                      have hHU3 : RI U3 := by rw [eU3]; exact RI_w hHU2
                      have hFU3 : FR md_mo_actings__p S U3 := by rw [eU3]; exact FR.wI hFU2 (mdf_i (r := (904, 905, 129, 130)) (List.mem_of_getElem? (i := 1) rfl) (inR_i (by omega) (by omega) (by omega) (by omega)))
                      have w36 : Xi U3 904 129 = (Xi U2 904 129) := by rw [eU3]; exact Xi_same (by unfold rg; omega)
                      have e187 := eU3
                      refine y_iinc rfl rfl rfl rfl ?_
                      refine y_iinc rfl rfl rfl rfl ?_
                      have C193 : Hid (ACL S U3 v3 v4 isTry (v7 + 1) (v5 + 1)) := by first | (have u := Q154; first | exact acl_f A67.o (by omega) Q154 (by omega) m86 m102 (by unfold rg; omega) (by unfold rg; omega) e169 e187 | exact acl_y A67.o (by omega) Q154 (by omega) (by rw [e187, Xi_ne (by omega), e169]; exact Xi_same (by unfold rg; omega)) (by rw [e187]; refine (Xi_same (by unfold rg; omega)).trans ?_; rw [e169, Xi_ne (by omega)])) | (have u := b148; exact acl_n A67.o (by omega) (fun q => by rcases q.2.2.2 with w | w; omega; (rw [← b148] at w; omega))) | (have u := k125; exact acl_n A67.o (by omega) (fun q => by have w := q.2.2.1; rw [← k125] at w; omega)) | exact acl_n A67.o (by omega) (fun q => q.2.1 (by rw [← m102]; omega)) | exact acl_n A67.o (by omega) (fun q => q.1 (by rw [← m86]; omega))
                      refine y_goto rfl rfl ?_
                      exact Pl_weak (ih67 (by omega) U3 hHU3 hFU3 (v3) (v4) ((v5 + 1)) ((v7 + 1)) (by omega) (by omega) (by omega) (by omega) (by omega) (by omega) (by omega) (by omega) (by omega) (by first | exact C193 | exact A65)) (by omega) (And.intro rfl (And.intro rfl (And.intro rfl (And.intro rfl (And.intro rfl (And.intro rfl (True.intro)))))))
                    · exfalso; omega
                  · refine y_iload rfl rfl ?_
                    refine y_goto rfl rfl ?_
                    refine y_pfi rfl rfl rfl rfl ?_
                    obtain ⟨U4, eU4⟩ : ∃ T : sS, T = uI T1 904 128 (Int32.ofInt z16) := ⟨_, rfl⟩
                    rw [← eU4]
                    have hHU4 : RI U4 := by rw [eU4]; exact RI_w hHT1
                    have hFU4 : FR md_mo_actings__p S U4 := by rw [eU4]; exact FR.wI hFT1 (mdf_i (r := (904, 905, 128, 129)) (List.mem_of_getElem? (i := 0) rfl) (inR_i (by omega) (by omega) (by omega) (by omega)))
                    have w37 : Xi U4 904 128 = z16 := by rw [eU4]; exact Xi_same (by unfold rg; omega)
                    have e169 := eU4
                    refine y_aload_n rfl rfl ?_
                    refine y_iload rfl rfl ?_
                    refine y_if_ne rfl rfl (by unfold rg; omega) (fun w38 => ?_) (fun w39 => ?_)
                    · exfalso; omega
                    · refine y_iload rfl rfl ?_
                      refine y_goto rfl rfl ?_
                      refine y_pfi rfl rfl rfl rfl ?_
                      obtain ⟨U5, eU5⟩ : ∃ T : sS, T = uI U4 904 129 (Int32.ofInt z17) := ⟨_, rfl⟩
                      rw [← eU5]
                      have hHU5 : RI U5 := by rw [eU5]; exact RI_w hHU4
                      have hFU5 : FR md_mo_actings__p S U5 := by rw [eU5]; exact FR.wI hFU4 (mdf_i (r := (904, 905, 129, 130)) (List.mem_of_getElem? (i := 1) rfl) (inR_i (by omega) (by omega) (by omega) (by omega)))
                      have w40 : Xi U5 904 129 = z17 := by rw [eU5]; exact Xi_same (by unfold rg; omega)
                      have e187 := eU5
                      refine y_iinc rfl rfl rfl rfl ?_
                      refine y_iinc rfl rfl rfl rfl ?_
                      have C193 : Hid (ACL S U5 v3 v4 isTry (v7 + 1) (v5 + 1)) := by first | (have u := Q154; first | exact acl_f A67.o (by omega) Q154 (by omega) m86 m102 (by unfold rg; omega) (by unfold rg; omega) e169 e187 | exact acl_y A67.o (by omega) Q154 (by omega) (by rw [e187, Xi_ne (by omega), e169]; exact Xi_same (by unfold rg; omega)) (by rw [e187]; refine (Xi_same (by unfold rg; omega)).trans ?_; rw [e169, Xi_ne (by omega)])) | (have u := b148; exact acl_n A67.o (by omega) (fun q => by rcases q.2.2.2 with w | w; omega; (rw [← b148] at w; omega))) | (have u := k125; exact acl_n A67.o (by omega) (fun q => by have w := q.2.2.1; rw [← k125] at w; omega)) | exact acl_n A67.o (by omega) (fun q => q.2.1 (by rw [← m102]; omega)) | exact acl_n A67.o (by omega) (fun q => q.1 (by rw [← m86]; omega))
                      refine y_goto rfl rfl ?_
                      exact Pl_weak (ih67 (by omega) U5 hHU5 hFU5 (v3) (v4) ((v5 + 1)) ((v7 + 1)) (by omega) (by omega) (by omega) (by omega) (by omega) (by omega) (by omega) (by omega) (by omega) (by first | exact C193 | exact A65)) (by omega) (And.intro rfl (And.intro rfl (And.intro rfl (And.intro rfl (And.intro rfl (And.intro rfl (True.intro)))))))
                · refine y_aload_n rfl rfl ?_
                  refine y_aload_n rfl rfl ?_
                  refine y_gfr rfl rfl rfl rfl rfl (hHT1.r 904 20 918 rfl) ?_
                  refine y_iload rfl rfl ?_
                  refine y_ialoadP (n := 24) rfl rfl (by unfold rg; omega) (fun w41 w42 => ?_)
                  have w43 : -2147483648 ≤ (Xi T1 918 ((z17).toNat)) ∧ (Xi T1 918 ((z17).toNat)) ≤ 2147483647 := Xi_rgI
                  have h140 : (Xi T1 918 ((z17).toNat)) = Xi S 918 (msR S (v3 + v7) (v4 - v7) 4).toNat := by rw [← m102]; exact (hFT1.cx 918 rfl _).1
                  have r140 : -1 ≤ (Xi T1 918 ((z17).toNat)) ∧ (Xi T1 918 ((z17).toNat)) ≤ 15 := by rw [h140]; exact hkx.o _
                  refine y_aload_n rfl rfl ?_
                  refine y_gfr rfl rfl rfl rfl rfl (hHT1.r 904 50 942 rfl) ?_
                  refine y_iload rfl rfl ?_
                  refine y_ialoadP (n := 12) rfl rfl (by unfold rg; omega) (fun w44 w45 => ?_)
                  have k147 : (Xi T1 942 ((z16).toNat)) = Xi S 942 (msR S v3 v7 11).toNat := by rw [← m86]; exact (hFT1.cx 942 rfl _).1
                  refine y_callV rfl rfl rfl (t_mo_isBelow__p hHT1 (Xi T1 918 ((z17).toNat)) (Xi T1 942 ((z16).toNat)) ⟨by omega, by omega⟩ ⟨by omega, by omega⟩ (by first | assumption | exact (ABV_FR hFT1 rfl (by assumption : ABV S))) _) ?_
                  rintro _ _ ⟨rfl, z46, rfl, w46, f148⟩
                  show Pl _ _ _ _ _ _ [iv z46] _ _
                  have b148 : z46 = blR S (Xi S 918 (msR S (v3 + v7) (v4 - v7) 4).toNat) (Xi S 942 (msR S v3 v7 11).toNat) := by have u := f148; rw [blR_fr hFT1 rfl, h140, k147] at u; exact u
                  refine y_if_eq rfl rfl (by unfold rg; omega) (fun w47 => ?_) (fun w48 => ?_)
                  · refine y_iinc rfl rfl rfl rfl ?_
                    have C193 : Hid (ACL S T1 v3 v4 isTry (v7 + 1) v5) := by first | (have u := Q154; first | exact acl_f A67.o (by omega) Q154 (by omega) m86 m102 (by unfold rg; omega) (by unfold rg; omega) e169 e187 | exact acl_y A67.o (by omega) Q154 (by omega) (by rw [e187, Xi_ne (by omega), e169]; exact Xi_same (by unfold rg; omega)) (by rw [e187]; refine (Xi_same (by unfold rg; omega)).trans ?_; rw [e169, Xi_ne (by omega)])) | (have u := b148; exact acl_n A67.o (by omega) (fun q => by rcases q.2.2.2 with w | w; omega; (rw [← b148] at w; omega))) | (have u := k125; exact acl_n A67.o (by omega) (fun q => by have w := q.2.2.1; rw [← k125] at w; omega)) | exact acl_n A67.o (by omega) (fun q => q.2.1 (by rw [← m102]; omega)) | exact acl_n A67.o (by omega) (fun q => q.1 (by rw [← m86]; omega))
                    refine y_goto rfl rfl ?_
                    exact Pl_weak (ih67 (by omega) T1 hHT1 hFT1 (v3) (v4) (v5) ((v7 + 1)) (by omega) (by omega) (by omega) (by omega) (by omega) (by omega) (by omega) (by omega) (by omega) (by first | exact C193 | exact A65)) (by omega) (And.intro rfl (And.intro rfl (And.intro rfl (And.intro rfl (And.intro rfl (And.intro rfl (True.intro)))))))
                  · refine y_aload_n rfl rfl ?_
                    have Q154 : acQ S v3 v4 isTry v7 := ⟨by rw [← m86]; omega, by rw [← m102]; omega, by rw [← k125]; omega, by first | (have u := b148; exact Or.inr (by rw [← b148]; omega)) | exact Or.inl (by omega)⟩
                    refine y_iload rfl rfl ?_
                    refine y_if_ne rfl rfl (by unfold rg; omega) (fun w49 => ?_) (fun w50 => ?_)
                    · refine y_aload_n rfl rfl ?_
                      refine y_gfi rfl rfl rfl rfl rfl ?_
                      have w51 : -2147483648 ≤ (Xi T1 904 128) ∧ (Xi T1 904 128) ≤ 2147483647 := Xi_rgI
                      refine y_pfi rfl rfl rfl rfl ?_
                      obtain ⟨U6, eU6⟩ : ∃ T : sS, T = uI T1 904 128 (Int32.ofInt (Xi T1 904 128)) := ⟨_, rfl⟩
                      rw [← eU6]
                      have hHU6 : RI U6 := by rw [eU6]; exact RI_w hHT1
                      have hFU6 : FR md_mo_actings__p S U6 := by rw [eU6]; exact FR.wI hFT1 (mdf_i (r := (904, 905, 128, 129)) (List.mem_of_getElem? (i := 0) rfl) (inR_i (by omega) (by omega) (by omega) (by omega)))
                      have w52 : Xi U6 904 128 = (Xi T1 904 128) := by rw [eU6]; exact Xi_same (by unfold rg; omega)
                      have e169 := eU6
                      refine y_aload_n rfl rfl ?_
                      refine y_iload rfl rfl ?_
                      refine y_if_ne rfl rfl (by unfold rg; omega) (fun w53 => ?_) (fun w54 => ?_)
                      · refine y_aload_n rfl rfl ?_
                        refine y_gfi rfl rfl rfl rfl rfl ?_
                        have w55 : -2147483648 ≤ (Xi U6 904 129) ∧ (Xi U6 904 129) ≤ 2147483647 := Xi_rgI
                        refine y_pfi rfl rfl rfl rfl ?_
                        obtain ⟨U7, eU7⟩ : ∃ T : sS, T = uI U6 904 129 (Int32.ofInt (Xi U6 904 129)) := ⟨_, rfl⟩
                        rw [← eU7]
                        have hHU7 : RI U7 := by rw [eU7]; exact RI_w hHU6
                        have hFU7 : FR md_mo_actings__p S U7 := by rw [eU7]; exact FR.wI hFU6 (mdf_i (r := (904, 905, 129, 130)) (List.mem_of_getElem? (i := 1) rfl) (inR_i (by omega) (by omega) (by omega) (by omega)))
                        have w56 : Xi U7 904 129 = (Xi U6 904 129) := by rw [eU7]; exact Xi_same (by unfold rg; omega)
                        have e187 := eU7
                        refine y_iinc rfl rfl rfl rfl ?_
                        refine y_iinc rfl rfl rfl rfl ?_
                        have C193 : Hid (ACL S U7 v3 v4 isTry (v7 + 1) (v5 + 1)) := by first | (have u := Q154; first | exact acl_f A67.o (by omega) Q154 (by omega) m86 m102 (by unfold rg; omega) (by unfold rg; omega) e169 e187 | exact acl_y A67.o (by omega) Q154 (by omega) (by rw [e187, Xi_ne (by omega), e169]; exact Xi_same (by unfold rg; omega)) (by rw [e187]; refine (Xi_same (by unfold rg; omega)).trans ?_; rw [e169, Xi_ne (by omega)])) | (have u := b148; exact acl_n A67.o (by omega) (fun q => by rcases q.2.2.2 with w | w; omega; (rw [← b148] at w; omega))) | (have u := k125; exact acl_n A67.o (by omega) (fun q => by have w := q.2.2.1; rw [← k125] at w; omega)) | exact acl_n A67.o (by omega) (fun q => q.2.1 (by rw [← m102]; omega)) | exact acl_n A67.o (by omega) (fun q => q.1 (by rw [← m86]; omega))
                        refine y_goto rfl rfl ?_
                        exact Pl_weak (ih67 (by omega) U7 hHU7 hFU7 (v3) (v4) ((v5 + 1)) ((v7 + 1)) (by omega) (by omega) (by omega) (by omega) (by omega) (by omega) (by omega) (by omega) (by omega) (by first | exact C193 | exact A65)) (by omega) (And.intro rfl (And.intro rfl (And.intro rfl (And.intro rfl (And.intro rfl (And.intro rfl (True.intro)))))))
                      · exfalso; omega
                    · refine y_iload rfl rfl ?_
                      refine y_goto rfl rfl ?_
                      refine y_pfi rfl rfl rfl rfl ?_
                      obtain ⟨U8, eU8⟩ : ∃ T : sS, T = uI T1 904 128 (Int32.ofInt z16) := ⟨_, rfl⟩
                      rw [← eU8]
                      have hHU8 : RI U8 := by rw [eU8]; exact RI_w hHT1
                      have hFU8 : FR md_mo_actings__p S U8 := by rw [eU8]; exact FR.wI hFT1 (mdf_i (r := (904, 905, 128, 129)) (List.mem_of_getElem? (i := 0) rfl) (inR_i (by omega) (by omega) (by omega) (by omega)))
                      have w57 : Xi U8 904 128 = z16 := by rw [eU8]; exact Xi_same (by unfold rg; omega)
                      have e169 := eU8
                      refine y_aload_n rfl rfl ?_
                      refine y_iload rfl rfl ?_
                      refine y_if_ne rfl rfl (by unfold rg; omega) (fun w58 => ?_) (fun w59 => ?_)
                      · exfalso; omega
                      · refine y_iload rfl rfl ?_
                        refine y_goto rfl rfl ?_
                        refine y_pfi rfl rfl rfl rfl ?_
                        obtain ⟨U9, eU9⟩ : ∃ T : sS, T = uI U8 904 129 (Int32.ofInt z17) := ⟨_, rfl⟩
                        rw [← eU9]
                        have hHU9 : RI U9 := by rw [eU9]; exact RI_w hHU8
                        have hFU9 : FR md_mo_actings__p S U9 := by rw [eU9]; exact FR.wI hFU8 (mdf_i (r := (904, 905, 129, 130)) (List.mem_of_getElem? (i := 1) rfl) (inR_i (by omega) (by omega) (by omega) (by omega)))
                        have w60 : Xi U9 904 129 = z17 := by rw [eU9]; exact Xi_same (by unfold rg; omega)
                        have e187 := eU9
                        refine y_iinc rfl rfl rfl rfl ?_
                        refine y_iinc rfl rfl rfl rfl ?_
                        have C193 : Hid (ACL S U9 v3 v4 isTry (v7 + 1) (v5 + 1)) := by first | (have u := Q154; first | exact acl_f A67.o (by omega) Q154 (by omega) m86 m102 (by unfold rg; omega) (by unfold rg; omega) e169 e187 | exact acl_y A67.o (by omega) Q154 (by omega) (by rw [e187, Xi_ne (by omega), e169]; exact Xi_same (by unfold rg; omega)) (by rw [e187]; refine (Xi_same (by unfold rg; omega)).trans ?_; rw [e169, Xi_ne (by omega)])) | (have u := b148; exact acl_n A67.o (by omega) (fun q => by rcases q.2.2.2 with w | w; omega; (rw [← b148] at w; omega))) | (have u := k125; exact acl_n A67.o (by omega) (fun q => by have w := q.2.2.1; rw [← k125] at w; omega)) | exact acl_n A67.o (by omega) (fun q => q.2.1 (by rw [← m102]; omega)) | exact acl_n A67.o (by omega) (fun q => q.1 (by rw [← m86]; omega))
                        refine y_goto rfl rfl ?_
                        exact Pl_weak (ih67 (by omega) U9 hHU9 hFU9 (v3) (v4) ((v5 + 1)) ((v7 + 1)) (by omega) (by omega) (by omega) (by omega) (by omega) (by omega) (by omega) (by omega) (by omega) (by first | exact C193 | exact A65)) (by omega) (And.intro rfl (And.intro rfl (And.intro rfl (And.intro rfl (And.intro rfl (And.intro rfl (True.intro)))))))
  refine y_aload_n rfl rfl ?_
  refine y_gfr rfl rfl rfl rfl rfl (hH.r 904 67 950 rfl) ?_
  refine y_iload_n rfl rfl ?_
  refine y_ialoadP (n := 2600) rfl rfl (by unfold rg; omega) (fun w61 w62 => ?_)
  have w63 : -2147483648 ≤ (Xi S 950 ((rn).toNat)) ∧ (Xi S 950 ((rn).toNat)) ≤ 2147483647 := Xi_rgI
  refine y_istore_n rfl rfl rfl ?_
  refine y_aload_n rfl rfl ?_
  refine y_gfr rfl rfl rfl rfl rfl (hH.r 904 68 951 rfl) ?_
  refine y_iload_n rfl rfl ?_
  refine y_ialoadP (n := 2600) rfl rfl (by unfold rg; omega) (fun w64 w65 => ?_)
  have w66 : -2147483648 ≤ (Xi S 951 ((rn).toNat)) ∧ (Xi S 951 ((rn).toNat)) ≤ 2147483647 := Xi_rgI
  refine y_istore rfl rfl rfl ?_
  refine y_iconst rfl ?_
  refine y_istore rfl rfl rfl ?_
  refine y_aload_n rfl rfl ?_
  refine y_iload_n rfl rfl ?_
  refine y_iload rfl rfl ?_
  refine y_bipush rfl rfl ?_
  refine y_callV rfl rfl rfl (t_mo_means__p hH (Xi S 950 ((rn).toNat)) (Xi S 951 ((rn).toNat)) 11 ⟨by omega, by omega⟩ ⟨by omega, by omega⟩ ⟨by omega, by omega⟩ (by first | assumption | exact (LSP_FR hF rfl rfl (by assumption : LSP S))) (by first | assumption | omega) _) ?_
  rintro _ _ ⟨rfl, z67, rfl, w67, f24⟩
  show Pl _ _ _ _ _ _ [iv z67] _ _
  refine y_istore rfl rfl rfl ?_
  refine y_iload rfl rfl ?_
  refine y_iconst rfl ?_
  refine y_icmp_eq rfl rfl (by unfold rg; omega) (by unfold rg; omega) (fun w68 => ?_) (fun w69 => ?_)
  · refine y_iconst rfl ?_
    refine y_istore rfl rfl rfl ?_
    have A65 : Hid (ACL S S (Xi S 950 rn.toNat) (Xi S 951 rn.toNat) isTry 1 0) := by first | (have u := e58; exact acl_1 rfl f24 (by unfold rg; omega) ⟨by omega, by first | exact Or.inl (by omega) | exact Or.inr (by omega)⟩ e53 e58) | exact acl_0 rfl (by rw [← f24]; omega)
    exact Pl_weak (C67 fu (by omega) S hH hF ((Xi S 950 ((rn).toNat))) ((Xi S 951 ((rn).toNat))) (0) (1) (by omega) (by omega) (by omega) (by omega) (by omega) (by omega) (by omega) (by omega) (by omega) (by first | exact C193 | exact A65)) (by omega) (And.intro rfl (And.intro rfl (And.intro rfl (And.intro rfl (And.intro rfl (And.intro rfl (True.intro)))))))
  · refine y_iload_n rfl rfl ?_
    refine y_if_eq rfl rfl (by unfold rg; omega) (fun w70 => ?_) (fun w71 => ?_)
    · refine y_aload_n rfl rfl ?_
      refine y_iload rfl rfl ?_
      refine y_pfi rfl rfl rfl rfl ?_
      obtain ⟨U10, eU10⟩ : ∃ T : sS, T = uI S 904 128 (Int32.ofInt z67) := ⟨_, rfl⟩
      rw [← eU10]
      have hHU10 : RI U10 := by rw [eU10]; exact RI_w hH
      have hFU10 : FR md_mo_actings__p S U10 := by rw [eU10]; exact FR.wI hF (mdf_i (r := (904, 905, 128, 129)) (List.mem_of_getElem? (i := 0) rfl) (inR_i (by omega) (by omega) (by omega) (by omega)))
      have w72 : Xi U10 904 128 = z67 := by rw [eU10]; exact Xi_same (by unfold rg; omega)
      have e53 := eU10
      refine y_aload_n rfl rfl ?_
      refine y_iconst rfl ?_
      refine y_pfi rfl rfl rfl rfl ?_
      obtain ⟨U11, eU11⟩ : ∃ T : sS, T = uI U10 904 129 (Int32.ofInt (-1)) := ⟨_, rfl⟩
      rw [← eU11]
      have hHU11 : RI U11 := by rw [eU11]; exact RI_w hHU10
      have hFU11 : FR md_mo_actings__p S U11 := by rw [eU11]; exact FR.wI hFU10 (mdf_i (r := (904, 905, 129, 130)) (List.mem_of_getElem? (i := 1) rfl) (inR_i (by omega) (by omega) (by omega) (by omega)))
      have w73 : Xi U11 904 129 = (-1) := by rw [eU11]; exact Xi_same (by unfold rg; omega)
      have e58 := eU11
      refine y_iinc rfl rfl rfl rfl ?_
      refine y_iconst rfl ?_
      refine y_istore rfl rfl rfl ?_
      have A65 : Hid (ACL S U11 (Xi S 950 rn.toNat) (Xi S 951 rn.toNat) isTry 1 (0 + 1)) := by first | (have u := e58; exact acl_1 rfl f24 (by unfold rg; omega) ⟨by omega, by first | exact Or.inl (by omega) | exact Or.inr (by omega)⟩ e53 e58) | exact acl_0 rfl (by rw [← f24]; omega)
      exact Pl_weak (C67 fu (by omega) U11 hHU11 hFU11 ((Xi S 950 ((rn).toNat))) ((Xi S 951 ((rn).toNat))) ((0 + 1)) (1) (by omega) (by omega) (by omega) (by omega) (by omega) (by omega) (by omega) (by omega) (by omega) (by first | exact C193 | exact A65)) (by omega) (And.intro rfl (And.intro rfl (And.intro rfl (And.intro rfl (And.intro rfl (And.intro rfl (True.intro)))))))
    · refine y_aload_n rfl rfl ?_
      refine y_gfr rfl rfl rfl rfl rfl (hH.r 904 50 942 rfl) ?_
      refine y_iload rfl rfl ?_
      refine y_ialoadP (n := 12) rfl rfl (by unfold rg; omega) (fun w74 w75 => ?_)
      have w76 : -2147483648 ≤ (Xi S 942 ((z67).toNat)) ∧ (Xi S 942 ((z67).toNat)) ≤ 2147483647 := Xi_rgI
      refine y_iconst rfl ?_
      refine y_icmp_ne rfl rfl (by unfold rg; omega) (by unfold rg; omega) (fun w77 => ?_) (fun w78 => ?_)
      · refine y_iconst rfl ?_
        refine y_istore rfl rfl rfl ?_
        have A65 : Hid (ACL S S (Xi S 950 rn.toNat) (Xi S 951 rn.toNat) isTry 1 0) := by first | (have u := e58; exact acl_1 rfl f24 (by unfold rg; omega) ⟨by omega, by first | exact Or.inl (by omega) | exact Or.inr (by omega)⟩ e53 e58) | exact acl_0 rfl (by rw [← f24]; omega)
        exact Pl_weak (C67 fu (by omega) S hH hF ((Xi S 950 ((rn).toNat))) ((Xi S 951 ((rn).toNat))) (0) (1) (by omega) (by omega) (by omega) (by omega) (by omega) (by omega) (by omega) (by omega) (by omega) (by first | exact C193 | exact A65)) (by omega) (And.intro rfl (And.intro rfl (And.intro rfl (And.intro rfl (And.intro rfl (And.intro rfl (True.intro)))))))
      · refine y_aload_n rfl rfl ?_
        refine y_iload rfl rfl ?_
        refine y_pfi rfl rfl rfl rfl ?_
        obtain ⟨U12, eU12⟩ : ∃ T : sS, T = uI S 904 128 (Int32.ofInt z67) := ⟨_, rfl⟩
        rw [← eU12]
        have hHU12 : RI U12 := by rw [eU12]; exact RI_w hH
        have hFU12 : FR md_mo_actings__p S U12 := by rw [eU12]; exact FR.wI hF (mdf_i (r := (904, 905, 128, 129)) (List.mem_of_getElem? (i := 0) rfl) (inR_i (by omega) (by omega) (by omega) (by omega)))
        have w79 : Xi U12 904 128 = z67 := by rw [eU12]; exact Xi_same (by unfold rg; omega)
        have e53 := eU12
        refine y_aload_n rfl rfl ?_
        refine y_iconst rfl ?_
        refine y_pfi rfl rfl rfl rfl ?_
        obtain ⟨U13, eU13⟩ : ∃ T : sS, T = uI U12 904 129 (Int32.ofInt (-1)) := ⟨_, rfl⟩
        rw [← eU13]
        have hHU13 : RI U13 := by rw [eU13]; exact RI_w hHU12
        have hFU13 : FR md_mo_actings__p S U13 := by rw [eU13]; exact FR.wI hFU12 (mdf_i (r := (904, 905, 129, 130)) (List.mem_of_getElem? (i := 1) rfl) (inR_i (by omega) (by omega) (by omega) (by omega)))
        have w80 : Xi U13 904 129 = (-1) := by rw [eU13]; exact Xi_same (by unfold rg; omega)
        have e58 := eU13
        refine y_iinc rfl rfl rfl rfl ?_
        refine y_iconst rfl ?_
        refine y_istore rfl rfl rfl ?_
        have A65 : Hid (ACL S U13 (Xi S 950 rn.toNat) (Xi S 951 rn.toNat) isTry 1 (0 + 1)) := by first | (have u := e58; exact acl_1 rfl f24 (by unfold rg; omega) ⟨by omega, by first | exact Or.inl (by omega) | exact Or.inr (by omega)⟩ e53 e58) | exact acl_0 rfl (by rw [← f24]; omega)
        exact Pl_weak (C67 fu (by omega) U13 hHU13 hFU13 ((Xi S 950 ((rn).toNat))) ((Xi S 951 ((rn).toNat))) ((0 + 1)) (1) (by omega) (by omega) (by omega) (by omega) (by omega) (by omega) (by omega) (by omega) (by omega) (by first | exact C193 | exact A65)) (by omega) (And.intro rfl (And.intro rfl (And.intro rfl (And.intro rfl (And.intro rfl (And.intro rfl (True.intro)))))))
end
