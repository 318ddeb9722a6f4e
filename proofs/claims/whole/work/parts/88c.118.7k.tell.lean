section
/-! the class: what is NEW in a sentence -/
def alC (S : sS) (a b c d : Int) : Prop := b - a = d - c ∧ ∀ k : Nat, (k : Int) < d - c → Xj S 879 (a + k).toNat = Xj S 879 (c + k).toNat
def ALP (S : sS) (i v a b : Int) : Prop := (v = -1 → ¬ alC S (Xi S 892 i.toNat) (Xi S 893 i.toNat) a b) ∧ (v ≠ -1 → 0 ≤ v ∧ Xi S 893 i.toNat - Xi S 892 i.toNat = b - a ∧ ∀ k : Nat, (k : Int) < v → Xj S 879 (Xi S 892 i.toNat + k).toNat = Xj S 879 (a + k).toNat)
theorem alp_0 {S : sS} {i a b : Int} (h : Xi S 893 i.toNat - Xi S 892 i.toNat = b - a) : ALP S i 0 a b := ⟨fun q => by omega, fun _ => ⟨by omega, h, fun k hk => by omega⟩⟩
theorem alp_n {S : sS} {i a b : Int} (h : Xi S 893 i.toNat - Xi S 892 i.toNat ≠ b - a) : ALP S i (-1) a b := ⟨fun _ q => h q.1, fun q => absurd rfl q⟩
theorem alp_s {S : sS} {i v a b : Int} (h : ALP S i v a b) (hv : 0 ≤ v) (e : Xj S 879 (Xi S 892 i.toNat + v).toNat = Xj S 879 (a + v).toNat) : ALP S i (v + 1) a b := by
  obtain ⟨_, h2, h3⟩ := h.2 (by omega)
  refine ⟨fun q => by omega, fun _ => ⟨by omega, h2, fun k hk => ?_⟩⟩
  rcases (by omega : (k : Int) < v ∨ (k : Int) = v) with q | q
  · exact h3 k q
  · rw [q]; exact e
theorem alp_f {S : sS} {i v a b : Int} (hv : 0 ≤ v) (hl : v < b - a) (e : Xj S 879 (Xi S 892 i.toNat + v).toNat ≠ Xj S 879 (a + v).toNat) : ALP S i (-1) a b :=
  ⟨fun _ q => e (by have t := q.2 v.toNat (by omega); rw [show ((v.toNat : Nat) : Int) = v by omega] at t; exact t), fun q => absurd rfl q⟩
theorem alp_y {S : sS} {i v a b : Int} (h : ALP S i v a b) (hv : v ≠ -1) (hl : b - a ≤ v) : alC S (Xi S 892 i.toNat) (Xi S 893 i.toNat) a b := by
  obtain ⟨_, h2, h3⟩ := h.2 hv
  exact ⟨h2, fun k hk => h3 k (by omega)⟩
def NRB (S : sS) : Prop := ∀ i : Nat, (i : Int) < Xi S 891 9 → 0 ≤ Xi S 892 i ∧ Xi S 892 i ≤ 6000 ∧ 0 ≤ Xi S 893 i ∧ Xi S 893 i ≤ 6000
/-- told as NEW before, in this sentence -/
def WNC (S : sS) (a b : Int) : Prop := ∃ i : Nat, (i : Int) < Xi S 891 9 ∧ alC S (Xi S 892 i) (Xi S 893 i) a b
def nwC (S : sS) (a b : Int) : Prop := mnV S a b = -1 ∧ b - a ≤ 3 ∧ ¬ WNC S a b
theorem wn_st {S : sS} {a b v : Int} (h0 : 0 ≤ v) (h : ∀ i : Nat, (i : Int) < v → ¬ alC S (Xi S 892 i) (Xi S 893 i) a b) (hn : ¬ alC S (Xi S 892 v.toNat) (Xi S 893 v.toNat) a b) : ∀ i : Nat, (i : Int) < v + 1 → ¬ alC S (Xi S 892 i) (Xi S 893 i) a b := fun i hi => by
  rcases (by omega : (i : Int) < v ∨ i = v.toNat) with q | q
  · exact h i q
  · rw [q]; exact hn
/-- a fault is told -/
def FTO (S S1 : sS) (c r : Int) : Prop := Xi S1 876 8 = c ∧ Xi S1 876 9 = pc7 S r
theorem NRB_FR {l : List rec} {S T : sS} (h : FR l S T) (e1 : kdis l [(892, 894)] = true) (e : mdf l 891 9 = false) (q : NRB S) : NRB T := by
  unfold NRB
  rw [h.x 891 9 e]
  simp only [(h.smk e1).x 892 rfl, (h.smk e1).x 893 rfl]
  exact q
theorem nrb_s {S S1 : sS} {a b : Int} (h : NRB S) (h0 : 0 ≤ Xi S 891 9) (x : Xi S1 891 9 = Xi S 891 9 + 1) (ea : Xi S1 892 (Xi S 891 9).toNat = a) (eb : Xi S1 893 (Xi S 891 9).toNat = b) (k : ∀ j : Nat, (j : Int) < Xi S 891 9 → Xi S1 892 j = Xi S 892 j ∧ Xi S1 893 j = Xi S 893 j) (ha : 0 ≤ a ∧ a ≤ 6000) (hb : 0 ≤ b ∧ b ≤ 6000) : NRB S1 := fun i hi => by
  rcases (by omega : (i : Int) < Xi S 891 9 ∨ i = (Xi S 891 9).toNat) with q | q
  · obtain ⟨k1, k2⟩ := k i q
    rw [k1, k2]
    exact h i q
  · rw [q, ea, eb]
    exact ⟨ha.1, ha.2, hb.1, hb.2⟩

abbrev Q_re_wasNew__p (S : sS) (from_ : Int) (to : Int) : pst := fun r S1 => S = S1 ∧ (∃ z : Int, r = some (iv z) ∧ (0 ≤ z ∧ z ≤ 1) ∧ (z = 1 → WNC S from_ to) ∧ (z = 0 → ¬ WNC S from_ to))
set_option maxRecDepth 100000 in
theorem t_re_wasNew__p {S : sS} (hH : RI S) (from_ : Int) (to : Int) (hfrom_ : 0 ≤ from_ ∧ from_ ≤ 6000) (hto : 0 ≤ to ∧ to ≤ 6000) (hNB : NRB S) (d : Nat) : Mp lay0 (d + 1) m_re_wasNew [.ref 891, iv from_, iv to] S (Q_re_wasNew__p S from_ to) := by
  refine Mp_R rfl rfl (fun fu => ?_)
  have w1 : -2147483648 ≤ Xi S 891 9 ∧ Xi S 891 9 ≤ 2147483647 := Xi_rgI
  have C2 : ∀ (n2 : Nat) (_ : n2 ≤ fu) (v3 : Int), (0 ≤ v3 ∧ v3 ≤ 2147483647) → (0 ≤ v3) → (Hid (∀ i : Nat, (i : Int) < v3 → ¬ alC S (Xi S 892 i) (Xi S 893 i) from_ to)) → Pl n2 lay0 (d + 0) m_re_wasNew 2 [(0, .ref 891), (1, iv from_), (2, iv to), (3, iv v3)] [] S (Q_re_wasNew__p S from_ to) := by
    intro n2
    induction n2 with
    | zero => intros; exact Pl_0
    | succ n2 ih2 =>
      intro hm2 v3 w2 w3 h2
      have C36 : ∀ (n36 : Nat) (_ : n36 ≤ n2) (v3 : Int) (v4 : Int), (0 ≤ v3 ∧ v3 ≤ 2147483647) → (-1 ≤ v4 ∧ v4 ≤ 6001) → (0 ≤ v3 ∧ v3 < Xi S 891 9) → (Hid (∀ i : Nat, (i : Int) < v3 → ¬ alC S (Xi S 892 i) (Xi S 893 i) from_ to)) → (ALP S v3 v4 from_ to) → Pl n36 lay0 (d + 0) m_re_wasNew 36 [(0, .ref 891), (1, iv from_), (2, iv to), (3, iv v3), (4, iv v4)] [] S (Q_re_wasNew__p S from_ to) := by
        intro n36
        induction n36 with
        | zero => intros; exact Pl_0
        | succ n36 ih36 =>
          intro hm36 v3 v4 w4 w5 w6 h36 g36
          refine ys_iload rfl rfl ?_
          refine y_if_lt rfl rfl (by unfold rg; omega) (fun w7 => ?_) (fun w8 => ?_)
          · refine y_iload rfl rfl ?_
            refine y_iconst rfl ?_
            have y97 : True := trivial
            refine y_icmp_eq rfl rfl (by unfold rg; omega) (by unfold rg; omega) (fun w9 => ?_) (fun w10 => ?_)
            · refine y_iinc rfl rfl rfl rfl ?_
              refine y_goto rfl rfl ?_
              exact Pl_weak (ih2 (by omega) ((v3 + 1)) (by omega) (by omega) (by first | (have t := g36; exact wn_st (by omega) h36.o (g36.1 (by omega))) | exact (fun i hi => absurd hi (by omega)))) (by omega) (And.intro rfl (And.intro rfl (And.intro rfl (And.intro rfl (True.intro)))))
            · refine y_iconst rfl ?_
              refine y_ireturn rfl rfl ?_
              exact ⟨rfl, _, rfl, ⟨by omega, by omega⟩, (by first | (have t := y97; exact (fun _ => ⟨v3.toNat, by omega, alp_y g36 (by omega) (by omega)⟩)) | exact (fun q => absurd q (by omega))), (by first | (have t := y97; exact (fun q => absurd q (by omega))) | exact (fun _ => fun ⟨i, hi, ha⟩ => h2.o i (by omega) ha))⟩
          · refine y_iload rfl rfl ?_
            refine y_iload_n rfl rfl ?_
            refine y_iload_n rfl rfl ?_
            refine y_isub rfl ?_
            refine y_icmp_ge rfl rfl (by unfold rg; omega) (by unfold rg; omega) (fun w11 => ?_) (fun w12 => ?_)
            · refine y_iload rfl rfl ?_
              refine y_iconst rfl ?_
              have y97 : True := trivial
              refine y_icmp_eq rfl rfl (by unfold rg; omega) (by unfold rg; omega) (fun w13 => ?_) (fun w14 => ?_)
              · refine y_iinc rfl rfl rfl rfl ?_
                refine y_goto rfl rfl ?_
                exact Pl_weak (ih2 (by omega) ((v3 + 1)) (by omega) (by omega) (by first | (have t := g36; exact wn_st (by omega) h36.o (g36.1 (by omega))) | exact (fun i hi => absurd hi (by omega)))) (by omega) (And.intro rfl (And.intro rfl (And.intro rfl (And.intro rfl (True.intro)))))
              · refine y_iconst rfl ?_
                refine y_ireturn rfl rfl ?_
                exact ⟨rfl, _, rfl, ⟨by omega, by omega⟩, (by first | (have t := y97; exact (fun _ => ⟨v3.toNat, by omega, alp_y g36 (by omega) (by omega)⟩)) | exact (fun q => absurd q (by omega))), (by first | (have t := y97; exact (fun q => absurd q (by omega))) | exact (fun _ => fun ⟨i, hi, ha⟩ => h2.o i (by omega) ha))⟩
            · refine y_aload_n rfl rfl ?_
              refine y_gfr rfl rfl rfl rfl rfl (hH.r 891 0 876 rfl) ?_
              refine y_gfr rfl rfl rfl rfl rfl (hH.r 876 2 879 rfl) ?_
              refine y_aload_n rfl rfl ?_
              refine y_gfr rfl rfl rfl rfl rfl (hH.r 891 7 892 rfl) ?_
              refine y_iload_n rfl rfl ?_
              refine y_ialoadP (n := 24) rfl rfl (by unfold rg; omega) (fun w15 w16 => ?_)
              have w17 : -2147483648 ≤ (Xi S 892 ((v3).toNat)) ∧ (Xi S 892 ((v3).toNat)) ≤ 2147483647 := Xi_rgI
              have n61 := hNB v3.toNat (by omega)
              refine y_iload rfl rfl ?_
              refine y_iadd rfl ?_
              refine y_laloadP (n := 5130) rfl rfl (by unfold rg; omega) (fun w18 w19 => ?_)
              have w20 : -9223372036854775808 ≤ (Xj S 879 ((((Xi S 892 ((v3).toNat)) + v4)).toNat)) ∧ (Xj S 879 ((((Xi S 892 ((v3).toNat)) + v4)).toNat)) < 9223372036854775808 := Xj_rg
              refine y_aload_n rfl rfl ?_
              refine y_gfr rfl rfl rfl rfl rfl (hH.r 891 0 876 rfl) ?_
              refine y_gfr rfl rfl rfl rfl rfl (hH.r 876 2 879 rfl) ?_
              refine y_iload_n rfl rfl ?_
              refine y_iload rfl rfl ?_
              refine y_iadd rfl ?_
              refine y_laloadP (n := 5130) rfl rfl (by unfold rg; omega) (fun w21 w22 => ?_)
              have w23 : -9223372036854775808 ≤ (Xj S 879 (((from_ + v4)).toNat)) ∧ (Xj S 879 (((from_ + v4)).toNat)) < 9223372036854775808 := Xj_rg
              have e79 : True := trivial
              refine y_lcmp rfl (by unfold rgL; omega) (by unfold rgL; omega) (fun c24 w24 w24a w24b w24c => ?_)
              refine y_if_ne rfl rfl (by unfold rg; omega) (fun w25 => ?_) (fun w26 => ?_)
              · refine y_iconst rfl ?_
                refine y_istore rfl rfl rfl ?_
                refine y_goto rfl rfl ?_
                exact Pl_weak (ih36 (by omega) (v3) ((-1)) (by omega) (by omega) (by omega) (by first | exact h36 | exact h2) (by first | (have t := e79; first | exact alp_s g36 (by omega) (by omega) | exact alp_f (v := v4) (by omega) (by omega) (by omega)) | exact alp_0 (by omega) | exact alp_n (by omega))) (by omega) (And.intro rfl (And.intro rfl (And.intro rfl (And.intro rfl (And.intro rfl (True.intro))))))
              · refine y_iload rfl rfl ?_
                refine y_iconst rfl ?_
                refine y_iadd rfl ?_
                refine y_goto rfl rfl ?_
                refine y_istore rfl rfl rfl ?_
                refine y_goto rfl rfl ?_
                exact Pl_weak (ih36 (by omega) (v3) ((v4 + 1)) (by omega) (by omega) (by omega) (by first | exact h36 | exact h2) (by first | (have t := e79; first | exact alp_s g36 (by omega) (by omega) | exact alp_f (v := v4) (by omega) (by omega) (by omega)) | exact alp_0 (by omega) | exact alp_n (by omega))) (by omega) (And.intro rfl (And.intro rfl (And.intro rfl (And.intro rfl (And.intro rfl (True.intro))))))
      refine ys_iload_n rfl rfl ?_
      refine y_aload_n rfl rfl ?_
      refine y_gfi rfl rfl rfl rfl rfl ?_
      refine y_icmp_ge rfl rfl (by unfold rg; omega) (by unfold rg; omega) (fun w27 => ?_) (fun w28 => ?_)
      · refine y_iconst rfl ?_
        refine y_ireturn rfl rfl ?_
        exact ⟨rfl, _, rfl, ⟨by omega, by omega⟩, (by first | (have t := y97; exact (fun _ => ⟨v3.toNat, by omega, alp_y g36 (by omega) (by omega)⟩)) | exact (fun q => absurd q (by omega))), (by first | (have t := y97; exact (fun q => absurd q (by omega))) | exact (fun _ => fun ⟨i, hi, ha⟩ => h2.o i (by omega) ha))⟩
      · refine y_aload_n rfl rfl ?_
        refine y_gfr rfl rfl rfl rfl rfl (hH.r 891 8 893 rfl) ?_
        refine y_iload_n rfl rfl ?_
        refine y_ialoadP (n := 24) rfl rfl (by unfold rg; omega) (fun w29 w30 => ?_)
        have w31 : -2147483648 ≤ (Xi S 893 ((v3).toNat)) ∧ (Xi S 893 ((v3).toNat)) ≤ 2147483647 := Xi_rgI
        have n15 := hNB v3.toNat (by omega)
        refine y_aload_n rfl rfl ?_
        refine y_gfr rfl rfl rfl rfl rfl (hH.r 891 7 892 rfl) ?_
        refine y_iload_n rfl rfl ?_
        refine y_ialoadP (n := 24) rfl rfl (by unfold rg; omega) (fun w32 w33 => ?_)
        have w34 : -2147483648 ≤ (Xi S 892 ((v3).toNat)) ∧ (Xi S 892 ((v3).toNat)) ≤ 2147483647 := Xi_rgI
        refine y_isub rfl ?_
        refine y_iload_n rfl rfl ?_
        refine y_iload_n rfl rfl ?_
        refine y_isub rfl ?_
        refine y_icmp_ne rfl rfl (by unfold rg; omega) (by unfold rg; omega) (fun w35 => ?_) (fun w36 => ?_)
        · refine y_iconst rfl ?_
          refine y_istore rfl rfl rfl ?_
          exact Pl_weak (C36 n2 (by omega) (v3) ((-1)) (by omega) (by omega) (by omega) (by first | exact h36 | exact h2) (by first | (have t := e79; first | exact alp_s g36 (by omega) (by omega) | exact alp_f (v := v4) (by omega) (by omega) (by omega)) | exact alp_0 (by omega) | exact alp_n (by omega))) (by omega) (And.intro rfl (And.intro rfl (And.intro rfl (And.intro rfl (And.intro rfl (True.intro))))))
        · refine y_iconst rfl ?_
          refine y_goto rfl rfl ?_
          refine y_istore rfl rfl rfl ?_
          exact Pl_weak (C36 n2 (by omega) (v3) (0) (by omega) (by omega) (by omega) (by first | exact h36 | exact h2) (by first | (have t := e79; first | exact alp_s g36 (by omega) (by omega) | exact alp_f (v := v4) (by omega) (by omega) (by omega)) | exact alp_0 (by omega) | exact alp_n (by omega))) (by omega) (And.intro rfl (And.intro rfl (And.intro rfl (And.intro rfl (And.intro rfl (True.intro))))))
  refine y_iconst rfl ?_
  refine y_istore_n rfl rfl rfl ?_
  exact Pl_weak (C2 fu (by omega) (0) (by omega) (by omega) (by first | (have t := g36; exact wn_st (by omega) h36.o (g36.1 (by omega))) | exact (fun i hi => absurd hi (by omega)))) (by omega) (And.intro rfl (And.intro rfl (And.intro rfl (And.intro rfl (True.intro)))))
def md_re_takeNew__p : List rec := [(876, 877, 8, 9), (876, 877, 9, 10), (891, 892, 9, 10), (892, 893, 0, 100000), (893, 894, 0, 100000)]
abbrev Q_re_takeNew__p (S : sS) (from_ : Int) (to : Int) (already : Int) (most : Int) : pst := fun r S1 => RI S1 ∧ FR md_re_takeNew__p S S1 ∧ (∃ z : Int, r = some (iv z) ∧ (0 ≤ z ∧ z ≤ 1) ∧ (¬ nwC S from_ to → z = 0 ∧ FTO S S1 3 (from_)) ∧ (nwC S from_ to → most ≤ already + Xi S 891 9 → z = 0 ∧ FTO S S1 9 (from_)) ∧ (nwC S from_ to → already + Xi S 891 9 < most → z = 1 ∧ Xi S1 876 8 = 0 ∧ Xi S1 891 9 = Xi S 891 9 + 1 ∧ Xi S1 892 (Xi S 891 9).toNat = from_ ∧ Xi S1 893 (Xi S 891 9).toNat = to ∧ ∀ j : Nat, (j : Int) < Xi S 891 9 → Xi S1 892 j = Xi S 892 j ∧ Xi S1 893 j = Xi S 893 j) ∧ (z = 1 → NRB S1))
set_option maxRecDepth 100000 in
theorem t_re_takeNew__p {S : sS} (hH : RI S) (from_ : Int) (to : Int) (already : Int) (most : Int) (hfrom_ : 0 ≤ from_ ∧ from_ ≤ 6000) (hto : 0 ≤ to ∧ to ≤ 6000) (halready : 0 ≤ already ∧ already ≤ 1000) (hmost : 0 ≤ most ∧ most ≤ 1000) (h13 : 0 ≤ Xi S 1 3 ∧ Xi S 1 3 ≤ 200) (hCE : CEN S) (hNB : NRB S) (hf : Xi S 876 8 = 0) (hm : most ≤ 24 ∨ Xi S 891 9 = 0) (hn0 : 0 ≤ Xi S 891 9 ∧ Xi S 891 9 ≤ 24) (hto : to ≤ 5130) (d : Nat) : Mp lay0 (d + 2) m_re_takeNew [.ref 891, iv from_, iv to, iv already, iv most] S (Q_re_takeNew__p S from_ to already most) := by
  refine Mp_R rfl rfl (fun fu => ?_)
  have hF : FR md_re_takeNew__p S S := FR.rf
  have w1 : -2147483648 ≤ Xi S 1 3 ∧ Xi S 1 3 ≤ 2147483647 := Xi_rgI
  have w2 : -2147483648 ≤ Xi S 876 8 ∧ Xi S 876 8 ≤ 2147483647 := Xi_rgI
  have w3 : -2147483648 ≤ Xi S 891 9 ∧ Xi S 891 9 ≤ 2147483647 := Xi_rgI
  have C36 : (Hid (¬ nwC S from_ to)) → Pl fu lay0 (d + 1) m_re_takeNew 36 [(0, .ref 891), (1, iv from_)] [] S (Q_re_takeNew__p S from_ to already most) := by
    intro N36
    refine y_aload_n rfl rfl ?_
    refine y_gfr rfl rfl rfl rfl rfl (hH.r 891 0 876 rfl) ?_
    refine y_iconst rfl ?_
    refine y_iload_n rfl rfl ?_
    refine y_callV rfl rfl rfl (t_to_wrong__p hH 3 from_ ⟨by omega, by omega⟩ ⟨by omega, by omega⟩ _) ?_
    rintro _ T1 ⟨hHT1, w7, z6, rfl, w6, w4, f42, w5⟩
    have hFT1 : FR md_re_takeNew__p S T1 := FR.tr hF w7 rfl
    show Pl _ _ _ _ _ _ [iv z6] _ _
    have y42 : True := trivial
    have Y42 : FTO S T1 3 from_ := f42 hf
    refine y_ireturn rfl (retI_z (by omega)) ?_
    have w8 : Xi T1 891 9 = Xi S 891 9 := (show Xi T1 891 9 = Xi S 891 9 from w7.x _ _ rfl)
    exact ⟨hHT1, hFT1, _, rfl, ⟨by omega, by omega⟩, (by first | (have t := y42; exact (fun _ => ⟨by omega, Y42⟩)) | exact (fun q => absurd (by first | exact I69.o | exact I80.o) q)), (by first | (have t := y42; exact (fun q => absurd q N36.o)) | (have t := y76; exact (fun _ _ => ⟨by omega, Y76⟩)) | exact (fun _ q => absurd q (by omega))), (by first | (have t := y42; exact (fun q => absurd q N36.o)) | (have t := y76; exact (fun _ q => absurd q (by omega))) | exact (fun _ _ => Y107)), (by first | (have t := y42; exact (fun q => absurd q (by omega))) | (have t := y76; exact (fun q => absurd q (by omega))) | exact (fun _ => nrb_s hNB (by omega) Y107.2.2.1 Y107.2.2.2.1 Y107.2.2.2.2.1 Y107.2.2.2.2.2 (by omega) (by omega)))⟩
  have C46 : (Hid (nwC S from_ to)) → Pl fu lay0 (d + 1) m_re_takeNew 46 [(0, .ref 891), (1, iv from_), (2, iv to), (3, iv already), (4, iv most)] [] S (Q_re_takeNew__p S from_ to already most) := by
    intro I46
    have C69 : (most ≤ already + Xi S 891 9) → (Hid (nwC S from_ to)) → Pl fu lay0 (d + 1) m_re_takeNew 69 [(0, .ref 891), (1, iv from_)] [] S (Q_re_takeNew__p S from_ to already most) := by
      intro w9 I69
      refine y_aload_n rfl rfl ?_
      refine y_gfr rfl rfl rfl rfl rfl (hH.r 891 0 876 rfl) ?_
      refine y_bipush rfl rfl ?_
      refine y_iload_n rfl rfl ?_
      refine y_callV rfl rfl rfl (t_to_wrong__p hH 9 from_ ⟨by omega, by omega⟩ ⟨by omega, by omega⟩ _) ?_
      rintro _ T2 ⟨hHT2, w13, z12, rfl, w12, w10, f76, w11⟩
      have hFT2 : FR md_re_takeNew__p S T2 := FR.tr hF w13 rfl
      show Pl _ _ _ _ _ _ [iv z12] _ _
      have y76 : True := trivial
      have Y76 : FTO S T2 9 from_ := f76 hf
      refine y_ireturn rfl (retI_z (by omega)) ?_
      have w14 : Xi T2 891 9 = Xi S 891 9 := (show Xi T2 891 9 = Xi S 891 9 from w13.x _ _ rfl)
      exact ⟨hHT2, hFT2, _, rfl, ⟨by omega, by omega⟩, (by first | (have t := y42; exact (fun _ => ⟨by omega, Y42⟩)) | exact (fun q => absurd (by first | exact I69.o | exact I80.o) q)), (by first | (have t := y42; exact (fun q => absurd q N36.o)) | (have t := y76; exact (fun _ _ => ⟨by omega, Y76⟩)) | exact (fun _ q => absurd q (by omega))), (by first | (have t := y42; exact (fun q => absurd q N36.o)) | (have t := y76; exact (fun _ q => absurd q (by omega))) | exact (fun _ _ => Y107)), (by first | (have t := y42; exact (fun q => absurd q (by omega))) | (have t := y76; exact (fun q => absurd q (by omega))) | exact (fun _ => nrb_s hNB (by omega) Y107.2.2.1 Y107.2.2.2.1 Y107.2.2.2.2.1 Y107.2.2.2.2.2 (by omega) (by omega)))⟩
    have C80 : (already + Xi S 891 9 < most) → (Hid (nwC S from_ to)) → Pl fu lay0 (d + 1) m_re_takeNew 80 [(0, .ref 891), (1, iv from_), (2, iv to)] [] S (Q_re_takeNew__p S from_ to already most) := by
      intro w15 I80
      refine y_aload_n rfl rfl ?_
      refine y_gfr rfl rfl rfl rfl rfl (hH.r 891 7 892 rfl) ?_
      refine y_aload_n rfl rfl ?_
      refine y_gfi rfl rfl rfl rfl rfl ?_
      refine y_iload_n rfl rfl ?_
      refine y_iastoreP (n := 24) rfl rfl (by unfold rg; omega) (fun w16 w17 => ?_)
      obtain ⟨U3, eU3⟩ : ∃ T : sS, T = uI S 892 (((Xi S 891 9)).toNat) (Int32.ofInt from_) := ⟨_, rfl⟩
      rw [← eU3]
      have hHU3 : RI U3 := by rw [eU3]; exact RI_w hH
      have hFU3 : FR md_re_takeNew__p S U3 := by rw [eU3]; exact FR.wI hF (mdf_i (r := (892, 893, 0, 100000)) (List.mem_of_getElem? (i := 3) rfl) (inR_i (by omega) (by omega) (by omega) (by omega)))
      have w18 : Xi U3 892 (((Xi S 891 9)).toNat) = from_ := by rw [eU3]; exact Xi_same (by unfold rg; omega)
      refine y_aload_n rfl rfl ?_
      refine y_gfr rfl rfl rfl rfl rfl (hHU3.r 891 8 893 rfl) ?_
      refine y_aload_n rfl rfl ?_
      refine y_gfi rfl rfl rfl rfl rfl ?_
      have w19 : (Xi U3 891 9) = (Xi S 891 9) := (show Xi U3 891 9 = Xi S 891 9 from by rw [eU3]; exact Xi_ne (by omega))
      rw [w19]
      refine y_iload_n rfl rfl ?_
      refine y_iastoreP (n := 24) rfl rfl (by unfold rg; omega) (fun w20 w21 => ?_)
      obtain ⟨U4, eU4⟩ : ∃ T : sS, T = uI U3 893 (((Xi S 891 9)).toNat) (Int32.ofInt to) := ⟨_, rfl⟩
      rw [← eU4]
      have hHU4 : RI U4 := by rw [eU4]; exact RI_w hHU3
      have hFU4 : FR md_re_takeNew__p S U4 := by rw [eU4]; exact FR.wI hFU3 (mdf_i (r := (893, 894, 0, 100000)) (List.mem_of_getElem? (i := 4) rfl) (inR_i (by omega) (by omega) (by omega) (by omega)))
      have w22 : Xi U4 893 (((Xi S 891 9)).toNat) = to := by rw [eU4]; exact Xi_same (by unfold rg; omega)
      refine y_aload_n rfl rfl ?_
      refine y_dup rfl rfl ?_
      refine y_gfi rfl rfl rfl rfl rfl ?_
      have w23 : (Xi U4 891 9) = (Xi S 891 9) := (show Xi U4 891 9 = Xi U3 891 9 from by rw [eU4]; exact Xi_ne (by omega)).trans ((show Xi U3 891 9 = Xi S 891 9 from by rw [eU3]; exact Xi_ne (by omega)))
      rw [w23]
      refine y_iconst rfl ?_
      refine y_iadd rfl ?_
      refine y_pfi rfl rfl rfl rfl ?_
      obtain ⟨U5, eU5⟩ : ∃ T : sS, T = uI U4 891 9 (Int32.ofInt ((Xi S 891 9) + 1)) := ⟨_, rfl⟩
      rw [← eU5]
      have hHU5 : RI U5 := by rw [eU5]; exact RI_w hHU4
      have hFU5 : FR md_re_takeNew__p S U5 := by rw [eU5]; exact FR.wI hFU4 (mdf_i (r := (891, 892, 9, 10)) (List.mem_of_getElem? (i := 2) rfl) (inR_i (by omega) (by omega) (by omega) (by omega)))
      have w24 : Xi U5 891 9 = ((Xi S 891 9) + 1) := by rw [eU5]; exact Xi_same (by unfold rg; omega)
      have Y107 : (1 : Int) = 1 ∧ Xi U5 876 8 = 0 ∧ Xi U5 891 9 = Xi S 891 9 + 1 ∧ Xi U5 892 (Xi S 891 9).toNat = from_ ∧ Xi U5 893 (Xi S 891 9).toNat = to ∧ ∀ j : Nat, (j : Int) < Xi S 891 9 → Xi U5 892 j = Xi S 892 j ∧ Xi U5 893 j = Xi S 893 j := ⟨rfl, by rw [eU5, Xi_ne (by omega), eU4, Xi_ne (by omega), eU3, Xi_ne (by omega)]; exact hf, by omega, by rw [eU5, Xi_ne (by omega), eU4, Xi_ne (by omega), eU3]; exact Xi_same (by unfold rg; omega), by rw [eU5, Xi_ne (by omega), eU4]; exact Xi_same (by unfold rg; omega), fun j hj => ⟨by rw [eU5, Xi_ne (by omega), eU4, Xi_ne (by omega), eU3, Xi_ne (by omega)], by rw [eU5, Xi_ne (by omega), eU4, Xi_ne (by omega), eU3, Xi_ne (by omega)]⟩⟩
      refine y_iconst rfl ?_
      refine y_ireturn rfl rfl ?_
      have w25 : Xi U5 876 8 = Xi S 876 8 := (show Xi U5 876 8 = Xi U4 876 8 from by rw [eU5]; exact Xi_ne (by omega)).trans ( (show Xi U4 876 8 = Xi U3 876 8 from by rw [eU4]; exact Xi_ne (by omega)).trans ((show Xi U3 876 8 = Xi S 876 8 from by rw [eU3]; exact Xi_ne (by omega))))
      exact ⟨hHU5, hFU5, _, rfl, ⟨by omega, by omega⟩, (by first | (have t := y42; exact (fun _ => ⟨by omega, Y42⟩)) | exact (fun q => absurd (by first | exact I69.o | exact I80.o) q)), (by first | (have t := y42; exact (fun q => absurd q N36.o)) | (have t := y76; exact (fun _ _ => ⟨by omega, Y76⟩)) | exact (fun _ q => absurd q (by omega))), (by first | (have t := y42; exact (fun q => absurd q N36.o)) | (have t := y76; exact (fun _ q => absurd q (by omega))) | exact (fun _ _ => Y107)), (by first | (have t := y42; exact (fun q => absurd q (by omega))) | (have t := y76; exact (fun q => absurd q (by omega))) | exact (fun _ => nrb_s hNB (by omega) Y107.2.2.1 Y107.2.2.2.1 Y107.2.2.2.2.1 Y107.2.2.2.2.2 (by omega) (by omega)))⟩
    refine y_iload_n rfl rfl ?_
    refine y_aload_n rfl rfl ?_
    refine y_gfi rfl rfl rfl rfl rfl ?_
    refine y_iadd rfl ?_
    refine y_iload rfl rfl ?_
    refine y_icmp_ge rfl rfl (by unfold rg; omega) (by unfold rg; omega) (fun w26 => ?_) (fun w27 => ?_)
    · exact Pl_weak (C69  (by omega) (I46)) (by omega) (And.intro rfl (And.intro rfl (True.intro)))
    · refine y_aload_n rfl rfl ?_
      refine y_gfi rfl rfl rfl rfl rfl ?_
      refine y_aload_n rfl rfl ?_
      refine y_gfr rfl rfl rfl rfl rfl (hH.r 891 7 892 rfl) ?_
      refine y_alen (n := 24) (z := 24) rfl rfl rfl rfl rfl ?_
      refine y_icmp_lt rfl rfl (by unfold rg; omega) (by unfold rg; omega) (fun w28 => ?_) (fun w29 => ?_)
      · exact Pl_weak (C80  (by omega) (I46)) (by omega) (And.intro rfl (And.intro rfl (And.intro rfl (True.intro))))
      · exact Pl_weak (C69  (by omega) (I46)) (by omega) (And.intro rfl (And.intro rfl (True.intro)))
  refine y_aload_n rfl rfl ?_
  refine y_gfr rfl rfl rfl rfl rfl (hH.r 891 2 1 rfl) ?_
  refine y_aload_n rfl rfl ?_
  refine y_gfr rfl rfl rfl rfl rfl (hH.r 891 0 876 rfl) ?_
  refine y_gfr rfl rfl rfl rfl rfl (hH.r 876 2 879 rfl) ?_
  refine y_iload_n rfl rfl ?_
  refine y_iload_n rfl rfl ?_
  refine y_callV rfl rfl rfl (t_vo_meaning__p hH 879 5130 from_ to rfl ⟨by omega, by omega⟩ ⟨by omega, by omega⟩ ⟨by omega, by omega⟩ (by first | assumption | omega) (by first | assumption | exact (CEN_FR hF rfl rfl (by assumption : CEN S))) _) ?_
  rintro _ _ ⟨rfl, z30, rfl, w30, f13, n13⟩
  show Pl _ _ _ _ _ _ [iv z30] _ _
  have hmv : mnV S from_ to = z30 := mnV_of f13 n13
  clear f13 n13
  refine y_iconst rfl ?_
  refine y_icmp_ne rfl rfl (by unfold rg; omega) (by unfold rg; omega) (fun w31 => ?_) (fun w32 => ?_)
  · exact Pl_weak (C36  (by first | (have t := q30; exact (fun q => q.2.2 (q30 (by omega)))) | exact (fun q => by have t := q.1; have u := q.2.1; omega))) (by omega) (And.intro rfl (And.intro rfl (True.intro)))
  · refine y_iload_n rfl rfl ?_
    refine y_iload_n rfl rfl ?_
    refine y_isub rfl ?_
    refine y_iconst rfl ?_
    refine y_icmp_gt rfl rfl (by unfold rg; omega) (by unfold rg; omega) (fun w33 => ?_) (fun w34 => ?_)
    · exact Pl_weak (C36  (by first | (have t := q30; exact (fun q => q.2.2 (q30 (by omega)))) | exact (fun q => by have t := q.1; have u := q.2.1; omega))) (by omega) (And.intro rfl (And.intro rfl (True.intro)))
    · refine y_aload_n rfl rfl ?_
      refine y_iload_n rfl rfl ?_
      refine y_iload_n rfl rfl ?_
      refine y_callV rfl rfl rfl (t_re_wasNew__p hH from_ to ⟨by omega, by omega⟩ ⟨by omega, by omega⟩ (by first | assumption | exact (by assumption : NRB S)) _) ?_
      rintro _ _ ⟨rfl, z35, rfl, w35, q30, m30⟩
      show Pl _ _ _ _ _ _ [iv z35] _ _
      refine y_if_eq rfl rfl (by unfold rg; omega) (fun w36 => ?_) (fun w37 => ?_)
      · exact Pl_weak (C46  (⟨by omega, by omega, m30 (by omega)⟩)) (by omega) (And.intro rfl (And.intro rfl (And.intro rfl (And.intro rfl (And.intro rfl (True.intro))))))
      · exact Pl_weak (C36  (by first | (have t := q30; exact (fun q => q.2.2 (q30 (by omega)))) | exact (fun q => by have t := q.1; have u := q.2.1; omega))) (by omega) (And.intro rfl (And.intro rfl (True.intro)))
/-- a pair of contrary adjectives -/
def MCN (S S1 : sS) (f k : Int) : Prop := (Xi S1 10 f.toNat = k ∧ Xi S1 10 (f + 1).toNat = k ∧ Xi S1 11 f.toNat = f + 1 ∧ Xi S1 11 (f + 1).toNat = f) ∧ ∀ j : Nat, j ≠ f.toNat → j ≠ (f + 1).toNat → Xi S1 10 j = Xi S 10 j ∧ Xi S1 11 j = Xi S 11 j
theorem mcn_of {S U1 U2 U3 U4 : sS} {f k : Int} (e1 : U1 = uI S 10 f.toNat (Int32.ofInt k)) (e2 : U2 = uI U1 10 (f + 1).toNat (Int32.ofInt k)) (e3 : U3 = uI U2 11 f.toNat (Int32.ofInt (f + 1))) (e4 : U4 = uI U3 11 (f + 1).toNat (Int32.ofInt f)) (hf : 0 ≤ f ∧ f ≤ 22) (hk : rg k) : MCN S U4 f k := by
  refine ⟨⟨?_, ?_, ?_, ?_⟩, fun j h1 h2 => ⟨?_, ?_⟩⟩
  · rw [e4, Xi_ne (by omega), e3, Xi_ne (by omega), e2, Xi_ne (by omega), e1]; exact Xi_same hk
  · rw [e4, Xi_ne (by omega), e3, Xi_ne (by omega), e2]; exact Xi_same hk
  · rw [e4, Xi_ne (by omega), e3]; exact Xi_same (by unfold rg; omega)
  · rw [e4]; exact Xi_same (by unfold rg; omega)
  · rw [e4, Xi_ne (by omega), e3, Xi_ne (by omega), e2, Xi_ne (by omega), e1, Xi_ne (by omega)]
  · rw [e4, Xi_ne (by omega), e3, Xi_ne (by omega), e2, Xi_ne (by omega), e1, Xi_ne (by omega)]
/-- cells that meanings are read from -/
def SMV (S U : sS) : Prop := Xi U 1 3 = Xi S 1 3 ∧ (∀ j, Xj U 2 j = Xj S 2 j) ∧ (∀ j, Xi U 3 j = Xi S 3 j) ∧ (∀ j, Xi U 4 j = Xi S 4 j) ∧ ∀ j, Xj U 879 j = Xj S 879 j
theorem msc_eq {S U : sS} {a b c : Int} (h : SMV S U) : ∀ (m i : Nat), msc U a b c m i = msc S a b c m i
  | 0, _ => rfl
  | m + 1, i => by
    show (if Xj U 2 (3 * i) = a ∧ Xj U 2 (3 * i + 1) = b ∧ Xj U 2 (3 * i + 2) = c then Xi U 3 i * 256 + Xi U 4 i else msc U a b c m (i + 1)) = (if Xj S 2 (3 * i) = a ∧ Xj S 2 (3 * i + 1) = b ∧ Xj S 2 (3 * i + 2) = c then Xi S 3 i * 256 + Xi S 4 i else msc S a b c m (i + 1))
    rw [h.2.1, h.2.1, h.2.1, h.2.2.1, h.2.2.2.1, msc_eq h m (i + 1)]
theorem mnV_eq {S U : sS} {a b : Int} (h : SMV S U) : mnV U a b = mnV S a b := by
  unfold mnV mnR mnF
  rw [h.1, h.2.2.2.2, h.2.2.2.2, h.2.2.2.2]
  simp only [msc_eq h]
theorem alC_eq {S U : sS} {a b c d : Int} (h : SMV S U) : alC U a b c d ↔ alC S a b c d := by
  unfold alC
  simp only [h.2.2.2.2]
/-- new beside one that was new -/
def nw1 (S : sS) (c d a b : Int) : Prop := mnV S a b = -1 ∧ b - a ≤ 3 ∧ ¬ alC S c d a b
theorem nw1_of {S U : sS} {c d a b : Int} (h : SMV S U) (x : Xi U 891 9 = 1) (e1 : Xi U 892 0 = c) (e2 : Xi U 893 0 = d) : nwC U a b ↔ nw1 S c d a b := by
  unfold nwC nw1
  rw [mnV_eq h]
  have w : WNC U a b ↔ alC S c d a b := by
    constructor
    · rintro ⟨i, hi, ha⟩
      rw [show i = 0 by omega, e1, e2, alC_eq h] at ha
      exact ha
    · intro ha
      refine ⟨0, by omega, ?_⟩
      rw [e1, e2, alC_eq h]
      exact ha
  rw [w]
theorem NMI_post {S V S1 : sS} {i : Nat} {so wh a b c : Int} (h : NMI S V i so wh a b c) (x3 : ∀ j, Xi S1 3 j = Xi V 3 j) (x4 : ∀ j, Xi S1 4 j = Xi V 4 j) (x2 : ∀ j, Xj S1 2 j = Xj V 2 j) (x1 : Xi S1 1 3 = Xi V 1 3) : NMI S S1 i so wh a b c := by
  unfold NMI at h ⊢
  simp only [x3, x4, x2, x1]
  exact h
/-- two names were told, one after the other -/
def TN2 (S S1 : sS) (so w1 w2 a1 b1 a2 b2 : Int) : Prop := ∃ (V : sS) (i j : Nat), NMI S V i so w1 (wRw S 879 a1 b1 0) (wRw S 879 a1 b1 1) (wRw S 879 a1 b1 2) ∧ NMI V S1 j so w2 (wRw S 879 a2 b2 0) (wRw S 879 a2 b2 1) (wRw S 879 a2 b2 2)

def md_vo_makeContrary__p : List rec := [(10, 11, 0, 100000), (11, 12, 0, 100000)]
abbrev Q_vo_makeContrary__p (S : sS) (first : Int) (kind : Int) : pst := fun r S1 => RI S1 ∧ FR md_vo_makeContrary__p S S1 ∧ (r = none ∧ (MCN S S1 first kind))
set_option maxRecDepth 100000 in
theorem t_vo_makeContrary__p {S : sS} (hH : RI S) (first : Int) (kind : Int) (hfirst : 0 ≤ first ∧ first ≤ 22) (hkind : -2147483648 ≤ kind ∧ kind ≤ 2147483647) (d : Nat) : Mp lay0 (d + 1) m_vo_makeContrary [.ref 1, iv first, iv kind] S (Q_vo_makeContrary__p S first kind) := by
  refine Mp_R rfl rfl (fun fu => ?_)
  have hF : FR md_vo_makeContrary__p S S := FR.rf
  refine y_aload_n rfl rfl ?_
  refine y_gfr rfl rfl rfl rfl rfl (hH.r 1 9 10 rfl) ?_
  refine y_iload_n rfl rfl ?_
  refine y_iload_n rfl rfl ?_
  refine y_iastoreP (n := 24) rfl rfl (by unfold rg; omega) (fun w1 w2 => ?_)
  obtain ⟨U1, eU1⟩ : ∃ T : sS, T = uI S 10 ((first).toNat) (Int32.ofInt kind) := ⟨_, rfl⟩
  rw [← eU1]
  have hHU1 : RI U1 := by rw [eU1]; exact RI_w hH
  have hFU1 : FR md_vo_makeContrary__p S U1 := by rw [eU1]; exact FR.wI hF (mdf_i (r := (10, 11, 0, 100000)) (List.mem_of_getElem? (i := 0) rfl) (inR_i (by omega) (by omega) (by omega) (by omega)))
  have w3 : Xi U1 10 ((first).toNat) = kind := by rw [eU1]; exact Xi_same (by unfold rg; omega)
  refine y_aload_n rfl rfl ?_
  refine y_gfr rfl rfl rfl rfl rfl (hHU1.r 1 9 10 rfl) ?_
  refine y_iload_n rfl rfl ?_
  refine y_iconst rfl ?_
  refine y_iadd rfl ?_
  refine y_iload_n rfl rfl ?_
  refine y_iastoreP (n := 24) rfl rfl (by unfold rg; omega) (fun w4 w5 => ?_)
  obtain ⟨U2, eU2⟩ : ∃ T : sS, T = uI U1 10 (((first + 1)).toNat) (Int32.ofInt kind) := ⟨_, rfl⟩
  rw [← eU2]
  have hHU2 : RI U2 := by rw [eU2]; exact RI_w hHU1
  have hFU2 : FR md_vo_makeContrary__p S U2 := by rw [eU2]; exact FR.wI hFU1 (mdf_i (r := (10, 11, 0, 100000)) (List.mem_of_getElem? (i := 0) rfl) (inR_i (by omega) (by omega) (by omega) (by omega)))
  have w6 : Xi U2 10 (((first + 1)).toNat) = kind := by rw [eU2]; exact Xi_same (by unfold rg; omega)
  refine y_aload_n rfl rfl ?_
  refine y_gfr rfl rfl rfl rfl rfl (hHU2.r 1 10 11 rfl) ?_
  refine y_iload_n rfl rfl ?_
  refine y_iload_n rfl rfl ?_
  refine y_iconst rfl ?_
  refine y_iadd rfl ?_
  refine y_iastoreP (n := 24) rfl rfl (by unfold rg; omega) (fun w7 w8 => ?_)
  obtain ⟨U3, eU3⟩ : ∃ T : sS, T = uI U2 11 ((first).toNat) (Int32.ofInt (first + 1)) := ⟨_, rfl⟩
  rw [← eU3]
  have hHU3 : RI U3 := by rw [eU3]; exact RI_w hHU2
  have hFU3 : FR md_vo_makeContrary__p S U3 := by rw [eU3]; exact FR.wI hFU2 (mdf_i (r := (11, 12, 0, 100000)) (List.mem_of_getElem? (i := 1) rfl) (inR_i (by omega) (by omega) (by omega) (by omega)))
  have w9 : Xi U3 11 ((first).toNat) = (first + 1) := by rw [eU3]; exact Xi_same (by unfold rg; omega)
  refine y_aload_n rfl rfl ?_
  refine y_gfr rfl rfl rfl rfl rfl (hHU3.r 1 10 11 rfl) ?_
  refine y_iload_n rfl rfl ?_
  refine y_iconst rfl ?_
  refine y_iadd rfl ?_
  refine y_iload_n rfl rfl ?_
  refine y_iastoreP (n := 24) rfl rfl (by unfold rg; omega) (fun w10 w11 => ?_)
  obtain ⟨U4, eU4⟩ : ∃ T : sS, T = uI U3 11 (((first + 1)).toNat) (Int32.ofInt first) := ⟨_, rfl⟩
  rw [← eU4]
  have hHU4 : RI U4 := by rw [eU4]; exact RI_w hHU3
  have hFU4 : FR md_vo_makeContrary__p S U4 := by rw [eU4]; exact FR.wI hFU3 (mdf_i (r := (11, 12, 0, 100000)) (List.mem_of_getElem? (i := 1) rfl) (inR_i (by omega) (by omega) (by omega) (by omega)))
  have w12 : Xi U4 11 (((first + 1)).toNat) = first := by rw [eU4]; exact Xi_same (by unfold rg; omega)
  refine y_return rfl rfl ?_
  exact ⟨hHU4, hFU4, rfl, (mcn_of eU1 eU2 eU3 eU4 (by omega) (by unfold rg; omega))⟩
end
section
theorem tn2_of {S P V W S1 : sS} {so w1 w2 a1 b1 a2 b2 : Int} (hs : SMV S P) (e1 : ∃ i : Nat, NMI P V i so w1 (wRw P 879 a1 b1 0) (wRw P 879 a1 b1 1) (wRw P 879 a1 b1 2)) (hv : ∀ j, Xj V 879 j = Xj P 879 j) (e2 : ∃ j : Nat, NMI V W j so w2 (wRw V 879 a2 b2 0) (wRw V 879 a2 b2 1) (wRw V 879 a2 b2 2)) (x3 : ∀ j, Xi S1 3 j = Xi W 3 j) (x4 : ∀ j, Xi S1 4 j = Xi W 4 j) (x2 : ∀ j, Xj S1 2 j = Xj W 2 j) (x1 : Xi S1 1 3 = Xi W 1 3) : TN2 S S1 so w1 w2 a1 b1 a2 b2 := by
  obtain ⟨i, hi⟩ := e1
  obtain ⟨j, hj⟩ := e2
  have w : ∀ a b t, wRw P 879 a b t = wRw S 879 a b t := fun a b t => by unfold wRw; rw [hs.2.2.2.2]
  have w2 : ∀ a b t, wRw V 879 a b t = wRw S 879 a b t := fun a b t => by rw [← w]; unfold wRw; rw [hv]
  rw [w, w, w] at hi
  rw [w2, w2, w2] at hj
  exact ⟨V, i, j, NMI_pre hi hs.2.2.1 hs.2.2.2.1 hs.2.1 hs.1, NMI_post hj x3 x4 x2 x1⟩
theorem pc7_FR {l : List rec} {S T : sS} (h : FR l S T) (e1 : kdis l [(878, 879)] = true) (e2 : mdf l 876 7 = false) (e3 : mdf l 876 5 = false) (r : Int) : pc7 T r = pc7 S r := by
  unfold pc7
  rw [h.x 876 7 e2, h.x 876 5 e3, (h.smk e1).x 878 rfl]
theorem SMV_FR {l : List rec} {S T : sS} (h : FR l S T) (e1 : kdis l [(2, 5), (879, 880)] = true) (e2 : mdf l 1 3 = false) : SMV S T :=
  ⟨h.x 1 3 e2, fun j => (h.smk e1).xj 2 rfl j, fun j => (h.smk e1).x 3 rfl j, fun j => (h.smk e1).x 4 rfl j, fun j => (h.smk e1).xj 879 rfl j⟩
theorem SMV.tr {S U V : sS} (h : SMV S U) (k : SMV U V) : SMV S V :=
  ⟨k.1.trans h.1, fun j => (k.2.1 j).trans (h.2.1 j), fun j => (k.2.2.1 j).trans (h.2.2.1 j), fun j => (k.2.2.2.1 j).trans (h.2.2.2.1 j), fun j => (k.2.2.2.2 j).trans (h.2.2.2.2 j)⟩
/-- 18: what the class does -/
def TCAN (S S1 : sS) (z nm e a o t : Int) : Prop :=
  (fnd S 0 nm e = -1 → z = 0 ∧ FTO S S1 4 nm) ∧
  (fnd S 0 nm e ≠ -1 → ¬ nwC S a o → z = 0 ∧ FTO S S1 3 a) ∧
  (fnd S 0 nm e ≠ -1 → nwC S a o → 24 ≤ Xi S 5 3 → z = 0 ∧ FTO S S1 9 a) ∧
  (fnd S 0 nm e ≠ -1 → nwC S a o → Xi S 5 3 < 24 → ¬ nw1 S a o (o + 1) t → z = 0 ∧ FTO S S1 3 (o + 1)) ∧
  (fnd S 0 nm e ≠ -1 → nwC S a o → nw1 S a o (o + 1) t → Xi S 5 3 = 23 → z = 0 ∧ FTO S S1 9 (o + 1)) ∧
  (fnd S 0 nm e ≠ -1 → nwC S a o → nw1 S a o (o + 1) t → Xi S 5 3 < 23 → z = 1 ∧ Xi S1 876 8 = 0 ∧ TN2 S S1 3 (Xi S 5 3) (Xi S 5 3 + 1) a o (o + 1) t ∧ Xi S1 5 3 = Xi S 5 3 + 2 ∧ (∀ j, j ≠ 3 → Xi S1 5 j = Xi S 5 j) ∧ MCN S S1 (Xi S 5 3) (fnd S 0 nm e))
theorem tcan_1 {S S1 : sS} {z nm e a o t : Int} (h : fnd S 0 nm e = -1) (hz : z = 0) (f : FTO S S1 4 nm) : TCAN S S1 z nm e a o t :=
  ⟨fun _ => ⟨hz, f⟩, fun q => absurd h q, fun q => absurd h q, fun q => absurd h q, fun q => absurd h q, fun q => absurd h q⟩
theorem tcan_2 {S S1 : sS} {nm e a o t z : Int} {X : Prop} (h : fnd S 0 nm e ≠ -1) (n3 : ¬ nwC S a o → z = 0 ∧ FTO S S1 3 a) (n9 : nwC S a o → 24 ≤ Xi S 5 3 + Xi S 891 9 → z = 0 ∧ FTO S S1 9 a) (ok : nwC S a o → Xi S 5 3 + Xi S 891 9 < 24 → z = 1 ∧ X) (hz : z = 0) (hn : Xi S 891 9 = 0) : TCAN S S1 0 nm e a o t :=
  ⟨fun q => absurd q h, fun _ q => ⟨rfl, (n3 q).2⟩, fun _ q q2 => ⟨rfl, (n9 q (by omega)).2⟩, fun _ q q2 => by have := (ok q (by omega)).1; omega, fun _ q _ q2 => by have := (ok q (by omega)).1; omega, fun _ q _ q2 => by have := (ok q (by omega)).1; omega⟩
theorem tcan_3 {S U S1 : sS} {nm e a o t z : Int} {X : Prop} (h : fnd S 0 nm e ≠ -1) (hA : nwC S a o ∧ Xi S 5 3 < 24) (hw : nwC U (o + 1) t ↔ nw1 S a o (o + 1) t) (hp : ∀ r, pc7 U r = pc7 S r) (n3 : ¬ nwC U (o + 1) t → z = 0 ∧ FTO U S1 3 (o + 1)) (n9 : nwC U (o + 1) t → 24 ≤ Xi S 5 3 + Xi U 891 9 → z = 0 ∧ FTO U S1 9 (o + 1)) (ok : nwC U (o + 1) t → Xi S 5 3 + Xi U 891 9 < 24 → z = 1 ∧ X) (hz : z = 0) (hn : Xi U 891 9 = 1) : TCAN S S1 0 nm e a o t := by
  have f : ∀ c, FTO U S1 c (o + 1) → FTO S S1 c (o + 1) := fun c q => by unfold FTO at q ⊢; rw [hp] at q; exact q
  exact ⟨fun q => absurd q h, fun _ q => absurd hA.1 q, fun _ _ q => by omega, fun _ _ _ q => ⟨rfl, f 3 (n3 (fun w => q (hw.1 w))).2⟩, fun _ _ q q2 => ⟨rfl, f 9 (n9 (hw.2 q) (by omega)).2⟩, fun _ _ q q2 => by have := (ok (hw.2 q) (by omega)).1; omega⟩
theorem tcan_4 {S S1 : sS} {nm e a o t : Int} (h : fnd S 0 nm e ≠ -1) (hA : nwC S a o) (hB : nw1 S a o (o + 1) t ∧ Xi S 5 3 < 23) (r : Xi S1 876 8 = 0 ∧ TN2 S S1 3 (Xi S 5 3) (Xi S 5 3 + 1) a o (o + 1) t ∧ Xi S1 5 3 = Xi S 5 3 + 2 ∧ (∀ j, j ≠ 3 → Xi S1 5 j = Xi S 5 j) ∧ MCN S S1 (Xi S 5 3) (fnd S 0 nm e)) : TCAN S S1 1 nm e a o t :=
  ⟨fun q => absurd q h, fun _ q => absurd hA q, fun _ _ q => by omega, fun _ _ _ q => absurd hB.1 q, fun _ _ _ q => by omega, fun _ _ _ _ => ⟨rfl, r⟩⟩
theorem MCN_pre {S P S1 : sS} {f k : Int} (h : MCN P S1 f k) (x : ∀ j, Xi P 10 j = Xi S 10 j) (y : ∀ j, Xi P 11 j = Xi S 11 j) : MCN S S1 f k := by
  unfold MCN at h ⊢
  simp only [x, y] at h
  exact h
theorem nk_1 {S U : sS} {a o z : Int} (n3 : ¬ nwC S a o → z = 0 ∧ FTO S U 3 a) (n9 : nwC S a o → 24 ≤ Xi S 5 3 + Xi S 891 9 → z = 0 ∧ FTO S U 9 a) (hz : z ≠ 0) (hn : Xi S 891 9 = 0) : nwC S a o ∧ Xi S 5 3 < 24 := by
  by_cases q : nwC S a o
  · refine ⟨q, ?_⟩
    by_cases w : 24 ≤ Xi S 5 3
    · exact absurd (n9 q (by omega)).1 hz
    · omega
  · exact absurd (n3 q).1 hz
theorem nk_2 {S U V : sS} {a t z : Int} (n3 : ¬ nwC U a t → z = 0 ∧ FTO U V 3 a) (n9 : nwC U a t → 24 ≤ Xi S 5 3 + Xi U 891 9 → z = 0 ∧ FTO U V 9 a) (hz : z ≠ 0) (hn : Xi U 891 9 = 1) : nwC U a t ∧ Xi S 5 3 < 23 := by
  by_cases q : nwC U a t
  · refine ⟨q, ?_⟩
    by_cases w : 23 ≤ Xi S 5 3
    · exact absurd (n9 q (by omega)).1 hz
    · omega
  · exact absurd (n3 q).1 hz
theorem nmi_c {P V : sS} {so w a b c : Int} (h : ∃ i : Nat, NMI P V i so w a b c) : Xi P 1 3 ≤ Xi V 1 3 ∧ Xi V 1 3 ≤ Xi P 1 3 + 1 := by
  obtain ⟨i, _, _, h⟩ := h
  rcases h with ⟨a, _⟩ | ⟨a, _⟩ <;> omega

def md_re_tellCan__p : List rec := [(1, 2, 3, 4), (2, 3, 0, 100000), (3, 4, 0, 100000), (4, 5, 0, 100000), (5, 6, 0, 100000), (10, 11, 0, 100000), (11, 12, 0, 100000), (876, 877, 8, 9), (876, 877, 9, 10), (891, 892, 9, 10), (892, 893, 0, 100000), (893, 894, 0, 100000)]
abbrev Q_re_tellCan__p (S : sS) : pst := fun r S1 => RI S1 ∧ FR md_re_tellCan__p S S1 ∧ (∃ z : Int, r = some (iv z) ∧ (0 ≤ z ∧ z ≤ 1) ∧ (TCAN S S1 z (bA (ty7 S) 0) (re7 (ty7 S) (bA (ty7 S) 0)) (Xi S 890 3 + 2) (re7 (ty7 S) (Xi S 890 3 + 2)) (re7 (ty7 S) ((re7 (ty7 S) (Xi S 890 3 + 2)) + 1))))
set_option maxRecDepth 100000 in
theorem t_re_tellCan__p {S : sS} (hH : RI S) (h13 : 0 ≤ Xi S 1 3 ∧ Xi S 1 3 ≤ 200) (hCE : CEN S) (hNB : NRB S) (hf : Xi S 876 8 = 0) (hr : Xi S 876 7 ≤ 5130) (ht : 0 ≤ Xi S 890 3 ∧ Xi S 890 3 ≤ 5125) (hn0 : Xi S 891 9 = 0) (h2 : Xi S 1 3 < 199) (hor : (re7 (ty7 S) (Xi S 890 3 + 2)) < Xi S 876 7) (hc : 0 ≤ Xi S 5 3 ∧ Xi S 5 3 ≤ 24) (d : Nat) : Mp lay0 (d + 4) m_re_tellCan [.ref 891] S (Q_re_tellCan__p S) := by
  refine Mp_R rfl rfl (fun fu => ?_)
  have hF : FR md_re_tellCan__p S S := FR.rf
  have w1 : -2147483648 ≤ Xi S 1 3 ∧ Xi S 1 3 ≤ 2147483647 := Xi_rgI
  have w2 : -2147483648 ≤ Xi S 5 3 ∧ Xi S 5 3 ≤ 2147483647 := Xi_rgI
  have w3 : -2147483648 ≤ Xi S 876 7 ∧ Xi S 876 7 ≤ 2147483647 := Xi_rgI
  have w4 : -2147483648 ≤ Xi S 876 8 ∧ Xi S 876 8 ≤ 2147483647 := Xi_rgI
  have w5 : -2147483648 ≤ Xi S 890 3 ∧ Xi S 890 3 ≤ 2147483647 := Xi_rgI
  have w6 : -2147483648 ≤ Xi S 891 9 ∧ Xi S 891 9 ≤ 2147483647 := Xi_rgI
  have C75 : ∀  (v2 : Int) (v3 : Int) (v4 : Int) (v5 : Int), (-2147483648 ≤ v2 ∧ v2 ≤ 2147483647) → (-2147483648 ≤ v3 ∧ v3 ≤ 2147483647) → (-2147483648 ≤ v4 ∧ v4 ≤ 2147483647) → (-2147483648 ≤ v5 ∧ v5 ≤ 2147483647) → (v2 = Xi S 890 3 + 2) → (0 ≤ v2 ∧ v2 ≤ v3 ∧ v3 ≤ 5129 ∧ v3 + 1 ≤ v4 ∧ v4 ≤ 5130) → (v3 = (re7 (ty7 S) (Xi S 890 3 + 2))) → (v4 = (re7 (ty7 S) ((re7 (ty7 S) (Xi S 890 3 + 2)) + 1))) → (v5 = fnd S 0 (bA (ty7 S) 0) (re7 (ty7 S) (bA (ty7 S) 0))) → (fnd S 0 (bA (ty7 S) 0) (re7 (ty7 S) (bA (ty7 S) 0)) ≠ -1) → Pl fu lay0 (d + 3) m_re_tellCan 75 [(0, .ref 891), (2, iv v2), (3, iv v3), (4, iv v4), (5, iv v5)] [] S (Q_re_tellCan__p S) := by
    intro v2 v3 v4 v5 w7 w8 w9 w10 w11 w12 p75 q75 w13 k75
    refine y_aload_n rfl rfl ?_
    refine y_gfr rfl rfl rfl rfl rfl (hH.r 891 2 1 rfl) ?_
    refine y_iconst rfl ?_
    refine y_callV rfl rfl rfl (t_vo_countOf__p hH 3 ⟨by omega, by omega⟩ _) ?_
    rintro _ _ ⟨rfl, z14, rfl, w14, p80⟩
    show Pl _ _ _ _ _ _ [iv z14] _ _
    have C80 : z14 = Xi S 5 3 := p80 (by omega) (by omega)
    clear p80
    refine y_istore rfl rfl rfl ?_
    refine y_aload_n rfl rfl ?_
    refine y_iload_n rfl rfl ?_
    refine y_iload_n rfl rfl ?_
    refine y_iload rfl rfl ?_
    refine y_bipush rfl rfl ?_
    refine y_callV rfl rfl rfl (t_re_takeNew__p hH v2 v3 z14 24 ⟨by omega, by omega⟩ ⟨by omega, by omega⟩ ⟨by omega, by omega⟩ ⟨by omega, by omega⟩ (by first | assumption | omega) (by first | assumption | exact (by assumption : CEN S)) (by first | assumption | exact (by assumption : NRB S)) (by first | assumption | omega) (by first | assumption | omega) (by first | assumption | omega) (by omega) _) ?_
    rintro _ T1 ⟨hHT1, w16, z15, rfl, w15, n3_92_, n9_92_, ok_92_, nb_92⟩
    have hFT1 : FR md_re_tellCan__p S T1 := FR.tr hF w16 rfl
    show Pl _ _ _ _ _ _ [iv z15] _ _
    have K92 : True := trivial
    have n3_92 : Hid (¬ nwC S (Xi S 890 3 + 2) (re7 (ty7 S) (Xi S 890 3 + 2)) → z15 = 0 ∧ FTO S T1 3 (Xi S 890 3 + 2)) := by have t := n3_92_; rw [show v2 = (Xi S 890 3 + 2) by omega, show v3 = (re7 (ty7 S) (Xi S 890 3 + 2)) by omega] at t; (try rw [show z14 = Xi S 5 3 by omega] at t); exact t
    have n9_92 : Hid (nwC S (Xi S 890 3 + 2) (re7 (ty7 S) (Xi S 890 3 + 2)) → 24 ≤ Xi S 5 3 + Xi S 891 9 → z15 = 0 ∧ FTO S T1 9 (Xi S 890 3 + 2)) := by have t := n9_92_; rw [show v2 = (Xi S 890 3 + 2) by omega, show v3 = (re7 (ty7 S) (Xi S 890 3 + 2)) by omega] at t; (try rw [show z14 = Xi S 5 3 by omega] at t); exact t
    have ok_92 : Hid (nwC S (Xi S 890 3 + 2) (re7 (ty7 S) (Xi S 890 3 + 2)) → Xi S 5 3 + Xi S 891 9 < 24 → z15 = 1 ∧ Xi T1 876 8 = 0 ∧ Xi T1 891 9 = Xi S 891 9 + 1 ∧ Xi T1 892 (Xi S 891 9).toNat = (Xi S 890 3 + 2) ∧ Xi T1 893 (Xi S 891 9).toNat = (re7 (ty7 S) (Xi S 890 3 + 2)) ∧ ∀ j : Nat, (j : Int) < Xi S 891 9 → Xi T1 892 j = Xi S 892 j ∧ Xi T1 893 j = Xi S 893 j) := by have t := ok_92_; rw [show v2 = (Xi S 890 3 + 2) by omega, show v3 = (re7 (ty7 S) (Xi S 890 3 + 2)) by omega] at t; (try rw [show z14 = Xi S 5 3 by omega] at t); exact t
    clear n3_92_ n9_92_ ok_92_
    refine y_if_eq rfl rfl (by unfold rg; omega) (fun w17 => ?_) (fun w18 => ?_)
    · refine y_iconst rfl ?_
      refine y_ireturn rfl rfl ?_
      have w19 : Xi T1 1 3 = Xi S 1 3 := (show Xi T1 1 3 = Xi S 1 3 from w16.x _ _ rfl)
      have w20 : Xi T1 5 3 = Xi S 5 3 := (show Xi T1 5 3 = Xi S 5 3 from w16.x _ _ rfl)
      exact ⟨hHT1, hFT1, _, rfl, ⟨by omega, by omega⟩, (by first | (have t := K71; exact tcan_1 (by omega) (by omega) Y71) | (have t := K164; exact tcan_4 k75 A98.o.1 B116.o ⟨f164, Y164, by omega, Z164.o, M164⟩) | (have t := K108; exact tcan_3 k75 A98.o W108.o P108.o n3_108.o n9_108.o ok_108.o (by omega) x98) | (have t := K92; exact tcan_2 k75 n3_92.o n9_92.o ok_92.o (by omega) hn0))⟩
    · refine y_aload_n rfl rfl ?_
      have A98 : Hid (nwC S (Xi S 890 3 + 2) (re7 (ty7 S) (Xi S 890 3 + 2)) ∧ Xi S 5 3 < 24) := nk_1 n3_92.o n9_92.o (by omega) hn0
      have r98 : Hid (_ ∧ _) := ok_92.o A98.o.1 (by have t := A98.o.2; omega)
      have x98 : Xi T1 891 9 = 1 := by have t := r98.o.2.2.1; omega
      have f98 : Xi T1 876 8 = 0 := r98.o.2.1
      have N98 : NRB T1 := nb_92 (by omega)
      have F98 := (by assumption : FR md_re_takeNew__p S T1)
      have V98 : SMV S T1 := SMV_FR F98 rfl rfl
      have c98 : Xi T1 5 3 = Xi S 5 3 := (F98.cx 5 rfl 3).1
      have e98 : Xi T1 1 3 = Xi S 1 3 := V98.1
      have l98 : Hid (Xi T1 892 0 = (Xi S 890 3 + 2) ∧ Xi T1 893 0 = (re7 (ty7 S) (Xi S 890 3 + 2))) := by have t := r98.o.2.2.2; rw [hn0] at t; exact ⟨t.1, t.2.1⟩
      refine y_iload_n rfl rfl ?_
      refine y_iconst rfl ?_
      refine y_iadd rfl ?_
      refine y_iload rfl rfl ?_
      refine y_iload rfl rfl ?_
      refine y_bipush rfl rfl ?_
      have w21 : Xi T1 1 3 = Xi S 1 3 := (show Xi T1 1 3 = Xi S 1 3 from w16.x _ _ rfl)
      have w22 : Xi T1 5 3 = Xi S 5 3 := (show Xi T1 5 3 = Xi S 5 3 from w16.x _ _ rfl)
      refine y_callV rfl rfl rfl (t_re_takeNew__p hHT1 (v3 + 1) v4 z14 24 ⟨by omega, by omega⟩ ⟨by omega, by omega⟩ ⟨by omega, by omega⟩ ⟨by omega, by omega⟩ (by first | assumption | omega) (by first | assumption | exact (CEN_FR w16 rfl rfl (by assumption : CEN S))) (by first | assumption | exact (by assumption : NRB T1)) (by first | assumption | omega) (by first | assumption | omega) (by first | assumption | omega) (by omega) _) ?_
      rintro _ T2 ⟨hHT2, w24, z23, rfl, w23, n3_108_, n9_108_, ok_108_, nb_108⟩
      have hFT2 : FR md_re_tellCan__p S T2 := FR.tr hFT1 w24 rfl
      show Pl _ _ _ _ _ _ [iv z23] _ _
      have K108 : True := trivial
      have W108 : Hid (nwC T1 ((re7 (ty7 S) (Xi S 890 3 + 2)) + 1) (re7 (ty7 S) ((re7 (ty7 S) (Xi S 890 3 + 2)) + 1)) ↔ nw1 S (Xi S 890 3 + 2) (re7 (ty7 S) (Xi S 890 3 + 2)) ((re7 (ty7 S) (Xi S 890 3 + 2)) + 1) (re7 (ty7 S) ((re7 (ty7 S) (Xi S 890 3 + 2)) + 1))) := nw1_of V98 x98 l98.o.1 l98.o.2
      have P108 : Hid (∀ r, pc7 T1 r = pc7 S r) := pc7_FR F98 rfl rfl rfl
      have n3_108 : Hid (¬ nwC T1 ((re7 (ty7 S) (Xi S 890 3 + 2)) + 1) (re7 (ty7 S) ((re7 (ty7 S) (Xi S 890 3 + 2)) + 1)) → z23 = 0 ∧ FTO T1 T2 3 ((re7 (ty7 S) (Xi S 890 3 + 2)) + 1)) := by have t := n3_108_; rw [show v3 = (re7 (ty7 S) (Xi S 890 3 + 2)) by omega, show v4 = (re7 (ty7 S) ((re7 (ty7 S) (Xi S 890 3 + 2)) + 1)) by omega] at t; (try rw [show z14 = Xi S 5 3 by omega] at t); exact t
      have n9_108 : Hid (nwC T1 ((re7 (ty7 S) (Xi S 890 3 + 2)) + 1) (re7 (ty7 S) ((re7 (ty7 S) (Xi S 890 3 + 2)) + 1)) → 24 ≤ Xi S 5 3 + Xi T1 891 9 → z23 = 0 ∧ FTO T1 T2 9 ((re7 (ty7 S) (Xi S 890 3 + 2)) + 1)) := by have t := n9_108_; rw [show v3 = (re7 (ty7 S) (Xi S 890 3 + 2)) by omega, show v4 = (re7 (ty7 S) ((re7 (ty7 S) (Xi S 890 3 + 2)) + 1)) by omega] at t; (try rw [show z14 = Xi S 5 3 by omega] at t); exact t
      have ok_108 : Hid (nwC T1 ((re7 (ty7 S) (Xi S 890 3 + 2)) + 1) (re7 (ty7 S) ((re7 (ty7 S) (Xi S 890 3 + 2)) + 1)) → Xi S 5 3 + Xi T1 891 9 < 24 → z23 = 1 ∧ Xi T2 876 8 = 0 ∧ Xi T2 891 9 = Xi T1 891 9 + 1 ∧ Xi T2 892 (Xi T1 891 9).toNat = ((re7 (ty7 S) (Xi S 890 3 + 2)) + 1) ∧ Xi T2 893 (Xi T1 891 9).toNat = (re7 (ty7 S) ((re7 (ty7 S) (Xi S 890 3 + 2)) + 1)) ∧ ∀ j : Nat, (j : Int) < Xi T1 891 9 → Xi T2 892 j = Xi T1 892 j ∧ Xi T2 893 j = Xi T1 893 j) := by have t := ok_108_; rw [show v3 = (re7 (ty7 S) (Xi S 890 3 + 2)) by omega, show v4 = (re7 (ty7 S) ((re7 (ty7 S) (Xi S 890 3 + 2)) + 1)) by omega] at t; (try rw [show z14 = Xi S 5 3 by omega] at t); exact t
      clear n3_108_ n9_108_ ok_108_
      refine y_if_ne rfl rfl (by unfold rg; omega) (fun w25 => ?_) (fun w26 => ?_)
      · refine y_aload_n rfl rfl ?_
        have b116 : Hid (nwC T1 ((re7 (ty7 S) (Xi S 890 3 + 2)) + 1) (re7 (ty7 S) ((re7 (ty7 S) (Xi S 890 3 + 2)) + 1)) ∧ Xi S 5 3 < 23) := nk_2 n3_108.o n9_108.o (by omega) x98
        have B116 : Hid (nw1 S (Xi S 890 3 + 2) (re7 (ty7 S) (Xi S 890 3 + 2)) ((re7 (ty7 S) (Xi S 890 3 + 2)) + 1) (re7 (ty7 S) ((re7 (ty7 S) (Xi S 890 3 + 2)) + 1)) ∧ Xi S 5 3 < 23) := ⟨W108.o.1 b116.o.1, b116.o.2⟩
        have f116 : Xi T2 876 8 = 0 := (ok_108.o b116.o.1 (by have t := b116.o.2; omega)).2.1
        have F116 := (by assumption : FR md_re_takeNew__p T1 T2)
        have V116 : SMV S T2 := V98.tr (SMV_FR F116 rfl rfl)
        have c116 : Xi T2 5 3 = Xi S 5 3 := (F116.cx 5 rfl 3).1.trans c98
        have e116 : Xi T2 1 3 = Xi S 1 3 := V116.1
        have b23 : Xi S 5 3 < 23 := b116.o.2
        refine y_gfr rfl rfl rfl rfl rfl (hHT2.r 891 2 1 rfl) ?_
        refine y_iconst rfl ?_
        refine y_aload_n rfl rfl ?_
        refine y_gfr rfl rfl rfl rfl rfl (hHT2.r 891 0 876 rfl) ?_
        refine y_gfr rfl rfl rfl rfl rfl (hHT2.r 876 2 879 rfl) ?_
        refine y_iload_n rfl rfl ?_
        refine y_iload_n rfl rfl ?_
        have w27 : Xi T2 1 3 = Xi S 1 3 := (show Xi T2 1 3 = Xi T1 1 3 from w24.x _ _ rfl).trans ((show Xi T1 1 3 = Xi S 1 3 from w16.x _ _ rfl))
        have w28 : Xi T2 5 3 = Xi S 5 3 := (show Xi T2 5 3 = Xi T1 5 3 from w24.x _ _ rfl).trans ((show Xi T1 5 3 = Xi S 5 3 from w16.x _ _ rfl))
        refine y_callV rfl rfl rfl (t_vo_tellNew__p hHT2 3 879 5130 v2 v3 ⟨by omega, by omega⟩ rfl ⟨by omega, by omega⟩ ⟨by omega, by omega⟩ ⟨by omega, by omega⟩ (by first | assumption | omega) (by first | assumption | omega) (Or.inl rfl) (⟨by show (0 : Int) ≤ Xi T2 5 3; omega, by show Xi T2 5 3 ≤ 62; omega⟩) _) ?_
        rintro _ T3 ⟨hHT3, w30, z29, rfl, w29, z130, c130, o130, e130⟩
        have hFT3 : FR md_re_tellCan__p S T3 := FR.tr hFT2 w30 rfl
        show Pl _ _ _ _ _ _ [iv z29] _ _
        have Z130 : z29 = Xi T2 5 3 := z130
        have C130 : Xi T3 5 3 = Xi T2 5 3 + 1 := c130
        have O130 : Hid (∀ j, j ≠ 3 → Xi T3 5 j = Xi T2 5 j) := o130
        have E130 : Hid (∃ i : Nat, NMI T2 T3 i 3 (Xi S 5 3) (wRw T2 879 (Xi S 890 3 + 2) (re7 (ty7 S) (Xi S 890 3 + 2)) 0) (wRw T2 879 (Xi S 890 3 + 2) (re7 (ty7 S) (Xi S 890 3 + 2)) 1) (wRw T2 879 (Xi S 890 3 + 2) (re7 (ty7 S) (Xi S 890 3 + 2)) 2)) := by have t := e130; rw [show v2 = (Xi S 890 3 + 2) by omega, show v3 = (re7 (ty7 S) (Xi S 890 3 + 2)) by omega, show z29 = Xi S 5 3 by omega] at t; exact t
        have X130 := nmi_c E130.o
        have F130 := (by assumption : FR md_vo_tellNew__p T2 T3)
        clear z130 c130 o130 e130
        refine y_istore rfl rfl rfl ?_
        refine y_aload_n rfl rfl ?_
        refine y_gfr rfl rfl rfl rfl rfl (hHT3.r 891 2 1 rfl) ?_
        refine y_iconst rfl ?_
        refine y_aload_n rfl rfl ?_
        refine y_gfr rfl rfl rfl rfl rfl (hHT3.r 891 0 876 rfl) ?_
        refine y_gfr rfl rfl rfl rfl rfl (hHT3.r 876 2 879 rfl) ?_
        refine y_iload_n rfl rfl ?_
        refine y_iconst rfl ?_
        refine y_iadd rfl ?_
        refine y_iload rfl rfl ?_
        refine y_callV rfl rfl rfl (t_vo_tellNew__p hHT3 3 879 5130 (v3 + 1) v4 ⟨by omega, by omega⟩ rfl ⟨by omega, by omega⟩ ⟨by omega, by omega⟩ ⟨by omega, by omega⟩ (by first | assumption | omega) (by first | assumption | omega) (Or.inl rfl) (⟨by show (0 : Int) ≤ Xi T3 5 3; omega, by show Xi T3 5 3 ≤ 62; omega⟩) _) ?_
        rintro _ T4 ⟨hHT4, w34, z33, rfl, w33, z152, c152, o152, e152⟩
        have hFT4 : FR md_re_tellCan__p S T4 := FR.tr hFT3 w34 rfl
        show Pl _ _ _ _ _ _ [iv z33] _ _
        have Z152 : z33 = Xi T3 5 3 := z152
        have C152 : Xi T4 5 3 = Xi T3 5 3 + 1 := c152
        have O152 : Hid (∀ j, j ≠ 3 → Xi T4 5 j = Xi T3 5 j) := o152
        have E152 : Hid (∃ i : Nat, NMI T3 T4 i 3 (Xi S 5 3 + 1) (wRw T3 879 ((re7 (ty7 S) (Xi S 890 3 + 2)) + 1) (re7 (ty7 S) ((re7 (ty7 S) (Xi S 890 3 + 2)) + 1)) 0) (wRw T3 879 ((re7 (ty7 S) (Xi S 890 3 + 2)) + 1) (re7 (ty7 S) ((re7 (ty7 S) (Xi S 890 3 + 2)) + 1)) 1) (wRw T3 879 ((re7 (ty7 S) (Xi S 890 3 + 2)) + 1) (re7 (ty7 S) ((re7 (ty7 S) (Xi S 890 3 + 2)) + 1)) 2)) := by have t := e152; rw [show v3 = (re7 (ty7 S) (Xi S 890 3 + 2)) by omega, show v4 = (re7 (ty7 S) ((re7 (ty7 S) (Xi S 890 3 + 2)) + 1)) by omega, show z33 = Xi S 5 3 + 1 by omega] at t; exact t
        have X152 := nmi_c E152.o
        have F152 := (by assumption : FR md_vo_tellNew__p T3 T4)
        clear z152 c152 o152 e152
        refine y_pop rfl rfl ?_
        refine y_aload_n rfl rfl ?_
        refine y_gfr rfl rfl rfl rfl rfl (hHT4.r 891 2 1 rfl) ?_
        refine y_iload rfl rfl ?_
        refine y_iload rfl rfl ?_
        have w35 : Xi T4 876 8 = Xi T2 876 8 := (show Xi T4 876 8 = Xi T3 876 8 from w34.x _ _ rfl).trans ((show Xi T3 876 8 = Xi T2 876 8 from w30.x _ _ rfl))
        refine y_callV rfl rfl rfl (t_vo_makeContrary__p hHT4 z29 v5 ⟨by omega, by omega⟩ ⟨by omega, by omega⟩ _) ?_
        rintro _ T5 ⟨hHT5, w38, rfl, e164⟩
        have hFT5 : FR md_re_tellCan__p S T5 := FR.tr hFT4 w38 rfl
        show Pl _ _ _ _ _ _ [] _ _
        have K164 : True := trivial
        have F164 := (by assumption : FR md_vo_makeContrary__p T4 T5)
        have f164 : Xi T5 876 8 = 0 := by rw [F164.x 876 8 rfl, F152.x 876 8 rfl, F130.x 876 8 rfl]; exact f116
        have Y164 : TN2 S T5 3 (Xi S 5 3) (Xi S 5 3 + 1) (Xi S 890 3 + 2) (re7 (ty7 S) (Xi S 890 3 + 2)) ((re7 (ty7 S) (Xi S 890 3 + 2)) + 1) (re7 (ty7 S) ((re7 (ty7 S) (Xi S 890 3 + 2)) + 1)) := tn2_of V116 E130.o (fun j => (F130.cx 879 rfl j).2) E152.o (fun j => (F164.cx 3 rfl j).1) (fun j => (F164.cx 4 rfl j).1) (fun j => (F164.cx 2 rfl j).2) (F164.x 1 3 rfl)
        have c164 : Xi T5 5 3 = Xi T4 5 3 := (F164.cx 5 rfl 3).1
        have Z164 : Hid (∀ j, j ≠ 3 → Xi T5 5 j = Xi S 5 j) := fun j hj => by rw [(F164.cx 5 rfl j).1, O152.o j hj, O130.o j hj, (F116.cx 5 rfl j).1, (F98.cx 5 rfl j).1]
        have M164 : MCN S T5 (Xi S 5 3) (fnd S 0 (bA (ty7 S) 0) (re7 (ty7 S) (bA (ty7 S) 0))) := MCN_pre (by have t := e164; rw [show z29 = Xi S 5 3 by omega, show v5 = fnd S 0 (bA (ty7 S) 0) (re7 (ty7 S) (bA (ty7 S) 0)) by omega] at t; exact t) (fun j => by rw [(F152.cx 10 rfl j).1, (F130.cx 10 rfl j).1, (F116.cx 10 rfl j).1, (F98.cx 10 rfl j).1]) (fun j => by rw [(F152.cx 11 rfl j).1, (F130.cx 11 rfl j).1, (F116.cx 11 rfl j).1, (F98.cx 11 rfl j).1])
        refine y_iconst rfl ?_
        refine y_ireturn rfl rfl ?_
        have w39 : Xi T5 1 3 = Xi T4 1 3 := (show Xi T5 1 3 = Xi T4 1 3 from w38.x _ _ rfl)
        have w40 : Xi T5 5 3 = Xi T4 5 3 := (show Xi T5 5 3 = Xi T4 5 3 from w38.x _ _ rfl)
        have w41 : Xi T5 876 8 = Xi T2 876 8 := (show Xi T5 876 8 = Xi T4 876 8 from w38.x _ _ rfl).trans ( (show Xi T4 876 8 = Xi T3 876 8 from w34.x _ _ rfl).trans ((show Xi T3 876 8 = Xi T2 876 8 from w30.x _ _ rfl)))
        have w42 : Xi T5 891 9 = Xi T2 891 9 := (show Xi T5 891 9 = Xi T4 891 9 from w38.x _ _ rfl).trans ( (show Xi T4 891 9 = Xi T3 891 9 from w34.x _ _ rfl).trans ((show Xi T3 891 9 = Xi T2 891 9 from w30.x _ _ rfl)))
        exact ⟨hHT5, hFT5, _, rfl, ⟨by omega, by omega⟩, (by first | (have t := K71; exact tcan_1 (by omega) (by omega) Y71) | (have t := K164; exact tcan_4 k75 A98.o.1 B116.o ⟨f164, Y164, by omega, Z164.o, M164⟩) | (have t := K108; exact tcan_3 k75 A98.o W108.o P108.o n3_108.o n9_108.o ok_108.o (by omega) x98) | (have t := K92; exact tcan_2 k75 n3_92.o n9_92.o ok_92.o (by omega) hn0))⟩
      · refine y_iconst rfl ?_
        refine y_ireturn rfl rfl ?_
        have w43 : Xi T2 1 3 = Xi S 1 3 := (show Xi T2 1 3 = Xi T1 1 3 from w24.x _ _ rfl).trans ((show Xi T1 1 3 = Xi S 1 3 from w16.x _ _ rfl))
        have w44 : Xi T2 5 3 = Xi S 5 3 := (show Xi T2 5 3 = Xi T1 5 3 from w24.x _ _ rfl).trans ((show Xi T1 5 3 = Xi S 5 3 from w16.x _ _ rfl))
        exact ⟨hHT2, hFT2, _, rfl, ⟨by omega, by omega⟩, (by first | (have t := K71; exact tcan_1 (by omega) (by omega) Y71) | (have t := K164; exact tcan_4 k75 A98.o.1 B116.o ⟨f164, Y164, by omega, Z164.o, M164⟩) | (have t := K108; exact tcan_3 k75 A98.o W108.o P108.o n3_108.o n9_108.o ok_108.o (by omega) x98) | (have t := K92; exact tcan_2 k75 n3_92.o n9_92.o ok_92.o (by omega) hn0))⟩
  refine y_aload_n rfl rfl ?_
  refine y_gfr rfl rfl rfl rfl rfl (hH.r 891 0 876 rfl) ?_
  refine y_iconst rfl ?_
  refine y_callV rfl rfl rfl (t_to_behindArt__p hH 0 ⟨by omega, by omega⟩ _) ?_
  rintro _ _ ⟨rfl, z47, rfl, w47, w45, w46⟩
  show Pl _ _ _ _ _ _ [iv z47] _ _
  have gq5 := w45
  clear w45
  refine y_istore_n rfl rfl rfl ?_
  refine y_aload_n rfl rfl ?_
  refine y_gfr rfl rfl rfl rfl rfl (hH.r 891 1 890 rfl) ?_
  refine y_gfi rfl rfl rfl rfl rfl ?_
  refine y_iconst rfl ?_
  refine y_iadd rfl ?_
  refine y_istore_n rfl rfl rfl ?_
  refine y_aload_n rfl rfl ?_
  refine y_gfr rfl rfl rfl rfl rfl (hH.r 891 0 876 rfl) ?_
  refine y_iload_n rfl rfl ?_
  refine y_callV rfl rfl rfl (t_to_runEnd__p hH ((Xi S 890 3) + 2) ⟨by omega, by omega⟩ _) ?_
  rintro _ _ ⟨rfl, z50, rfl, w50, w48, w49⟩
  show Pl _ _ _ _ _ _ [iv z50] _ _
  have gq24 := w48
  clear w48
  refine y_istore_n rfl rfl rfl ?_
  refine y_aload_n rfl rfl ?_
  refine y_gfr rfl rfl rfl rfl rfl (hH.r 891 0 876 rfl) ?_
  refine y_iload_n rfl rfl ?_
  refine y_iconst rfl ?_
  refine y_iadd rfl ?_
  refine y_callV rfl rfl rfl (t_to_runEnd__p hH (z50 + 1) ⟨by omega, by omega⟩ _) ?_
  rintro _ _ ⟨rfl, z53, rfl, w53, w51, w52⟩
  show Pl _ _ _ _ _ _ [iv z53] _ _
  have gq35 := w51
  clear w51
  refine y_istore rfl rfl rfl ?_
  refine y_aload_n rfl rfl ?_
  refine y_gfr rfl rfl rfl rfl rfl (hH.r 891 4 895 rfl) ?_
  refine y_iconst rfl ?_
  refine y_iload_n rfl rfl ?_
  refine y_aload_n rfl rfl ?_
  refine y_gfr rfl rfl rfl rfl rfl (hH.r 891 0 876 rfl) ?_
  refine y_iload_n rfl rfl ?_
  refine y_callV rfl rfl rfl (t_to_runEnd__p hH z47 ⟨by omega, by omega⟩ _) ?_
  rintro _ _ ⟨rfl, z56, rfl, w56, w54, w55⟩
  show Pl _ _ _ _ _ _ [iv z56, iv z47, iv 0, .ref 895] _ _
  have gq51 := w54
  clear w54
  refine y_callV rfl rfl rfl (t_me_find__p hH 0 z47 z56 ⟨by omega, by omega⟩ ⟨by omega, by omega⟩ ⟨by omega, by omega⟩ (by first | assumption | omega) (by first | assumption | exact (by assumption : CEN S)) _) ?_
  rintro _ _ ⟨rfl, z57, rfl, w57, v54⟩
  show Pl _ _ _ _ _ _ [iv z57] _ _
  have K54 : z57 = fnd S 0 (bA (ty7 S) 0) (re7 (ty7 S) (bA (ty7 S) 0)) := by have t := v54; rw [← gq51, ← gq5] at t; exact t
  clear v54
  refine y_istore rfl rfl rfl ?_
  refine y_iload rfl rfl ?_
  refine y_iconst rfl ?_
  refine y_icmp_ne rfl rfl (by unfold rg; omega) (by unfold rg; omega) (fun w58 => ?_) (fun w59 => ?_)
  · exact Pl_weak (C75 (((Xi S 890 3) + 2)) (z50) (z53) (z57) (by omega) (by omega) (by omega) (by omega) (by omega) (by omega) (gq24.symm) (by rw [gq24]; exact gq35.symm) (by omega) (by omega)) (by omega) (And.intro rfl (And.intro rfl (And.intro rfl (And.intro rfl (And.intro rfl (True.intro))))))
  · refine y_aload_n rfl rfl ?_
    refine y_gfr rfl rfl rfl rfl rfl (hH.r 891 0 876 rfl) ?_
    refine y_iconst rfl ?_
    refine y_iload_n rfl rfl ?_
    refine y_callV rfl rfl rfl (t_to_wrong__p hH 4 z47 ⟨by omega, by omega⟩ ⟨by omega, by omega⟩ _) ?_
    rintro _ T6 ⟨hHT6, w63, z62, rfl, w62, w60, f71, w61⟩
    have hFT6 : FR md_re_tellCan__p S T6 := FR.tr hF w63 rfl
    show Pl _ _ _ _ _ _ [iv z62] _ _
    have K71 : True := trivial
    have Y71 : FTO S T6 4 (bA (ty7 S) 0) := by have t := f71 hf; rw [show (bA (ty7 S) 0) = z47 by omega]; exact t
    refine y_ireturn rfl (retI_z (by omega)) ?_
    have w64 : Xi T6 1 3 = Xi S 1 3 := (show Xi T6 1 3 = Xi S 1 3 from w63.x _ _ rfl)
    have w65 : Xi T6 5 3 = Xi S 5 3 := (show Xi T6 5 3 = Xi S 5 3 from w63.x _ _ rfl)
    have w66 : Xi T6 891 9 = Xi S 891 9 := (show Xi T6 891 9 = Xi S 891 9 from w63.x _ _ rfl)
    exact ⟨hHT6, hFT6, _, rfl, ⟨by omega, by omega⟩, (by first | (have t := K71; exact tcan_1 (by omega) (by omega) Y71) | (have t := K164; exact tcan_4 k75 A98.o.1 B116.o ⟨f164, Y164, by omega, Z164.o, M164⟩) | (have t := K108; exact tcan_3 k75 A98.o W108.o P108.o n3_108.o n9_108.o ok_108.o (by omega) x98) | (have t := K92; exact tcan_2 k75 n3_92.o n9_92.o ok_92.o (by omega) hn0))⟩
end
section
/-- a kind by its name or its plural -/
def kmC (S : sS) (a b : Int) : Int := if mnV S a b / 256 = 0 ∨ mnV S a b / 256 = 11 then mnV S a b % 256 else -1
theorem km_y {S : sS} {a b m : Int} (hm : mnV S a b = m) (h : m / 256 = 0 ∨ m / 256 = 11) : m % 256 = kmC S a b := by unfold kmC; rw [hm, if_pos h]
theorem km_n {S : sS} {a b m : Int} (hm : mnV S a b = m) (h : ¬ (m / 256 = 0 ∨ m / 256 = 11)) : -1 = kmC S a b := by unfold kmC; rw [hm, if_neg h]
theorem kmC_eq {S U : sS} {a b : Int} (h : SMV S U) : kmC U a b = kmC S a b := by unfold kmC; rw [mnV_eq h]
theorem fnd_eq {S U : sS} {s a b : Int} (h : SMV S U) : fnd U s a b = fnd S s a b := by unfold fnd; rw [mnV_eq h]
/-- one name was told -/
def TN1 (S S1 : sS) (so w a b : Int) : Prop := ∃ i : Nat, NMI S S1 i so w (wRw S 879 a b 0) (wRw S 879 a b 1) (wRw S 879 a b 2)
theorem tn1_of {S P W S1 : sS} {so w a b : Int} (hs : SMV S P) (e1 : ∃ i : Nat, NMI P W i so w (wRw P 879 a b 0) (wRw P 879 a b 1) (wRw P 879 a b 2)) (x3 : ∀ j, Xi S1 3 j = Xi W 3 j) (x4 : ∀ j, Xi S1 4 j = Xi W 4 j) (x2 : ∀ j, Xj S1 2 j = Xj W 2 j) (x1 : Xi S1 1 3 = Xi W 1 3) : TN1 S S1 so w a b := by
  obtain ⟨i, hi⟩ := e1
  have q : ∀ a b t, wRw P 879 a b t = wRw S 879 a b t := fun a b t => by unfold wRw; rw [hs.2.2.2.2]
  rw [q, q, q] at hi
  exact ⟨i, NMI_post (NMI_pre hi hs.2.2.1 hs.2.2.2.1 hs.2.1 hs.1) x3 x4 x2 x1⟩
/-- a relation -/
def RLN (S S1 : sS) (c k1 k2 x y : Int) : Prop := (Xi S1 14 c.toNat = k1 ∧ Xi S1 15 c.toNat = k2 ∧ (Xi S1 16 c.toNat = if x = 22 then 1 else 0) ∧ (Xi S1 17 c.toNat = if y = 22 then 1 else 0)) ∧ ∀ j : Nat, j ≠ c.toNat → Xi S1 14 j = Xi S 14 j ∧ Xi S1 15 j = Xi S 15 j ∧ Xi S1 16 j = Xi S 16 j ∧ Xi S1 17 j = Xi S 17 j
theorem rln_of {S P U1 U2 U3 U4 : sS} {c k1 k2 x y b1 b2 : Int} (e1 : U1 = uI P 14 c.toNat (Int32.ofInt k1)) (e2 : U2 = uI U1 15 c.toNat (Int32.ofInt k2)) (e3 : U3 = uI U2 16 c.toNat (Int32.ofInt b1)) (e4 : U4 = uI U3 17 c.toNat (Int32.ofInt b2)) (h1 : rg k1) (h2 : rg k2) (h3 : (b1 = 1 ∧ x = 22) ∨ (b1 = 0 ∧ x ≠ 22)) (h4 : (b2 = 1 ∧ y = 22) ∨ (b2 = 0 ∧ y ≠ 22)) (p : ∀ j, Xi P 14 j = Xi S 14 j ∧ Xi P 15 j = Xi S 15 j ∧ Xi P 16 j = Xi S 16 j ∧ Xi P 17 j = Xi S 17 j) : RLN S U4 c k1 k2 x y := by
  refine ⟨⟨?_, ?_, ?_, ?_⟩, fun j hj => ⟨?_, ?_, ?_, ?_⟩⟩
  · rw [e4, Xi_ne (by omega), e3, Xi_ne (by omega), e2, Xi_ne (by omega), e1]; exact Xi_same h1
  · rw [e4, Xi_ne (by omega), e3, Xi_ne (by omega), e2]; exact Xi_same h2
  · rw [e4, Xi_ne (by omega), e3]
    refine (Xi_same (by unfold rg; omega)).trans ?_
    rcases h3 with ⟨a, b⟩ | ⟨a, b⟩
    · rw [if_pos b, a]
    · rw [if_neg b, a]
  · rw [e4]
    refine (Xi_same (by unfold rg; omega)).trans ?_
    rcases h4 with ⟨a, b⟩ | ⟨a, b⟩
    · rw [if_pos b, a]
    · rw [if_neg b, a]
  · rw [e4, Xi_ne (by omega), e3, Xi_ne (by omega), e2, Xi_ne (by omega), e1, Xi_ne (by omega)]; exact (p j).1
  · rw [e4, Xi_ne (by omega), e3, Xi_ne (by omega), e2, Xi_ne (by omega), e1, Xi_ne (by omega)]; exact (p j).2.1
  · rw [e4, Xi_ne (by omega), e3, Xi_ne (by omega), e2, Xi_ne (by omega), e1, Xi_ne (by omega)]; exact (p j).2.2.1
  · rw [e4, Xi_ne (by omega), e3, Xi_ne (by omega), e2, Xi_ne (by omega), e1, Xi_ne (by omega)]; exact (p j).2.2.2
/-- 19: what the class does -/
def TREL (S S1 : sS) (z nm e a o l m x y : Int) : Prop :=
  (¬ nwC S nm e → z = 0 ∧ FTO S S1 3 nm) ∧
  (nwC S nm e → 6 ≤ Xi S 5 6 → z = 0 ∧ FTO S S1 9 nm) ∧
  (nwC S nm e → Xi S 5 6 < 6 → kmC S a o = -1 → z = 0 ∧ FTO S S1 4 a) ∧
  (nwC S nm e → Xi S 5 6 < 6 → kmC S a o ≠ -1 → kmC S l m = -1 → z = 0 ∧ FTO S S1 4 l) ∧
  (nwC S nm e → Xi S 5 6 < 6 → kmC S a o ≠ -1 → kmC S l m ≠ -1 → z = 1 ∧ Xi S1 876 8 = 0 ∧ TN1 S S1 6 (Xi S 5 6) nm e ∧ Xi S1 5 6 = Xi S 5 6 + 1 ∧ (∀ j, j ≠ 6 → Xi S1 5 j = Xi S 5 j) ∧ RLN S S1 (Xi S 5 6) (kmC S a o) (kmC S l m) x y)
theorem trel_1 {S S1 : sS} {nm e a o l m x y z : Int} {X : Prop} (n3 : ¬ nwC S nm e → z = 0 ∧ FTO S S1 3 nm) (n9 : nwC S nm e → 6 ≤ Xi S 5 6 + Xi S 891 9 → z = 0 ∧ FTO S S1 9 nm) (ok : nwC S nm e → Xi S 5 6 + Xi S 891 9 < 6 → z = 1 ∧ X) (hz : z = 0) (hn : Xi S 891 9 = 0) : TREL S S1 0 nm e a o l m x y :=
  ⟨fun q => ⟨rfl, (n3 q).2⟩, fun q q2 => ⟨rfl, (n9 q (by omega)).2⟩, fun q q2 => by have := (ok q (by omega)).1; omega, fun q q2 => by have := (ok q (by omega)).1; omega, fun q q2 => by have := (ok q (by omega)).1; omega⟩
theorem trel_2 {S U S1 : sS} {nm e a o l m x y z : Int} (h : nwC S nm e ∧ Xi S 5 6 < 6) (hk : kmC S a o = -1) (hp : ∀ r, pc7 U r = pc7 S r) (hz : z = 0) (f : FTO U S1 4 a) : TREL S S1 z nm e a o l m x y := by
  have g : FTO S S1 4 a := by unfold FTO at f ⊢; rw [hp] at f; exact f
  exact ⟨fun q => absurd h.1 q, fun _ q => by omega, fun _ _ _ => ⟨hz, g⟩, fun _ _ q => absurd hk q, fun _ _ q => absurd hk q⟩
theorem trel_3 {S U S1 : sS} {nm e a o l m x y z : Int} (h : nwC S nm e ∧ Xi S 5 6 < 6) (hk : kmC S a o ≠ -1) (hl : kmC S l m = -1) (hp : ∀ r, pc7 U r = pc7 S r) (hz : z = 0) (f : FTO U S1 4 l) : TREL S S1 z nm e a o l m x y := by
  have g : FTO S S1 4 l := by unfold FTO at f ⊢; rw [hp] at f; exact f
  exact ⟨fun q => absurd h.1 q, fun _ q => by omega, fun _ _ q => absurd q hk, fun _ _ _ _ => ⟨hz, g⟩, fun _ _ _ q => absurd hl q⟩
theorem trel_4 {S S1 : sS} {nm e a o l m x y : Int} (h : nwC S nm e ∧ Xi S 5 6 < 6) (hk : kmC S a o ≠ -1) (hl : kmC S l m ≠ -1) (r : Xi S1 876 8 = 0 ∧ TN1 S S1 6 (Xi S 5 6) nm e ∧ Xi S1 5 6 = Xi S 5 6 + 1 ∧ (∀ j, j ≠ 6 → Xi S1 5 j = Xi S 5 j) ∧ RLN S S1 (Xi S 5 6) (kmC S a o) (kmC S l m) x y) : TREL S S1 1 nm e a o l m x y :=
  ⟨fun q => absurd h.1 q, fun _ q => by omega, fun _ _ q => absurd q hk, fun _ _ _ q => absurd q hl, fun _ _ _ _ => ⟨rfl, r⟩⟩
theorem nk_m {S U : sS} {a o z c M : Int} (n3 : ¬ nwC S a o → z = 0 ∧ FTO S U 3 a) (n9 : nwC S a o → M ≤ c + Xi S 891 9 → z = 0 ∧ FTO S U 9 a) (hz : z ≠ 0) (hn : Xi S 891 9 = 0) : nwC S a o ∧ c < M := by
  by_cases q : nwC S a o
  · refine ⟨q, ?_⟩
    by_cases w : M ≤ c
    · exact absurd (n9 q (by omega)).1 hz
    · omega
  · exact absurd (n3 q).1 hz

abbrev Q_re_kindMeant__p (S : sS) (from_ : Int) : pst := fun r S1 => S = S1 ∧ (∃ z : Int, r = some (iv z) ∧ (-2147483648 ≤ z ∧ z ≤ 2147483647) ∧ (z = kmC S from_ (re7 (ty7 S) from_)))
set_option maxRecDepth 100000 in
theorem t_re_kindMeant__p {S : sS} (hH : RI S) (from_ : Int) (hfrom_ : 0 ≤ from_ ∧ from_ ≤ 5140) (h13 : 0 ≤ Xi S 1 3 ∧ Xi S 1 3 ≤ 200) (hCE : CEN S) (hr : Xi S 876 7 ≤ 5130) (d : Nat) : Mp lay0 (d + 3) m_re_kindMeant [.ref 891, iv from_] S (Q_re_kindMeant__p S from_) := by
  refine Mp_R rfl rfl (fun fu => ?_)
  have w1 : -2147483648 ≤ Xi S 1 3 ∧ Xi S 1 3 ≤ 2147483647 := Xi_rgI
  have w2 : -2147483648 ≤ Xi S 876 7 ∧ Xi S 876 7 ≤ 2147483647 := Xi_rgI
  refine y_aload_n rfl rfl ?_
  refine y_gfr rfl rfl rfl rfl rfl (hH.r 891 2 1 rfl) ?_
  refine y_aload_n rfl rfl ?_
  refine y_gfr rfl rfl rfl rfl rfl (hH.r 891 0 876 rfl) ?_
  refine y_gfr rfl rfl rfl rfl rfl (hH.r 876 2 879 rfl) ?_
  refine y_iload_n rfl rfl ?_
  refine y_aload_n rfl rfl ?_
  refine y_gfr rfl rfl rfl rfl rfl (hH.r 891 0 876 rfl) ?_
  refine y_iload_n rfl rfl ?_
  refine y_callV rfl rfl rfl (t_to_runEnd__p hH from_ ⟨by omega, by omega⟩ _) ?_
  rintro _ _ ⟨rfl, z5, rfl, w5, w3, w4⟩
  show Pl _ _ _ _ _ _ [iv z5, iv from_, .ref 879, .ref 1] _ _
  have gq17 := w3
  clear w3
  refine y_callV rfl rfl rfl (t_vo_meaning__p hH 879 5130 from_ z5 rfl ⟨by omega, by omega⟩ ⟨by omega, by omega⟩ ⟨by omega, by omega⟩ (by first | assumption | omega) (by first | assumption | exact (by assumption : CEN S)) _) ?_
  rintro _ _ ⟨rfl, z6, rfl, w6, f20, n20⟩
  show Pl _ _ _ _ _ _ [iv z6] _ _
  have hmv : mnV S from_ _ = z6 := mnV_of f20 n20
  clear f20 n20
  refine y_istore_n rfl rfl rfl ?_
  refine y_iload_n rfl rfl ?_
  refine y_bipush rfl rfl ?_
  refine y_ishr8 rfl (by unfold rg; omega) ?_
  refine y_if_eq rfl rfl (by unfold rg; omega) (fun w8 => ?_) (fun w9 => ?_)
  · refine y_iload_n rfl rfl ?_
    refine y_sipush rfl rfl ?_
    refine y_iand255 rfl (by unfold rg; omega) ?_
    refine y_goto rfl rfl ?_
    refine y_ireturn rfl rfl ?_
    exact ⟨rfl, _, rfl, ⟨by omega, by omega⟩, (by rw [gq17]; first | exact km_y hmv (by omega) | exact km_n hmv (by omega))⟩
  · refine y_iload_n rfl rfl ?_
    refine y_bipush rfl rfl ?_
    refine y_ishr8 rfl (by unfold rg; omega) ?_
    refine y_bipush rfl rfl ?_
    refine y_icmp_ne rfl rfl (by unfold rg; omega) (by unfold rg; omega) (fun w12 => ?_) (fun w13 => ?_)
    · refine y_iconst rfl ?_
      refine y_ireturn rfl rfl ?_
      exact ⟨rfl, _, rfl, ⟨by omega, by omega⟩, (by rw [gq17]; first | exact km_y hmv (by omega) | exact km_n hmv (by omega))⟩
    · refine y_iload_n rfl rfl ?_
      refine y_sipush rfl rfl ?_
      refine y_iand255 rfl (by unfold rg; omega) ?_
      refine y_goto rfl rfl ?_
      refine y_ireturn rfl rfl ?_
      exact ⟨rfl, _, rfl, ⟨by omega, by omega⟩, (by rw [gq17]; first | exact km_y hmv (by omega) | exact km_n hmv (by omega))⟩
def md_re_tellRelation__p : List rec := [(1, 2, 3, 4), (2, 3, 0, 100000), (3, 4, 0, 100000), (4, 5, 0, 100000), (5, 6, 0, 100000), (14, 15, 0, 100000), (15, 16, 0, 100000), (16, 17, 0, 100000), (17, 18, 0, 100000), (876, 877, 8, 9), (876, 877, 9, 10), (891, 892, 9, 10), (892, 893, 0, 100000), (893, 894, 0, 100000)]
abbrev Q_re_tellRelation__p (S : sS) : pst := fun r S1 => RI S1 ∧ FR md_re_tellRelation__p S S1 ∧ (∃ z : Int, r = some (iv z) ∧ (0 ≤ z ∧ z ≤ 1) ∧ (TREL S S1 z (bA (ty7 S) 0) (re7 (ty7 S) (bA (ty7 S) 0)) (Xi S 890 3 + 2) (re7 (ty7 S) (Xi S 890 3 + 2)) ((re7 (ty7 S) (Xi S 890 3 + 2)) + 2) (re7 (ty7 S) ((re7 (ty7 S) (Xi S 890 3 + 2)) + 2)) (ty7 S ((Xi S 890 3 + 2) - 1)) (ty7 S (((re7 (ty7 S) (Xi S 890 3 + 2)) + 2) - 1))))
set_option maxRecDepth 100000 in
theorem t_re_tellRelation__p {S : sS} (hH : RI S) (h13 : 0 ≤ Xi S 1 3 ∧ Xi S 1 3 ≤ 200) (hCE : CEN S) (hNB : NRB S) (hf : Xi S 876 8 = 0) (hr : Xi S 876 7 ≤ 5130) (ht : 0 ≤ Xi S 890 3 ∧ Xi S 890 3 ≤ 5125) (hn0 : Xi S 891 9 = 0) (h2 : Xi S 1 3 < 199) (hl : (re7 (ty7 S) (Xi S 890 3 + 2)) + 2 ≤ Xi S 876 7) (hc : 0 ≤ Xi S 5 6 ∧ Xi S 5 6 ≤ 6) (d : Nat) : Mp lay0 (d + 4) m_re_tellRelation [.ref 891] S (Q_re_tellRelation__p S) := by
  refine Mp_R rfl rfl (fun fu => ?_)
  have hF : FR md_re_tellRelation__p S S := FR.rf
  have w1 : -2147483648 ≤ Xi S 1 3 ∧ Xi S 1 3 ≤ 2147483647 := Xi_rgI
  have w2 : -2147483648 ≤ Xi S 5 6 ∧ Xi S 5 6 ≤ 2147483647 := Xi_rgI
  have w3 : -2147483648 ≤ Xi S 876 7 ∧ Xi S 876 7 ≤ 2147483647 := Xi_rgI
  have w4 : -2147483648 ≤ Xi S 876 8 ∧ Xi S 876 8 ≤ 2147483647 := Xi_rgI
  have w5 : -2147483648 ≤ Xi S 890 3 ∧ Xi S 890 3 ≤ 2147483647 := Xi_rgI
  have w6 : -2147483648 ≤ Xi S 891 9 ∧ Xi S 891 9 ≤ 2147483647 := Xi_rgI
  refine y_aload_n rfl rfl ?_
  refine y_gfr rfl rfl rfl rfl rfl (hH.r 891 0 876 rfl) ?_
  refine y_iconst rfl ?_
  refine y_callV rfl rfl rfl (t_to_behindArt__p hH 0 ⟨by omega, by omega⟩ _) ?_
  rintro _ _ ⟨rfl, z9, rfl, w9, w7, w8⟩
  show Pl _ _ _ _ _ _ [iv z9] _ _
  have gq5 := w7
  clear w7
  refine y_istore_n rfl rfl rfl ?_
  refine y_aload_n rfl rfl ?_
  refine y_gfr rfl rfl rfl rfl rfl (hH.r 891 1 890 rfl) ?_
  refine y_gfi rfl rfl rfl rfl rfl ?_
  refine y_iconst rfl ?_
  refine y_iadd rfl ?_
  refine y_istore_n rfl rfl rfl ?_
  refine y_aload_n rfl rfl ?_
  refine y_gfr rfl rfl rfl rfl rfl (hH.r 891 0 876 rfl) ?_
  refine y_iload_n rfl rfl ?_
  refine y_callV rfl rfl rfl (t_to_runEnd__p hH ((Xi S 890 3) + 2) ⟨by omega, by omega⟩ _) ?_
  rintro _ _ ⟨rfl, z12, rfl, w12, w10, w11⟩
  show Pl _ _ _ _ _ _ [iv z12] _ _
  have gq24 := w10
  clear w10
  refine y_istore_n rfl rfl rfl ?_
  refine y_iload_n rfl rfl ?_
  refine y_iconst rfl ?_
  refine y_iadd rfl ?_
  refine y_istore rfl rfl rfl ?_
  refine y_aload_n rfl rfl ?_
  refine y_iload_n rfl rfl ?_
  refine y_aload_n rfl rfl ?_
  refine y_gfr rfl rfl rfl rfl rfl (hH.r 891 0 876 rfl) ?_
  refine y_iload_n rfl rfl ?_
  refine y_callV rfl rfl rfl (t_to_runEnd__p hH z9 ⟨by omega, by omega⟩ _) ?_
  rintro _ _ ⟨rfl, z15, rfl, w15, w13, w14⟩
  show Pl _ _ _ _ _ _ [iv z15, iv z9, .ref 891] _ _
  have gq40 := w13
  clear w13
  refine y_aload_n rfl rfl ?_
  refine y_gfr rfl rfl rfl rfl rfl (hH.r 891 2 1 rfl) ?_
  refine y_bipush rfl rfl ?_
  refine y_callV rfl rfl rfl (t_vo_countOf__p hH 6 ⟨by omega, by omega⟩ _) ?_
  rintro _ _ ⟨rfl, z16, rfl, w16, p49⟩
  show Pl _ _ _ _ _ _ [iv z16, iv z15, iv z9, .ref 891] _ _
  have C49 : z16 = Xi S 5 6 := p49 (by omega) (by omega)
  clear p49
  refine y_bipush rfl rfl ?_
  refine y_callV rfl rfl rfl (t_re_takeNew__p hH z9 z15 z16 6 ⟨by omega, by omega⟩ ⟨by omega, by omega⟩ ⟨by omega, by omega⟩ ⟨by omega, by omega⟩ (by first | assumption | omega) (by first | assumption | exact (by assumption : CEN S)) (by first | assumption | exact (by assumption : NRB S)) (by first | assumption | omega) (by first | assumption | omega) (by first | assumption | omega) (by omega) _) ?_
  rintro _ T1 ⟨hHT1, w18, z17, rfl, w17, n3_54_, n9_54_, ok_54_, nb_54⟩
  have hFT1 : FR md_re_tellRelation__p S T1 := FR.tr hF w18 rfl
  show Pl _ _ _ _ _ _ [iv z17] _ _
  have K54 : True := trivial
  have n3_54 : Hid (¬ nwC S (bA (ty7 S) 0) (re7 (ty7 S) (bA (ty7 S) 0)) → z17 = 0 ∧ FTO S T1 3 (bA (ty7 S) 0)) := by have t := n3_54_; rw [← gq40, ← gq5] at t; (try rw [C49] at t); exact t
  have n9_54 : Hid (nwC S (bA (ty7 S) 0) (re7 (ty7 S) (bA (ty7 S) 0)) → 6 ≤ Xi S 5 6 + Xi S 891 9 → z17 = 0 ∧ FTO S T1 9 (bA (ty7 S) 0)) := by have t := n9_54_; rw [← gq40, ← gq5] at t; (try rw [C49] at t); exact t
  have ok_54 : Hid (nwC S (bA (ty7 S) 0) (re7 (ty7 S) (bA (ty7 S) 0)) → Xi S 5 6 + Xi S 891 9 < 6 → z17 = 1 ∧ Xi T1 876 8 = 0 ∧ Xi T1 891 9 = Xi S 891 9 + 1 ∧ Xi T1 892 (Xi S 891 9).toNat = (bA (ty7 S) 0) ∧ Xi T1 893 (Xi S 891 9).toNat = (re7 (ty7 S) (bA (ty7 S) 0)) ∧ ∀ j : Nat, (j : Int) < Xi S 891 9 → Xi T1 892 j = Xi S 892 j ∧ Xi T1 893 j = Xi S 893 j) := by have t := ok_54_; rw [← gq40, ← gq5] at t; (try rw [C49] at t); exact t
  clear n3_54_ n9_54_ ok_54_
  refine y_if_ne rfl rfl (by unfold rg; omega) (fun w19 => ?_) (fun w20 => ?_)
  · refine y_aload_n rfl rfl ?_
    have A62 : Hid (nwC S (bA (ty7 S) 0) (re7 (ty7 S) (bA (ty7 S) 0)) ∧ Xi S 5 6 < 6) := nk_m n3_54.o n9_54.o (by omega) hn0
    have r62 : Hid (_ ∧ _) := ok_54.o A62.o.1 (by have t := A62.o.2; omega)
    have f62 : Xi T1 876 8 = 0 := r62.o.2.1
    have F62 := (by assumption : FR md_re_takeNew__p S T1)
    have V62 : SMV S T1 := SMV_FR F62 rfl rfl
    have c62 : Xi T1 5 6 = Xi S 5 6 := (F62.cx 5 rfl 6).1
    have b6 : Xi S 5 6 < 6 := A62.o.2
    have e62 : Xi T1 1 3 = Xi S 1 3 := V62.1
    have P62 : Hid (∀ r, pc7 T1 r = pc7 S r) := pc7_FR F62 rfl rfl rfl
    refine y_iload_n rfl rfl ?_
    have w21 : Xi T1 1 3 = Xi S 1 3 := (show Xi T1 1 3 = Xi S 1 3 from w18.x _ _ rfl)
    have w22 : Xi T1 5 6 = Xi S 5 6 := (show Xi T1 5 6 = Xi S 5 6 from w18.x _ _ rfl)
    have w23 : Xi T1 876 7 = Xi S 876 7 := (show Xi T1 876 7 = Xi S 876 7 from w18.x _ _ rfl)
    refine y_callV rfl rfl rfl (t_re_kindMeant__p hHT1 ((Xi S 890 3) + 2) ⟨by omega, by omega⟩ (by first | assumption | omega) (by first | assumption | exact (CEN_FR w18 rfl rfl (by assumption : CEN S))) (by first | assumption | omega) _) ?_
    rintro _ _ ⟨rfl, z24, rfl, w24, v64⟩
    show Pl _ _ _ _ _ _ [iv z24] _ _
    have K64 : z24 = kmC S (Xi S 890 3 + 2) (re7 (ty7 S) (Xi S 890 3 + 2)) := by have t := v64; rw [kmC_eq V62, FRT F62 rfl rfl] at t; exact t
    clear v64
    refine y_istore rfl rfl rfl ?_
    refine y_iload rfl rfl ?_
    refine y_iconst rfl ?_
    refine y_icmp_ne rfl rfl (by unfold rg; omega) (by unfold rg; omega) (fun w25 => ?_) (fun w26 => ?_)
    · refine y_aload_n rfl rfl ?_
      have k75 : Hid (kmC S (Xi S 890 3 + 2) (re7 (ty7 S) (Xi S 890 3 + 2)) ≠ -1) := by unfold Hid; omega
      refine y_iload rfl rfl ?_
      refine y_callV rfl rfl rfl (t_re_kindMeant__p hHT1 (z12 + 2) ⟨by omega, by omega⟩ (by first | assumption | omega) (by first | assumption | exact (CEN_FR w18 rfl rfl (by assumption : CEN S))) (by first | assumption | omega) _) ?_
      rintro _ _ ⟨rfl, z30, rfl, w30, v88⟩
      show Pl _ _ _ _ _ _ [iv z30] _ _
      have K88 : z30 = kmC S ((re7 (ty7 S) (Xi S 890 3 + 2)) + 2) (re7 (ty7 S) ((re7 (ty7 S) (Xi S 890 3 + 2)) + 2)) := by have t := v88; rw [kmC_eq V62, FRT F62 rfl rfl, ← gq24] at t; exact t
      clear v88
      refine y_istore rfl rfl rfl ?_
      refine y_iload rfl rfl ?_
      refine y_iconst rfl ?_
      refine y_icmp_ne rfl rfl (by unfold rg; omega) (by unfold rg; omega) (fun w31 => ?_) (fun w32 => ?_)
      · refine y_aload_n rfl rfl ?_
        have k99 : Hid (kmC S ((re7 (ty7 S) (Xi S 890 3 + 2)) + 2) (re7 (ty7 S) ((re7 (ty7 S) (Xi S 890 3 + 2)) + 2)) ≠ -1) := by unfold Hid; omega
        refine y_gfr rfl rfl rfl rfl rfl (hHT1.r 891 2 1 rfl) ?_
        refine y_bipush rfl rfl ?_
        refine y_aload_n rfl rfl ?_
        refine y_gfr rfl rfl rfl rfl rfl (hHT1.r 891 0 876 rfl) ?_
        refine y_gfr rfl rfl rfl rfl rfl (hHT1.r 876 2 879 rfl) ?_
        refine y_iload_n rfl rfl ?_
        refine y_aload_n rfl rfl ?_
        refine y_gfr rfl rfl rfl rfl rfl (hHT1.r 891 0 876 rfl) ?_
        refine y_iload_n rfl rfl ?_
        refine y_callV rfl rfl rfl (t_to_runEnd__p hHT1 z9 ⟨by omega, by omega⟩ _) ?_
        rintro _ _ ⟨rfl, z38, rfl, w38, w36, w37⟩
        show Pl _ _ _ _ _ _ [iv z38, iv z9, .ref 879, iv 6, .ref 1] _ _
        have gq129 := w36
        rw [FRT hFT1 rfl rfl] at gq129
        try rw [show Xi T1 890 1 = Xi S 890 1 by omega] at gq129
        clear w36
        refine y_callV rfl rfl rfl (t_vo_tellNew__p hHT1 6 879 5130 z9 z38 ⟨by omega, by omega⟩ rfl ⟨by omega, by omega⟩ ⟨by omega, by omega⟩ ⟨by omega, by omega⟩ (by first | assumption | omega) (by first | assumption | omega) (Or.inl rfl) (⟨by show (0 : Int) ≤ Xi T1 5 6; omega, by show Xi T1 5 6 ≤ 62; omega⟩) _) ?_
        rintro _ T2 ⟨hHT2, w42, z41, rfl, w41, z132, c132, o132, e132⟩
        have hFT2 : FR md_re_tellRelation__p S T2 := FR.tr hFT1 w42 rfl
        show Pl _ _ _ _ _ _ [iv z41] _ _
        have Z132 : z41 = Xi T1 5 6 := z132
        have C132 : Xi T2 5 6 = Xi T1 5 6 + 1 := c132
        have O132 : Hid (∀ j, j ≠ 6 → Xi T2 5 j = Xi T1 5 j) := o132
        have E132 : Hid (∃ i : Nat, NMI T1 T2 i 6 (Xi S 5 6) (wRw T1 879 (bA (ty7 S) 0) (re7 (ty7 S) (bA (ty7 S) 0)) 0) (wRw T1 879 (bA (ty7 S) 0) (re7 (ty7 S) (bA (ty7 S) 0)) 1) (wRw T1 879 (bA (ty7 S) 0) (re7 (ty7 S) (bA (ty7 S) 0)) 2)) := by have t := e132; rw [← gq129, ← gq5, show z41 = Xi S 5 6 by omega] at t; exact t
        have F132 := (by assumption : FR md_vo_tellNew__p T1 T2)
        clear z132 c132 o132 e132
        refine y_istore rfl rfl rfl ?_
        refine y_aload_n rfl rfl ?_
        refine y_gfr rfl rfl rfl rfl rfl (hHT2.r 891 2 1 rfl) ?_
        refine y_gfr rfl rfl rfl rfl rfl (hHT2.r 1 13 14 rfl) ?_
        refine y_iload rfl rfl ?_
        refine y_iload rfl rfl ?_
        refine y_iastoreP (n := 6) rfl rfl (by unfold rg; omega) (fun w43 w44 => ?_)
        obtain ⟨U3, eU3⟩ : ∃ T : sS, T = uI T2 14 ((z41).toNat) (Int32.ofInt z24) := ⟨_, rfl⟩
        rw [← eU3]
        have hHU3 : RI U3 := by rw [eU3]; exact RI_w hHT2
        have hFU3 : FR md_re_tellRelation__p S U3 := by rw [eU3]; exact FR.wI hFT2 (mdf_i (r := (14, 15, 0, 100000)) (List.mem_of_getElem? (i := 5) rfl) (inR_i (by omega) (by omega) (by omega) (by omega)))
        have w45 : Xi U3 14 ((z41).toNat) = z24 := by rw [eU3]; exact Xi_same (by unfold rg; omega)
        have w148 := eU3
        refine y_aload_n rfl rfl ?_
        refine y_gfr rfl rfl rfl rfl rfl (hHU3.r 891 2 1 rfl) ?_
        refine y_gfr rfl rfl rfl rfl rfl (hHU3.r 1 14 15 rfl) ?_
        refine y_iload rfl rfl ?_
        refine y_iload rfl rfl ?_
        refine y_iastoreP (n := 6) rfl rfl (by unfold rg; omega) (fun w46 w47 => ?_)
        obtain ⟨U4, eU4⟩ : ∃ T : sS, T = uI U3 15 ((z41).toNat) (Int32.ofInt z30) := ⟨_, rfl⟩
        rw [← eU4]
        have hHU4 : RI U4 := by rw [eU4]; exact RI_w hHU3
        have hFU4 : FR md_re_tellRelation__p S U4 := by rw [eU4]; exact FR.wI hFU3 (mdf_i (r := (15, 16, 0, 100000)) (List.mem_of_getElem? (i := 6) rfl) (inR_i (by omega) (by omega) (by omega) (by omega)))
        have w48 : Xi U4 15 ((z41).toNat) = z30 := by rw [eU4]; exact Xi_same (by unfold rg; omega)
        have w160 := eU4
        refine y_aload_n rfl rfl ?_
        refine y_gfr rfl rfl rfl rfl rfl (hHU4.r 891 2 1 rfl) ?_
        refine y_gfr rfl rfl rfl rfl rfl (hHU4.r 1 15 16 rfl) ?_
        refine y_iload rfl rfl ?_
        refine y_aload_n rfl rfl ?_
        refine y_gfr rfl rfl rfl rfl rfl (hHU4.r 891 0 876 rfl) ?_
        refine y_iload_n rfl rfl ?_
        refine y_iconst rfl ?_
        refine y_isub rfl ?_
        have w49 : Xi U4 1 3 = Xi T2 1 3 := (show Xi U4 1 3 = Xi U3 1 3 from by rw [eU4]; exact Xi_ne (by omega)).trans ((show Xi U3 1 3 = Xi T2 1 3 from by rw [eU3]; exact Xi_ne (by omega)))
        have w50 : Xi U4 5 6 = Xi T2 5 6 := (show Xi U4 5 6 = Xi U3 5 6 from by rw [eU4]; exact Xi_ne (by omega)).trans ((show Xi U3 5 6 = Xi T2 5 6 from by rw [eU3]; exact Xi_ne (by omega)))
        have w51 : Xi U4 876 7 = Xi S 876 7 := (show Xi U4 876 7 = Xi U3 876 7 from by rw [eU4]; exact Xi_ne (by omega)).trans ( (show Xi U3 876 7 = Xi T2 876 7 from by rw [eU3]; exact Xi_ne (by omega)).trans ( (show Xi T2 876 7 = Xi T1 876 7 from w42.x _ _ rfl).trans ((show Xi T1 876 7 = Xi S 876 7 from w18.x _ _ rfl))))
        have w52 : Xi U4 876 8 = Xi T1 876 8 := (show Xi U4 876 8 = Xi U3 876 8 from by rw [eU4]; exact Xi_ne (by omega)).trans ( (show Xi U3 876 8 = Xi T2 876 8 from by rw [eU3]; exact Xi_ne (by omega)).trans ((show Xi T2 876 8 = Xi T1 876 8 from w42.x _ _ rfl)))
        have w53 : Xi U4 891 9 = Xi T1 891 9 := (show Xi U4 891 9 = Xi U3 891 9 from by rw [eU4]; exact Xi_ne (by omega)).trans ( (show Xi U3 891 9 = Xi T2 891 9 from by rw [eU3]; exact Xi_ne (by omega)).trans ((show Xi T2 891 9 = Xi T1 891 9 from w42.x _ _ rfl)))
        refine y_callV rfl rfl rfl (t_to_typeAt__p hHU4 (((Xi S 890 3) + 2) - 1) ⟨by omega, by omega⟩ _) ?_
        rintro _ _ ⟨rfl, z56, rfl, w56, w54, w55⟩
        show Pl _ _ _ _ _ _ [iv z56, iv z41, .ref 16] _ _
        have gq177 := w54
        rw [FRT hFU4 rfl rfl] at gq177
        try rw [show Xi U4 890 1 = Xi S 890 1 by omega] at gq177
        clear w54
        refine y_bipush rfl rfl ?_
        refine y_icmp_ne rfl rfl (by unfold rg; omega) (by unfold rg; omega) (fun w57 => ?_) (fun w58 => ?_)
        · refine y_iconst rfl ?_
          refine y_bastoreZP (n := 6) rfl rfl (by unfold rg; omega) ⟨by omega, by omega⟩ (fun w59 w60 => ?_)
          obtain ⟨U5, eU5⟩ : ∃ T : sS, T = uI U4 16 ((z41).toNat) (Int32.ofInt 0) := ⟨_, rfl⟩
          rw [← eU5]
          have hHU5 : RI U5 := by rw [eU5]; exact RI_w hHU4
          have hFU5 : FR md_re_tellRelation__p S U5 := by rw [eU5]; exact FR.wI hFU4 (mdf_i (r := (16, 17, 0, 100000)) (List.mem_of_getElem? (i := 7) rfl) (inR_i (by omega) (by omega) (by omega) (by omega)))
          have w61 : Xi U5 16 ((z41).toNat) = 0 := by rw [eU5]; exact Xi_same (by unfold rg; omega)
          have w190 := eU5
          refine y_aload_n rfl rfl ?_
          refine y_gfr rfl rfl rfl rfl rfl (hHU5.r 891 2 1 rfl) ?_
          refine y_gfr rfl rfl rfl rfl rfl (hHU5.r 1 16 17 rfl) ?_
          refine y_iload rfl rfl ?_
          refine y_aload_n rfl rfl ?_
          refine y_gfr rfl rfl rfl rfl rfl (hHU5.r 891 0 876 rfl) ?_
          refine y_iload rfl rfl ?_
          refine y_iconst rfl ?_
          refine y_isub rfl ?_
          have w62 : Xi U5 1 3 = Xi T2 1 3 := (show Xi U5 1 3 = Xi U4 1 3 from by rw [eU5]; exact Xi_ne (by omega)).trans ( (show Xi U4 1 3 = Xi U3 1 3 from by rw [eU4]; exact Xi_ne (by omega)).trans ((show Xi U3 1 3 = Xi T2 1 3 from by rw [eU3]; exact Xi_ne (by omega))))
          have w63 : Xi U5 5 6 = Xi T2 5 6 := (show Xi U5 5 6 = Xi U4 5 6 from by rw [eU5]; exact Xi_ne (by omega)).trans ( (show Xi U4 5 6 = Xi U3 5 6 from by rw [eU4]; exact Xi_ne (by omega)).trans ((show Xi U3 5 6 = Xi T2 5 6 from by rw [eU3]; exact Xi_ne (by omega))))
          have w64 : Xi U5 876 7 = Xi S 876 7 := (show Xi U5 876 7 = Xi U4 876 7 from by rw [eU5]; exact Xi_ne (by omega)).trans ( (show Xi U4 876 7 = Xi U3 876 7 from by rw [eU4]; exact Xi_ne (by omega)).trans ( (show Xi U3 876 7 = Xi T2 876 7 from by rw [eU3]; exact Xi_ne (by omega)).trans ( (show Xi T2 876 7 = Xi T1 876 7 from w42.x _ _ rfl).trans ((show Xi T1 876 7 = Xi S 876 7 from w18.x _ _ rfl)))))
          have w65 : Xi U5 876 8 = Xi T1 876 8 := (show Xi U5 876 8 = Xi U4 876 8 from by rw [eU5]; exact Xi_ne (by omega)).trans ( (show Xi U4 876 8 = Xi U3 876 8 from by rw [eU4]; exact Xi_ne (by omega)).trans ( (show Xi U3 876 8 = Xi T2 876 8 from by rw [eU3]; exact Xi_ne (by omega)).trans ((show Xi T2 876 8 = Xi T1 876 8 from w42.x _ _ rfl))))
          have w66 : Xi U5 891 9 = Xi T1 891 9 := (show Xi U5 891 9 = Xi U4 891 9 from by rw [eU5]; exact Xi_ne (by omega)).trans ( (show Xi U4 891 9 = Xi U3 891 9 from by rw [eU4]; exact Xi_ne (by omega)).trans ( (show Xi U3 891 9 = Xi T2 891 9 from by rw [eU3]; exact Xi_ne (by omega)).trans ((show Xi T2 891 9 = Xi T1 891 9 from w42.x _ _ rfl))))
          refine y_callV rfl rfl rfl (t_to_typeAt__p hHU5 ((z12 + 2) - 1) ⟨by omega, by omega⟩ _) ?_
          rintro _ _ ⟨rfl, z69, rfl, w69, w67, w68⟩
          show Pl _ _ _ _ _ _ [iv z69, iv z41, .ref 17] _ _
          have gq208 := w67
          rw [FRT hFU5 rfl rfl] at gq208
          try rw [show Xi U5 890 1 = Xi S 890 1 by omega] at gq208
          clear w67
          rw [← gq24] at gq208
          refine y_bipush rfl rfl ?_
          refine y_icmp_ne rfl rfl (by unfold rg; omega) (by unfold rg; omega) (fun w70 => ?_) (fun w71 => ?_)
          · refine y_iconst rfl ?_
            refine y_bastoreZP (n := 6) rfl rfl (by unfold rg; omega) ⟨by omega, by omega⟩ (fun w72 w73 => ?_)
            obtain ⟨U6, eU6⟩ : ∃ T : sS, T = uI U5 17 ((z41).toNat) (Int32.ofInt 0) := ⟨_, rfl⟩
            rw [← eU6]
            have hHU6 : RI U6 := by rw [eU6]; exact RI_w hHU5
            have hFU6 : FR md_re_tellRelation__p S U6 := by rw [eU6]; exact FR.wI hFU5 (mdf_i (r := (17, 18, 0, 100000)) (List.mem_of_getElem? (i := 8) rfl) (inR_i (by omega) (by omega) (by omega) (by omega)))
            have w74 : Xi U6 17 ((z41).toNat) = 0 := by rw [eU6]; exact Xi_same (by unfold rg; omega)
            have K221 : True := trivial
            have G221 : ∀ (k j : Nat), k ≠ 14 → k ≠ 15 → k ≠ 16 → k ≠ 17 → Xi U6 k j = Xi T2 k j := fun k j h1 h2 h3 h4 => by rw [eU6, Xi_ne (by omega), w190, Xi_ne (by omega), w160, Xi_ne (by omega), w148, Xi_ne (by omega)]
            have f221 : Xi U6 876 8 = 0 := by rw [G221 876 8 (by omega) (by omega) (by omega) (by omega), F132.x 876 8 rfl]; exact f62
            have J221 : ∀ j, Xj U6 2 j = Xj T2 2 j := fun j => by rw [eU6, Xj_I, w190, Xj_I, w160, Xj_I, w148, Xj_I]
            have Y221 : TN1 S U6 6 (Xi S 5 6) (bA (ty7 S) 0) (re7 (ty7 S) (bA (ty7 S) 0)) := tn1_of V62 E132.o (fun j => G221 3 j (by omega) (by omega) (by omega) (by omega)) (fun j => G221 4 j (by omega) (by omega) (by omega) (by omega)) J221 (G221 1 3 (by omega) (by omega) (by omega) (by omega))
            have c221 : Xi U6 5 6 = Xi T2 5 6 := G221 5 6 (by omega) (by omega) (by omega) (by omega)
            have Z221 : Hid (∀ j, j ≠ 6 → Xi U6 5 j = Xi S 5 j) := fun j hj => by rw [G221 5 j (by omega) (by omega) (by omega) (by omega), O132.o j hj, (F62.cx 5 rfl j).1]
            have R221 : RLN S U6 (Xi S 5 6) (kmC S (Xi S 890 3 + 2) (re7 (ty7 S) (Xi S 890 3 + 2))) (kmC S ((re7 (ty7 S) (Xi S 890 3 + 2)) + 2) (re7 (ty7 S) ((re7 (ty7 S) (Xi S 890 3 + 2)) + 2))) (ty7 S ((Xi S 890 3 + 2) - 1)) (ty7 S (((re7 (ty7 S) (Xi S 890 3 + 2)) + 2) - 1)) := by have t := rln_of (S := S) (x := ty7 S ((Xi S 890 3 + 2) - 1)) (y := ty7 S (((re7 (ty7 S) (Xi S 890 3 + 2)) + 2) - 1)) w148 w160 w190 eU6 (by unfold rg; omega) (by unfold rg; omega) (by omega) (by omega) (fun j => ⟨by rw [(F132.cx 14 rfl j).1, (F62.cx 14 rfl j).1], by rw [(F132.cx 15 rfl j).1, (F62.cx 15 rfl j).1], by rw [(F132.cx 16 rfl j).1, (F62.cx 16 rfl j).1], by rw [(F132.cx 17 rfl j).1, (F62.cx 17 rfl j).1]⟩); rw [show z41 = Xi S 5 6 by omega, show z24 = kmC S (Xi S 890 3 + 2) (re7 (ty7 S) (Xi S 890 3 + 2)) by omega, show z30 = kmC S ((re7 (ty7 S) (Xi S 890 3 + 2)) + 2) (re7 (ty7 S) ((re7 (ty7 S) (Xi S 890 3 + 2)) + 2)) by omega] at t; exact t
            refine y_iconst rfl ?_
            refine y_ireturn rfl rfl ?_
            have w75 : Xi U6 1 3 = Xi T2 1 3 := (show Xi U6 1 3 = Xi U5 1 3 from by rw [eU6]; exact Xi_ne (by omega)).trans ( (show Xi U5 1 3 = Xi U4 1 3 from by rw [eU5]; exact Xi_ne (by omega)).trans ( (show Xi U4 1 3 = Xi U3 1 3 from by rw [eU4]; exact Xi_ne (by omega)).trans ((show Xi U3 1 3 = Xi T2 1 3 from by rw [eU3]; exact Xi_ne (by omega)))))
            have w76 : Xi U6 5 6 = Xi T2 5 6 := (show Xi U6 5 6 = Xi U5 5 6 from by rw [eU6]; exact Xi_ne (by omega)).trans ( (show Xi U5 5 6 = Xi U4 5 6 from by rw [eU5]; exact Xi_ne (by omega)).trans ( (show Xi U4 5 6 = Xi U3 5 6 from by rw [eU4]; exact Xi_ne (by omega)).trans ((show Xi U3 5 6 = Xi T2 5 6 from by rw [eU3]; exact Xi_ne (by omega)))))
            have w77 : Xi U6 876 8 = Xi T1 876 8 := (show Xi U6 876 8 = Xi U5 876 8 from by rw [eU6]; exact Xi_ne (by omega)).trans ( (show Xi U5 876 8 = Xi U4 876 8 from by rw [eU5]; exact Xi_ne (by omega)).trans ( (show Xi U4 876 8 = Xi U3 876 8 from by rw [eU4]; exact Xi_ne (by omega)).trans ( (show Xi U3 876 8 = Xi T2 876 8 from by rw [eU3]; exact Xi_ne (by omega)).trans ((show Xi T2 876 8 = Xi T1 876 8 from w42.x _ _ rfl)))))
            have w78 : Xi U6 891 9 = Xi T1 891 9 := (show Xi U6 891 9 = Xi U5 891 9 from by rw [eU6]; exact Xi_ne (by omega)).trans ( (show Xi U5 891 9 = Xi U4 891 9 from by rw [eU5]; exact Xi_ne (by omega)).trans ( (show Xi U4 891 9 = Xi U3 891 9 from by rw [eU4]; exact Xi_ne (by omega)).trans ( (show Xi U3 891 9 = Xi T2 891 9 from by rw [eU3]; exact Xi_ne (by omega)).trans ((show Xi T2 891 9 = Xi T1 891 9 from w42.x _ _ rfl)))))
            exact ⟨hHU6, hFU6, _, rfl, ⟨by omega, by omega⟩, (by first | (have t := K221; exact trel_4 A62.o k75.o k99.o ⟨f221, Y221, by omega, Z221.o, R221⟩) | (have t := K106; exact trel_3 A62.o k75.o (by omega) P62.o (by omega) Y106) | (have t := K81; exact trel_2 A62.o (by omega) P62.o (by omega) Y81) | (have t := K54; exact trel_1 n3_54.o n9_54.o ok_54.o (by omega) hn0))⟩
          · refine y_iconst rfl ?_
            refine y_goto rfl rfl ?_
            refine y_bastoreZP (n := 6) rfl rfl (by unfold rg; omega) ⟨by omega, by omega⟩ (fun w79 w80 => ?_)
            obtain ⟨U7, eU7⟩ : ∃ T : sS, T = uI U5 17 ((z41).toNat) (Int32.ofInt 1) := ⟨_, rfl⟩
            rw [← eU7]
            have hHU7 : RI U7 := by rw [eU7]; exact RI_w hHU5
            have hFU7 : FR md_re_tellRelation__p S U7 := by rw [eU7]; exact FR.wI hFU5 (mdf_i (r := (17, 18, 0, 100000)) (List.mem_of_getElem? (i := 8) rfl) (inR_i (by omega) (by omega) (by omega) (by omega)))
            have w81 : Xi U7 17 ((z41).toNat) = 1 := by rw [eU7]; exact Xi_same (by unfold rg; omega)
            have K221 : True := trivial
            have G221 : ∀ (k j : Nat), k ≠ 14 → k ≠ 15 → k ≠ 16 → k ≠ 17 → Xi U7 k j = Xi T2 k j := fun k j h1 h2 h3 h4 => by rw [eU7, Xi_ne (by omega), w190, Xi_ne (by omega), w160, Xi_ne (by omega), w148, Xi_ne (by omega)]
            have f221 : Xi U7 876 8 = 0 := by rw [G221 876 8 (by omega) (by omega) (by omega) (by omega), F132.x 876 8 rfl]; exact f62
            have J221 : ∀ j, Xj U7 2 j = Xj T2 2 j := fun j => by rw [eU7, Xj_I, w190, Xj_I, w160, Xj_I, w148, Xj_I]
            have Y221 : TN1 S U7 6 (Xi S 5 6) (bA (ty7 S) 0) (re7 (ty7 S) (bA (ty7 S) 0)) := tn1_of V62 E132.o (fun j => G221 3 j (by omega) (by omega) (by omega) (by omega)) (fun j => G221 4 j (by omega) (by omega) (by omega) (by omega)) J221 (G221 1 3 (by omega) (by omega) (by omega) (by omega))
            have c221 : Xi U7 5 6 = Xi T2 5 6 := G221 5 6 (by omega) (by omega) (by omega) (by omega)
            have Z221 : Hid (∀ j, j ≠ 6 → Xi U7 5 j = Xi S 5 j) := fun j hj => by rw [G221 5 j (by omega) (by omega) (by omega) (by omega), O132.o j hj, (F62.cx 5 rfl j).1]
            have R221 : RLN S U7 (Xi S 5 6) (kmC S (Xi S 890 3 + 2) (re7 (ty7 S) (Xi S 890 3 + 2))) (kmC S ((re7 (ty7 S) (Xi S 890 3 + 2)) + 2) (re7 (ty7 S) ((re7 (ty7 S) (Xi S 890 3 + 2)) + 2))) (ty7 S ((Xi S 890 3 + 2) - 1)) (ty7 S (((re7 (ty7 S) (Xi S 890 3 + 2)) + 2) - 1)) := by have t := rln_of (S := S) (x := ty7 S ((Xi S 890 3 + 2) - 1)) (y := ty7 S (((re7 (ty7 S) (Xi S 890 3 + 2)) + 2) - 1)) w148 w160 w190 eU7 (by unfold rg; omega) (by unfold rg; omega) (by omega) (by omega) (fun j => ⟨by rw [(F132.cx 14 rfl j).1, (F62.cx 14 rfl j).1], by rw [(F132.cx 15 rfl j).1, (F62.cx 15 rfl j).1], by rw [(F132.cx 16 rfl j).1, (F62.cx 16 rfl j).1], by rw [(F132.cx 17 rfl j).1, (F62.cx 17 rfl j).1]⟩); rw [show z41 = Xi S 5 6 by omega, show z24 = kmC S (Xi S 890 3 + 2) (re7 (ty7 S) (Xi S 890 3 + 2)) by omega, show z30 = kmC S ((re7 (ty7 S) (Xi S 890 3 + 2)) + 2) (re7 (ty7 S) ((re7 (ty7 S) (Xi S 890 3 + 2)) + 2)) by omega] at t; exact t
            refine y_iconst rfl ?_
            refine y_ireturn rfl rfl ?_
            have w82 : Xi U7 1 3 = Xi T2 1 3 := (show Xi U7 1 3 = Xi U5 1 3 from by rw [eU7]; exact Xi_ne (by omega)).trans ( (show Xi U5 1 3 = Xi U4 1 3 from by rw [eU5]; exact Xi_ne (by omega)).trans ( (show Xi U4 1 3 = Xi U3 1 3 from by rw [eU4]; exact Xi_ne (by omega)).trans ((show Xi U3 1 3 = Xi T2 1 3 from by rw [eU3]; exact Xi_ne (by omega)))))
            have w83 : Xi U7 5 6 = Xi T2 5 6 := (show Xi U7 5 6 = Xi U5 5 6 from by rw [eU7]; exact Xi_ne (by omega)).trans ( (show Xi U5 5 6 = Xi U4 5 6 from by rw [eU5]; exact Xi_ne (by omega)).trans ( (show Xi U4 5 6 = Xi U3 5 6 from by rw [eU4]; exact Xi_ne (by omega)).trans ((show Xi U3 5 6 = Xi T2 5 6 from by rw [eU3]; exact Xi_ne (by omega)))))
            have w84 : Xi U7 876 8 = Xi T1 876 8 := (show Xi U7 876 8 = Xi U5 876 8 from by rw [eU7]; exact Xi_ne (by omega)).trans ( (show Xi U5 876 8 = Xi U4 876 8 from by rw [eU5]; exact Xi_ne (by omega)).trans ( (show Xi U4 876 8 = Xi U3 876 8 from by rw [eU4]; exact Xi_ne (by omega)).trans ( (show Xi U3 876 8 = Xi T2 876 8 from by rw [eU3]; exact Xi_ne (by omega)).trans ((show Xi T2 876 8 = Xi T1 876 8 from w42.x _ _ rfl)))))
            have w85 : Xi U7 891 9 = Xi T1 891 9 := (show Xi U7 891 9 = Xi U5 891 9 from by rw [eU7]; exact Xi_ne (by omega)).trans ( (show Xi U5 891 9 = Xi U4 891 9 from by rw [eU5]; exact Xi_ne (by omega)).trans ( (show Xi U4 891 9 = Xi U3 891 9 from by rw [eU4]; exact Xi_ne (by omega)).trans ( (show Xi U3 891 9 = Xi T2 891 9 from by rw [eU3]; exact Xi_ne (by omega)).trans ((show Xi T2 891 9 = Xi T1 891 9 from w42.x _ _ rfl)))))
            exact ⟨hHU7, hFU7, _, rfl, ⟨by omega, by omega⟩, (by first | (have t := K221; exact trel_4 A62.o k75.o k99.o ⟨f221, Y221, by omega, Z221.o, R221⟩) | (have t := K106; exact trel_3 A62.o k75.o (by omega) P62.o (by omega) Y106) | (have t := K81; exact trel_2 A62.o (by omega) P62.o (by omega) Y81) | (have t := K54; exact trel_1 n3_54.o n9_54.o ok_54.o (by omega) hn0))⟩
        · refine y_iconst rfl ?_
          refine y_goto rfl rfl ?_
          refine y_bastoreZP (n := 6) rfl rfl (by unfold rg; omega) ⟨by omega, by omega⟩ (fun w86 w87 => ?_)
          obtain ⟨U8, eU8⟩ : ∃ T : sS, T = uI U4 16 ((z41).toNat) (Int32.ofInt 1) := ⟨_, rfl⟩
          rw [← eU8]
          have hHU8 : RI U8 := by rw [eU8]; exact RI_w hHU4
          have hFU8 : FR md_re_tellRelation__p S U8 := by rw [eU8]; exact FR.wI hFU4 (mdf_i (r := (16, 17, 0, 100000)) (List.mem_of_getElem? (i := 7) rfl) (inR_i (by omega) (by omega) (by omega) (by omega)))
          have w88 : Xi U8 16 ((z41).toNat) = 1 := by rw [eU8]; exact Xi_same (by unfold rg; omega)
          have w190 := eU8
          refine y_aload_n rfl rfl ?_
          refine y_gfr rfl rfl rfl rfl rfl (hHU8.r 891 2 1 rfl) ?_
          refine y_gfr rfl rfl rfl rfl rfl (hHU8.r 1 16 17 rfl) ?_
          refine y_iload rfl rfl ?_
          refine y_aload_n rfl rfl ?_
          refine y_gfr rfl rfl rfl rfl rfl (hHU8.r 891 0 876 rfl) ?_
          refine y_iload rfl rfl ?_
          refine y_iconst rfl ?_
          refine y_isub rfl ?_
          have w89 : Xi U8 1 3 = Xi T2 1 3 := (show Xi U8 1 3 = Xi U4 1 3 from by rw [eU8]; exact Xi_ne (by omega)).trans ( (show Xi U4 1 3 = Xi U3 1 3 from by rw [eU4]; exact Xi_ne (by omega)).trans ((show Xi U3 1 3 = Xi T2 1 3 from by rw [eU3]; exact Xi_ne (by omega))))
          have w90 : Xi U8 5 6 = Xi T2 5 6 := (show Xi U8 5 6 = Xi U4 5 6 from by rw [eU8]; exact Xi_ne (by omega)).trans ( (show Xi U4 5 6 = Xi U3 5 6 from by rw [eU4]; exact Xi_ne (by omega)).trans ((show Xi U3 5 6 = Xi T2 5 6 from by rw [eU3]; exact Xi_ne (by omega))))
          have w91 : Xi U8 876 7 = Xi S 876 7 := (show Xi U8 876 7 = Xi U4 876 7 from by rw [eU8]; exact Xi_ne (by omega)).trans ( (show Xi U4 876 7 = Xi U3 876 7 from by rw [eU4]; exact Xi_ne (by omega)).trans ( (show Xi U3 876 7 = Xi T2 876 7 from by rw [eU3]; exact Xi_ne (by omega)).trans ( (show Xi T2 876 7 = Xi T1 876 7 from w42.x _ _ rfl).trans ((show Xi T1 876 7 = Xi S 876 7 from w18.x _ _ rfl)))))
          have w92 : Xi U8 876 8 = Xi T1 876 8 := (show Xi U8 876 8 = Xi U4 876 8 from by rw [eU8]; exact Xi_ne (by omega)).trans ( (show Xi U4 876 8 = Xi U3 876 8 from by rw [eU4]; exact Xi_ne (by omega)).trans ( (show Xi U3 876 8 = Xi T2 876 8 from by rw [eU3]; exact Xi_ne (by omega)).trans ((show Xi T2 876 8 = Xi T1 876 8 from w42.x _ _ rfl))))
          have w93 : Xi U8 891 9 = Xi T1 891 9 := (show Xi U8 891 9 = Xi U4 891 9 from by rw [eU8]; exact Xi_ne (by omega)).trans ( (show Xi U4 891 9 = Xi U3 891 9 from by rw [eU4]; exact Xi_ne (by omega)).trans ( (show Xi U3 891 9 = Xi T2 891 9 from by rw [eU3]; exact Xi_ne (by omega)).trans ((show Xi T2 891 9 = Xi T1 891 9 from w42.x _ _ rfl))))
          refine y_callV rfl rfl rfl (t_to_typeAt__p hHU8 ((z12 + 2) - 1) ⟨by omega, by omega⟩ _) ?_
          rintro _ _ ⟨rfl, z96, rfl, w96, w94, w95⟩
          show Pl _ _ _ _ _ _ [iv z96, iv z41, .ref 17] _ _
          have gq208 := w94
          rw [FRT hFU8 rfl rfl] at gq208
          try rw [show Xi U8 890 1 = Xi S 890 1 by omega] at gq208
          clear w94
          rw [← gq24] at gq208
          refine y_bipush rfl rfl ?_
          refine y_icmp_ne rfl rfl (by unfold rg; omega) (by unfold rg; omega) (fun w97 => ?_) (fun w98 => ?_)
          · refine y_iconst rfl ?_
            refine y_bastoreZP (n := 6) rfl rfl (by unfold rg; omega) ⟨by omega, by omega⟩ (fun w99 w100 => ?_)
            obtain ⟨U9, eU9⟩ : ∃ T : sS, T = uI U8 17 ((z41).toNat) (Int32.ofInt 0) := ⟨_, rfl⟩
            rw [← eU9]
            have hHU9 : RI U9 := by rw [eU9]; exact RI_w hHU8
            have hFU9 : FR md_re_tellRelation__p S U9 := by rw [eU9]; exact FR.wI hFU8 (mdf_i (r := (17, 18, 0, 100000)) (List.mem_of_getElem? (i := 8) rfl) (inR_i (by omega) (by omega) (by omega) (by omega)))
            have w101 : Xi U9 17 ((z41).toNat) = 0 := by rw [eU9]; exact Xi_same (by unfold rg; omega)
            have K221 : True := trivial
            have G221 : ∀ (k j : Nat), k ≠ 14 → k ≠ 15 → k ≠ 16 → k ≠ 17 → Xi U9 k j = Xi T2 k j := fun k j h1 h2 h3 h4 => by rw [eU9, Xi_ne (by omega), w190, Xi_ne (by omega), w160, Xi_ne (by omega), w148, Xi_ne (by omega)]
            have f221 : Xi U9 876 8 = 0 := by rw [G221 876 8 (by omega) (by omega) (by omega) (by omega), F132.x 876 8 rfl]; exact f62
            have J221 : ∀ j, Xj U9 2 j = Xj T2 2 j := fun j => by rw [eU9, Xj_I, w190, Xj_I, w160, Xj_I, w148, Xj_I]
            have Y221 : TN1 S U9 6 (Xi S 5 6) (bA (ty7 S) 0) (re7 (ty7 S) (bA (ty7 S) 0)) := tn1_of V62 E132.o (fun j => G221 3 j (by omega) (by omega) (by omega) (by omega)) (fun j => G221 4 j (by omega) (by omega) (by omega) (by omega)) J221 (G221 1 3 (by omega) (by omega) (by omega) (by omega))
            have c221 : Xi U9 5 6 = Xi T2 5 6 := G221 5 6 (by omega) (by omega) (by omega) (by omega)
            have Z221 : Hid (∀ j, j ≠ 6 → Xi U9 5 j = Xi S 5 j) := fun j hj => by rw [G221 5 j (by omega) (by omega) (by omega) (by omega), O132.o j hj, (F62.cx 5 rfl j).1]
            have R221 : RLN S U9 (Xi S 5 6) (kmC S (Xi S 890 3 + 2) (re7 (ty7 S) (Xi S 890 3 + 2))) (kmC S ((re7 (ty7 S) (Xi S 890 3 + 2)) + 2) (re7 (ty7 S) ((re7 (ty7 S) (Xi S 890 3 + 2)) + 2))) (ty7 S ((Xi S 890 3 + 2) - 1)) (ty7 S (((re7 (ty7 S) (Xi S 890 3 + 2)) + 2) - 1)) := by have t := rln_of (S := S) (x := ty7 S ((Xi S 890 3 + 2) - 1)) (y := ty7 S (((re7 (ty7 S) (Xi S 890 3 + 2)) + 2) - 1)) w148 w160 w190 eU9 (by unfold rg; omega) (by unfold rg; omega) (by omega) (by omega) (fun j => ⟨by rw [(F132.cx 14 rfl j).1, (F62.cx 14 rfl j).1], by rw [(F132.cx 15 rfl j).1, (F62.cx 15 rfl j).1], by rw [(F132.cx 16 rfl j).1, (F62.cx 16 rfl j).1], by rw [(F132.cx 17 rfl j).1, (F62.cx 17 rfl j).1]⟩); rw [show z41 = Xi S 5 6 by omega, show z24 = kmC S (Xi S 890 3 + 2) (re7 (ty7 S) (Xi S 890 3 + 2)) by omega, show z30 = kmC S ((re7 (ty7 S) (Xi S 890 3 + 2)) + 2) (re7 (ty7 S) ((re7 (ty7 S) (Xi S 890 3 + 2)) + 2)) by omega] at t; exact t
            refine y_iconst rfl ?_
            refine y_ireturn rfl rfl ?_
            have w102 : Xi U9 1 3 = Xi T2 1 3 := (show Xi U9 1 3 = Xi U8 1 3 from by rw [eU9]; exact Xi_ne (by omega)).trans ( (show Xi U8 1 3 = Xi U4 1 3 from by rw [eU8]; exact Xi_ne (by omega)).trans ( (show Xi U4 1 3 = Xi U3 1 3 from by rw [eU4]; exact Xi_ne (by omega)).trans ((show Xi U3 1 3 = Xi T2 1 3 from by rw [eU3]; exact Xi_ne (by omega)))))
            have w103 : Xi U9 5 6 = Xi T2 5 6 := (show Xi U9 5 6 = Xi U8 5 6 from by rw [eU9]; exact Xi_ne (by omega)).trans ( (show Xi U8 5 6 = Xi U4 5 6 from by rw [eU8]; exact Xi_ne (by omega)).trans ( (show Xi U4 5 6 = Xi U3 5 6 from by rw [eU4]; exact Xi_ne (by omega)).trans ((show Xi U3 5 6 = Xi T2 5 6 from by rw [eU3]; exact Xi_ne (by omega)))))
            have w104 : Xi U9 876 8 = Xi T1 876 8 := (show Xi U9 876 8 = Xi U8 876 8 from by rw [eU9]; exact Xi_ne (by omega)).trans ( (show Xi U8 876 8 = Xi U4 876 8 from by rw [eU8]; exact Xi_ne (by omega)).trans ( (show Xi U4 876 8 = Xi U3 876 8 from by rw [eU4]; exact Xi_ne (by omega)).trans ( (show Xi U3 876 8 = Xi T2 876 8 from by rw [eU3]; exact Xi_ne (by omega)).trans ((show Xi T2 876 8 = Xi T1 876 8 from w42.x _ _ rfl)))))
            have w105 : Xi U9 891 9 = Xi T1 891 9 := (show Xi U9 891 9 = Xi U8 891 9 from by rw [eU9]; exact Xi_ne (by omega)).trans ( (show Xi U8 891 9 = Xi U4 891 9 from by rw [eU8]; exact Xi_ne (by omega)).trans ( (show Xi U4 891 9 = Xi U3 891 9 from by rw [eU4]; exact Xi_ne (by omega)).trans ( (show Xi U3 891 9 = Xi T2 891 9 from by rw [eU3]; exact Xi_ne (by omega)).trans ((show Xi T2 891 9 = Xi T1 891 9 from w42.x _ _ rfl)))))
            exact ⟨hHU9, hFU9, _, rfl, ⟨by omega, by omega⟩, (by first | (have t := K221; exact trel_4 A62.o k75.o k99.o ⟨f221, Y221, by omega, Z221.o, R221⟩) | (have t := K106; exact trel_3 A62.o k75.o (by omega) P62.o (by omega) Y106) | (have t := K81; exact trel_2 A62.o (by omega) P62.o (by omega) Y81) | (have t := K54; exact trel_1 n3_54.o n9_54.o ok_54.o (by omega) hn0))⟩
          · refine y_iconst rfl ?_
            refine y_goto rfl rfl ?_
            refine y_bastoreZP (n := 6) rfl rfl (by unfold rg; omega) ⟨by omega, by omega⟩ (fun w106 w107 => ?_)
            obtain ⟨U10, eU10⟩ : ∃ T : sS, T = uI U8 17 ((z41).toNat) (Int32.ofInt 1) := ⟨_, rfl⟩
            rw [← eU10]
            have hHU10 : RI U10 := by rw [eU10]; exact RI_w hHU8
            have hFU10 : FR md_re_tellRelation__p S U10 := by rw [eU10]; exact FR.wI hFU8 (mdf_i (r := (17, 18, 0, 100000)) (List.mem_of_getElem? (i := 8) rfl) (inR_i (by omega) (by omega) (by omega) (by omega)))
            have w108 : Xi U10 17 ((z41).toNat) = 1 := by rw [eU10]; exact Xi_same (by unfold rg; omega)
            have K221 : True := trivial
            have G221 : ∀ (k j : Nat), k ≠ 14 → k ≠ 15 → k ≠ 16 → k ≠ 17 → Xi U10 k j = Xi T2 k j := fun k j h1 h2 h3 h4 => by rw [eU10, Xi_ne (by omega), w190, Xi_ne (by omega), w160, Xi_ne (by omega), w148, Xi_ne (by omega)]
            have f221 : Xi U10 876 8 = 0 := by rw [G221 876 8 (by omega) (by omega) (by omega) (by omega), F132.x 876 8 rfl]; exact f62
            have J221 : ∀ j, Xj U10 2 j = Xj T2 2 j := fun j => by rw [eU10, Xj_I, w190, Xj_I, w160, Xj_I, w148, Xj_I]
            have Y221 : TN1 S U10 6 (Xi S 5 6) (bA (ty7 S) 0) (re7 (ty7 S) (bA (ty7 S) 0)) := tn1_of V62 E132.o (fun j => G221 3 j (by omega) (by omega) (by omega) (by omega)) (fun j => G221 4 j (by omega) (by omega) (by omega) (by omega)) J221 (G221 1 3 (by omega) (by omega) (by omega) (by omega))
            have c221 : Xi U10 5 6 = Xi T2 5 6 := G221 5 6 (by omega) (by omega) (by omega) (by omega)
            have Z221 : Hid (∀ j, j ≠ 6 → Xi U10 5 j = Xi S 5 j) := fun j hj => by rw [G221 5 j (by omega) (by omega) (by omega) (by omega), O132.o j hj, (F62.cx 5 rfl j).1]
            have R221 : RLN S U10 (Xi S 5 6) (kmC S (Xi S 890 3 + 2) (re7 (ty7 S) (Xi S 890 3 + 2))) (kmC S ((re7 (ty7 S) (Xi S 890 3 + 2)) + 2) (re7 (ty7 S) ((re7 (ty7 S) (Xi S 890 3 + 2)) + 2))) (ty7 S ((Xi S 890 3 + 2) - 1)) (ty7 S (((re7 (ty7 S) (Xi S 890 3 + 2)) + 2) - 1)) := by have t := rln_of (S := S) (x := ty7 S ((Xi S 890 3 + 2) - 1)) (y := ty7 S (((re7 (ty7 S) (Xi S 890 3 + 2)) + 2) - 1)) w148 w160 w190 eU10 (by unfold rg; omega) (by unfold rg; omega) (by omega) (by omega) (fun j => ⟨by rw [(F132.cx 14 rfl j).1, (F62.cx 14 rfl j).1], by rw [(F132.cx 15 rfl j).1, (F62.cx 15 rfl j).1], by rw [(F132.cx 16 rfl j).1, (F62.cx 16 rfl j).1], by rw [(F132.cx 17 rfl j).1, (F62.cx 17 rfl j).1]⟩); rw [show z41 = Xi S 5 6 by omega, show z24 = kmC S (Xi S 890 3 + 2) (re7 (ty7 S) (Xi S 890 3 + 2)) by omega, show z30 = kmC S ((re7 (ty7 S) (Xi S 890 3 + 2)) + 2) (re7 (ty7 S) ((re7 (ty7 S) (Xi S 890 3 + 2)) + 2)) by omega] at t; exact t
            refine y_iconst rfl ?_
            refine y_ireturn rfl rfl ?_
            have w109 : Xi U10 1 3 = Xi T2 1 3 := (show Xi U10 1 3 = Xi U8 1 3 from by rw [eU10]; exact Xi_ne (by omega)).trans ( (show Xi U8 1 3 = Xi U4 1 3 from by rw [eU8]; exact Xi_ne (by omega)).trans ( (show Xi U4 1 3 = Xi U3 1 3 from by rw [eU4]; exact Xi_ne (by omega)).trans ((show Xi U3 1 3 = Xi T2 1 3 from by rw [eU3]; exact Xi_ne (by omega)))))
            have w110 : Xi U10 5 6 = Xi T2 5 6 := (show Xi U10 5 6 = Xi U8 5 6 from by rw [eU10]; exact Xi_ne (by omega)).trans ( (show Xi U8 5 6 = Xi U4 5 6 from by rw [eU8]; exact Xi_ne (by omega)).trans ( (show Xi U4 5 6 = Xi U3 5 6 from by rw [eU4]; exact Xi_ne (by omega)).trans ((show Xi U3 5 6 = Xi T2 5 6 from by rw [eU3]; exact Xi_ne (by omega)))))
            have w111 : Xi U10 876 8 = Xi T1 876 8 := (show Xi U10 876 8 = Xi U8 876 8 from by rw [eU10]; exact Xi_ne (by omega)).trans ( (show Xi U8 876 8 = Xi U4 876 8 from by rw [eU8]; exact Xi_ne (by omega)).trans ( (show Xi U4 876 8 = Xi U3 876 8 from by rw [eU4]; exact Xi_ne (by omega)).trans ( (show Xi U3 876 8 = Xi T2 876 8 from by rw [eU3]; exact Xi_ne (by omega)).trans ((show Xi T2 876 8 = Xi T1 876 8 from w42.x _ _ rfl)))))
            have w112 : Xi U10 891 9 = Xi T1 891 9 := (show Xi U10 891 9 = Xi U8 891 9 from by rw [eU10]; exact Xi_ne (by omega)).trans ( (show Xi U8 891 9 = Xi U4 891 9 from by rw [eU8]; exact Xi_ne (by omega)).trans ( (show Xi U4 891 9 = Xi U3 891 9 from by rw [eU4]; exact Xi_ne (by omega)).trans ( (show Xi U3 891 9 = Xi T2 891 9 from by rw [eU3]; exact Xi_ne (by omega)).trans ((show Xi T2 891 9 = Xi T1 891 9 from w42.x _ _ rfl)))))
            exact ⟨hHU10, hFU10, _, rfl, ⟨by omega, by omega⟩, (by first | (have t := K221; exact trel_4 A62.o k75.o k99.o ⟨f221, Y221, by omega, Z221.o, R221⟩) | (have t := K106; exact trel_3 A62.o k75.o (by omega) P62.o (by omega) Y106) | (have t := K81; exact trel_2 A62.o (by omega) P62.o (by omega) Y81) | (have t := K54; exact trel_1 n3_54.o n9_54.o ok_54.o (by omega) hn0))⟩
      · refine y_aload_n rfl rfl ?_
        refine y_gfr rfl rfl rfl rfl rfl (hHT1.r 891 0 876 rfl) ?_
        refine y_iconst rfl ?_
        refine y_iload rfl rfl ?_
        refine y_callV rfl rfl rfl (t_to_wrong__p hHT1 4 (z12 + 2) ⟨by omega, by omega⟩ ⟨by omega, by omega⟩ _) ?_
        rintro _ T11 ⟨hHT11, w118, z117, rfl, w117, w115, f106, w116⟩
        have hFT11 : FR md_re_tellRelation__p S T11 := FR.tr hFT1 w118 rfl
        show Pl _ _ _ _ _ _ [iv z117] _ _
        have K106 : True := trivial
        have Y106 : FTO T1 T11 4 ((re7 (ty7 S) (Xi S 890 3 + 2)) + 2) := by have t := f106 (by omega); rw [← gq24] at t; exact t
        refine y_ireturn rfl (retI_z (by omega)) ?_
        have w119 : Xi T11 1 3 = Xi S 1 3 := (show Xi T11 1 3 = Xi T1 1 3 from w118.x _ _ rfl).trans ((show Xi T1 1 3 = Xi S 1 3 from w18.x _ _ rfl))
        have w120 : Xi T11 5 6 = Xi S 5 6 := (show Xi T11 5 6 = Xi T1 5 6 from w118.x _ _ rfl).trans ((show Xi T1 5 6 = Xi S 5 6 from w18.x _ _ rfl))
        have w121 : Xi T11 891 9 = Xi T1 891 9 := (show Xi T11 891 9 = Xi T1 891 9 from w118.x _ _ rfl)
        exact ⟨hHT11, hFT11, _, rfl, ⟨by omega, by omega⟩, (by first | (have t := K221; exact trel_4 A62.o k75.o k99.o ⟨f221, Y221, by omega, Z221.o, R221⟩) | (have t := K106; exact trel_3 A62.o k75.o (by omega) P62.o (by omega) Y106) | (have t := K81; exact trel_2 A62.o (by omega) P62.o (by omega) Y81) | (have t := K54; exact trel_1 n3_54.o n9_54.o ok_54.o (by omega) hn0))⟩
    · refine y_aload_n rfl rfl ?_
      refine y_gfr rfl rfl rfl rfl rfl (hHT1.r 891 0 876 rfl) ?_
      refine y_iconst rfl ?_
      refine y_iload_n rfl rfl ?_
      refine y_callV rfl rfl rfl (t_to_wrong__p hHT1 4 ((Xi S 890 3) + 2) ⟨by omega, by omega⟩ ⟨by omega, by omega⟩ _) ?_
      rintro _ T12 ⟨hHT12, w127, z126, rfl, w126, w124, f81, w125⟩
      have hFT12 : FR md_re_tellRelation__p S T12 := FR.tr hFT1 w127 rfl
      show Pl _ _ _ _ _ _ [iv z126] _ _
      have K81 : True := trivial
      have Y81 : FTO T1 T12 4 (Xi S 890 3 + 2) := f81 (by omega)
      refine y_ireturn rfl (retI_z (by omega)) ?_
      have w128 : Xi T12 1 3 = Xi S 1 3 := (show Xi T12 1 3 = Xi T1 1 3 from w127.x _ _ rfl).trans ((show Xi T1 1 3 = Xi S 1 3 from w18.x _ _ rfl))
      have w129 : Xi T12 5 6 = Xi S 5 6 := (show Xi T12 5 6 = Xi T1 5 6 from w127.x _ _ rfl).trans ((show Xi T1 5 6 = Xi S 5 6 from w18.x _ _ rfl))
      have w130 : Xi T12 891 9 = Xi T1 891 9 := (show Xi T12 891 9 = Xi T1 891 9 from w127.x _ _ rfl)
      exact ⟨hHT12, hFT12, _, rfl, ⟨by omega, by omega⟩, (by first | (have t := K221; exact trel_4 A62.o k75.o k99.o ⟨f221, Y221, by omega, Z221.o, R221⟩) | (have t := K106; exact trel_3 A62.o k75.o (by omega) P62.o (by omega) Y106) | (have t := K81; exact trel_2 A62.o (by omega) P62.o (by omega) Y81) | (have t := K54; exact trel_1 n3_54.o n9_54.o ok_54.o (by omega) hn0))⟩
  · refine y_iconst rfl ?_
    refine y_ireturn rfl rfl ?_
    have w131 : Xi T1 1 3 = Xi S 1 3 := (show Xi T1 1 3 = Xi S 1 3 from w18.x _ _ rfl)
    have w132 : Xi T1 5 6 = Xi S 5 6 := (show Xi T1 5 6 = Xi S 5 6 from w18.x _ _ rfl)
    exact ⟨hHT1, hFT1, _, rfl, ⟨by omega, by omega⟩, (by first | (have t := K221; exact trel_4 A62.o k75.o k99.o ⟨f221, Y221, by omega, Z221.o, R221⟩) | (have t := K106; exact trel_3 A62.o k75.o (by omega) P62.o (by omega) Y106) | (have t := K81; exact trel_2 A62.o (by omega) P62.o (by omega) Y81) | (have t := K54; exact trel_1 n3_54.o n9_54.o ok_54.o (by omega) hn0))⟩
end
section
/-! the reference: what is noted -/
def NTB (x : Int × Int × Int) (f p : Int) : Prop := x.1 = f ∧ x.2.1 = p
theorem ntb_1 {x : Int × Int × Int} {f p : Int} (h : x.1 = 0) : NTB (ntF x f p) f p := by
  unfold ntF NTB
  rw [if_pos (Or.inl h)]
  exact ⟨rfl, rfl⟩
theorem ntb_k {x : Int × Int × Int} {f p g q : Int} (h : NTB x f p) (hf : f ≠ 0) (hq : p < q) : NTB (ntF x g q) f p := by
  obtain ⟨h1, h2⟩ := h
  have e : ntF x g q = x := by
    unfold ntF
    rw [if_neg (by rw [h1, h2]; omega)]
  rw [e]
  exact ⟨h1, h2⟩
def nwR0 (S : sS) (r : Int) : Prop := Xi S 951 r.toNat ≤ 3 ∧ rmR S r = -1
def nwR1 (S : sS) (q r : Int) : Prop := nwR0 S r ∧ ¬ alR S r q
def pR (S : sS) (r : Int) : Int := Xi S 908 (Xi S 950 r.toNat).toNat
/-- 18: what the reference notes -/
def RCAN (S : sS) (x : Int × Int × Int) : Prop :=
  (rnR S 0 0 = -1 → NTB x 4 (pR S 0)) ∧
  (rnR S 0 0 ≠ -1 → ¬ nwR0 S 1 → NTB x 3 (pR S 1)) ∧
  (rnR S 0 0 ≠ -1 → nwR0 S 1 → 24 ≤ Xi S 904 23 → NTB x 9 (pR S 1)) ∧
  (rnR S 0 0 ≠ -1 → nwR0 S 1 → Xi S 904 23 < 24 → ¬ nwR1 S 1 2 → NTB x 3 (pR S 2)) ∧
  (rnR S 0 0 ≠ -1 → nwR1 S 1 2 → nwR0 S 1 → Xi S 904 23 = 23 → NTB x 9 (pR S 2)) ∧
  (rnR S 0 0 ≠ -1 → nwR1 S 1 2 → nwR0 S 1 → Xi S 904 23 < 23 → x.1 = 0)
theorem rcan_of {S : sS} {x0 x1 x2 x3 : Int × Int × Int} {W : Prop} (h0 : x0.1 = 0) (h1 : x1 = if rnR S 0 0 = -1 then ntF x0 4 (pR S 0) else x0) (y1 : nwR0 S 1 → x2 = if Xi S 904 23 < 24 then x1 else ntF x1 9 (pR S 1)) (n1 : ¬ nwR0 S 1 → x2 = ntF x1 3 (pR S 1)) (y2 : nwR0 S 1 → W → x3 = if Xi S 904 23 + 1 < 24 then x2 else ntF x2 9 (pR S 2)) (n2 : ¬ W → x3 = ntF x2 3 (pR S 2)) (ym : ¬ nwR0 S 1 → W → x3 = x2 ∨ x3 = ntF x2 9 (pR S 2)) (hw : nwR0 S 1 → (W ↔ nwR1 S 1 2)) (p1 : pR S 0 < pR S 1) (p2 : pR S 1 < pR S 2) : RCAN S x3 := by
  have keep : ∀ f p, NTB x2 f p → f ≠ 0 → p < pR S 2 → (nwR0 S 1 ∨ ¬ nwR0 S 1) → NTB x3 f p := fun f p h hf hp hd => by
    by_cases w : W
    · rcases hd with d | d
      · rw [y2 d w]
        split
        · exact h
        · exact ntb_k h hf hp
      · rcases ym d w with e | e
        · rw [e]; exact h
        · rw [e]; exact ntb_k h hf hp
    · rw [n2 w]; exact ntb_k h hf hp
  refine ⟨fun k => ?_, fun k n => ?_, fun k n a => ?_, fun k n a m => ?_, fun k m n a => ?_, fun k m n a => ?_⟩
  · rw [if_pos k] at h1
    have b1 : NTB x1 4 (pR S 0) := by rw [h1]; exact ntb_1 h0
    have b2 : NTB x2 4 (pR S 0) := by
      by_cases n : nwR0 S 1
      · rw [y1 n]
        split
        · exact b1
        · exact ntb_k b1 (by decide) p1
      · rw [n1 n]; exact ntb_k b1 (by decide) p1
    exact keep _ _ b2 (by decide) (by omega) (Classical.em _)
  · rw [if_neg k] at h1
    exact keep _ _ (by rw [n1 n, h1]; exact ntb_1 h0) (by decide) p2 (Classical.em _)
  · rw [if_neg k] at h1
    exact keep _ _ (by rw [y1 n, if_neg (by omega), h1]; exact ntb_1 h0) (by decide) p2 (Classical.em _)
  · rw [if_neg k] at h1
    rw [n2 (fun w => m ((hw n).1 w)), y1 n, if_pos a, h1]
    exact ntb_1 h0
  · rw [if_neg k] at h1
    rw [y2 n ((hw n).2 m), if_neg (by omega), y1 n, if_pos (by omega), h1]
    exact ntb_1 h0
  · rw [if_neg k] at h1
    rw [y2 n ((hw n).2 m), if_pos (by omega), y1 n, if_pos (by omega), h1]
    exact h0
theorem nwR_0 {S P : sS} {r : Int} (hr : ∀ j, Xi P 951 j = Xi S 951 j) (hm : rmR P r = rmR S r) (hn : Xi P 904 108 = 0) : nwR P r ↔ nwR0 S r := by
  unfold nwR nwR0
  rw [hr, hm]
  exact ⟨fun q => ⟨q.1, q.2.1⟩, fun q => ⟨q.1, q.2, fun k hk => by omega⟩⟩
theorem nwR_1 {S P : sS} {q r : Int} (h0 : ∀ j, Xi P 950 j = Xi S 950 j) (hr : ∀ j, Xi P 951 j = Xi S 951 j) (hj : ∀ j, Xj P 910 j = Xj S 910 j) (hm : rmR P r = rmR S r) (hn : Xi P 904 108 = 1) (h1 : Xi P 966 0 = q) : nwR P r ↔ nwR1 S q r := by
  have al : alR P r q ↔ alR S r q := by
    unfold alR
    simp only [h0, hr, hj]
  unfold nwR nwR1 nwR0
  rw [hr, hm]
  constructor
  · intro w
    have t := w.2.2 0 (by omega)
    rw [h1, al] at t
    exact ⟨⟨w.1, w.2.1⟩, t⟩
  · intro w
    refine ⟨w.1.1, w.1.2, fun k hk => ?_⟩
    rw [show k = 0 by omega, h1, al]
    exact w.2

def md_mo_asked__18 : List rec := [(904, 905, 64, 65), (904, 905, 104, 105), (904, 905, 105, 106), (904, 905, 106, 107), (904, 905, 108, 109), (904, 905, 109, 110), (904, 905, 110, 111), (904, 905, 112, 113), (904, 905, 113, 114), (904, 905, 115, 116), (904, 905, 116, 117), (904, 905, 117, 118), (904, 905, 125, 126), (904, 905, 128, 129), (904, 905, 129, 130), (904, 905, 130, 131), (904, 905, 142, 143), (904, 905, 144, 145), (904, 905, 146, 147), (904, 905, 147, 148), (904, 905, 150, 151), (904, 905, 151, 152), (904, 905, 153, 154), (904, 905, 154, 155), (904, 905, 156, 157), (904, 905, 157, 158), (904, 905, 158, 159), (904, 905, 160, 161), (966, 967, 0, 100000), (967, 968, 0, 100000), (968, 969, 0, 100000), (969, 970, 0, 100000), (970, 971, 0, 100000), (971, 972, 0, 100000), (972, 973, 0, 100000), (973, 974, 0, 100000), (974, 975, 0, 100000), (975, 976, 0, 100000), (976, 977, 0, 100000), (977, 978, 0, 100000), (978, 979, 0, 100000), (979, 980, 0, 100000), (980, 981, 0, 100000), (981, 982, 0, 100000), (982, 983, 0, 100000), (983, 984, 0, 100000), (984, 985, 0, 100000), (985, 986, 0, 100000), (986, 987, 0, 100000), (987, 988, 0, 100000), (988, 989, 0, 100000), (989, 990, 0, 100000), (990, 991, 0, 100000), (991, 992, 0, 100000), (992, 993, 0, 100000), (993, 994, 0, 100000), (994, 995, 0, 100000)]
abbrev Q_mo_asked__18 (S : sS) (first : Int) : pst := fun r S1 => RI S1 ∧ FR md_mo_asked__18 S S1 ∧ (r = none ∧ (RCAN S (NT3 S1)))
set_option maxRecDepth 100000 in
theorem t_mo_asked__18 {S : sS} (hH : RI S) (first : Int) (hfirst : 0 ≤ first ∧ first ≤ 5001) (hLS : LSP S) (h15 : 0 ≤ Xi S 904 15) (hRB : RBD S) (hs : Xi S 904 70 = 18) (hp : pR S 0 < pR S 1 ∧ pR S 1 < pR S 2) (ha : 0 ≤ Xi S 904 23 ∧ Xi S 904 23 ≤ 24) (d : Nat) : Mp lay0 (d + 13) m_mo_asked [.ref 904, iv first] S (Q_mo_asked__18 S first) := by
  refine Mp_R rfl rfl (fun fu => ?_)
  have hF : FR md_mo_asked__18 S S := FR.rf
  have w1 : -2147483648 ≤ Xi S 904 104 ∧ Xi S 904 104 ≤ 2147483647 := Xi_rgI
  have w2 : -2147483648 ≤ Xi S 904 105 ∧ Xi S 904 105 ≤ 2147483647 := Xi_rgI
  have w3 : -2147483648 ≤ Xi S 904 106 ∧ Xi S 904 106 ≤ 2147483647 := Xi_rgI
  have w4 : -2147483648 ≤ Xi S 904 108 ∧ Xi S 904 108 ≤ 2147483647 := Xi_rgI
  have w5 : -2147483648 ≤ Xi S 904 15 ∧ Xi S 904 15 ≤ 2147483647 := Xi_rgI
  have w6 : -2147483648 ≤ Xi S 904 23 ∧ Xi S 904 23 ≤ 2147483647 := Xi_rgI
  have w7 : -2147483648 ≤ Xi S 904 70 ∧ Xi S 904 70 ≤ 2147483647 := Xi_rgI
  refine y_aload_n rfl rfl ?_
  refine y_iconst rfl ?_
  refine y_pfi rfl rfl rfl rfl ?_
  obtain ⟨U1, eU1⟩ : ∃ T : sS, T = uI S 904 106 (Int32.ofInt 0) := ⟨_, rfl⟩
  rw [← eU1]
  have hHU1 : RI U1 := by rw [eU1]; exact RI_w hH
  have hFU1 : FR md_mo_asked__18 S U1 := by rw [eU1]; exact FR.wI hF (mdf_i (r := (904, 905, 106, 107)) (List.mem_of_getElem? (i := 3) rfl) (inR_i (by omega) (by omega) (by omega) (by omega)))
  have w8 : Xi U1 904 106 = 0 := by rw [eU1]; exact Xi_same (by unfold rg; omega)
  refine y_aload_n rfl rfl ?_
  refine y_iconst rfl ?_
  refine y_pfi rfl rfl rfl rfl ?_
  obtain ⟨U2, eU2⟩ : ∃ T : sS, T = uI U1 904 108 (Int32.ofInt 0) := ⟨_, rfl⟩
  rw [← eU2]
  have hHU2 : RI U2 := by rw [eU2]; exact RI_w hHU1
  have hFU2 : FR md_mo_asked__18 S U2 := by rw [eU2]; exact FR.wI hFU1 (mdf_i (r := (904, 905, 108, 109)) (List.mem_of_getElem? (i := 4) rfl) (inR_i (by omega) (by omega) (by omega) (by omega)))
  have w9 : Xi U2 904 108 = 0 := by rw [eU2]; exact Xi_same (by unfold rg; omega)
  refine y_aload_n rfl rfl ?_
  refine y_iconst rfl ?_
  refine y_pfi rfl rfl rfl rfl ?_
  obtain ⟨U3, eU3⟩ : ∃ T : sS, T = uI U2 904 115 (Int32.ofInt (-1)) := ⟨_, rfl⟩
  rw [← eU3]
  have hHU3 : RI U3 := by rw [eU3]; exact RI_w hHU2
  have hFU3 : FR md_mo_asked__18 S U3 := by rw [eU3]; exact FR.wI hFU2 (mdf_i (r := (904, 905, 115, 116)) (List.mem_of_getElem? (i := 9) rfl) (inR_i (by omega) (by omega) (by omega) (by omega)))
  have w10 : Xi U3 904 115 = (-1) := by rw [eU3]; exact Xi_same (by unfold rg; omega)
  refine y_aload_n rfl rfl ?_
  refine y_iconst rfl ?_
  refine y_pfi rfl rfl rfl rfl ?_
  obtain ⟨U4, eU4⟩ : ∃ T : sS, T = uI U3 904 116 (Int32.ofInt (-1)) := ⟨_, rfl⟩
  rw [← eU4]
  have hHU4 : RI U4 := by rw [eU4]; exact RI_w hHU3
  have hFU4 : FR md_mo_asked__18 S U4 := by rw [eU4]; exact FR.wI hFU3 (mdf_i (r := (904, 905, 116, 117)) (List.mem_of_getElem? (i := 10) rfl) (inR_i (by omega) (by omega) (by omega) (by omega)))
  have w11 : Xi U4 904 116 = (-1) := by rw [eU4]; exact Xi_same (by unfold rg; omega)
  refine y_aload_n rfl rfl ?_
  refine y_gfi rfl rfl rfl rfl rfl ?_
  have w12 : (Xi U4 904 70) = (Xi S 904 70) := (show Xi U4 904 70 = Xi U3 904 70 from by rw [eU4]; exact Xi_ne (by omega)).trans ( (show Xi U3 904 70 = Xi U2 904 70 from by rw [eU3]; exact Xi_ne (by omega)).trans ( (show Xi U2 904 70 = Xi U1 904 70 from by rw [eU2]; exact Xi_ne (by omega)).trans ((show Xi U1 904 70 = Xi S 904 70 from by rw [eU1]; exact Xi_ne (by omega)))))
  rw [w12]
  refine y_tsw rfl rfl rfl rfl (by unfold rg; omega) (fun w13 => ?_) (fun ii tt hii w13 => ?_)
  · exfalso; omega
  · match ii, hii with
    | 0, hii =>
      cases hii
      have w14 : (Xi S 904 70) = 0 := by simpa using w13
      exfalso; omega
    | 1, hii =>
      cases hii
      have w15 : (Xi S 904 70) = 1 := by simpa using w13
      exfalso; omega
    | 2, hii =>
      cases hii
      have w16 : (Xi S 904 70) = 2 := by simpa using w13
      exfalso; omega
    | 3, hii =>
      cases hii
      have w17 : (Xi S 904 70) = 3 := by simpa using w13
      exfalso; omega
    | 4, hii =>
      cases hii
      have w18 : (Xi S 904 70) = 4 := by simpa using w13
      exfalso; omega
    | 5, hii =>
      cases hii
      have w19 : (Xi S 904 70) = 5 := by simpa using w13
      exfalso; omega
    | 6, hii =>
      cases hii
      have w20 : (Xi S 904 70) = 6 := by simpa using w13
      exfalso; omega
    | 7, hii =>
      cases hii
      have w21 : (Xi S 904 70) = 7 := by simpa using w13
      exfalso; omega
    | 8, hii =>
      cases hii
      have w22 : (Xi S 904 70) = 8 := by simpa using w13
      exfalso; omega
    | 9, hii =>
      cases hii
      have w23 : (Xi S 904 70) = 9 := by simpa using w13
      exfalso; omega
    | 10, hii =>
      cases hii
      have w24 : (Xi S 904 70) = 10 := by simpa using w13
      exfalso; omega
    | 11, hii =>
      cases hii
      have w25 : (Xi S 904 70) = 11 := by simpa using w13
      exfalso; omega
    | 12, hii =>
      cases hii
      have w26 : (Xi S 904 70) = 12 := by simpa using w13
      exfalso; omega
    | 13, hii =>
      cases hii
      have w27 : (Xi S 904 70) = 13 := by simpa using w13
      exfalso; omega
    | 14, hii =>
      cases hii
      have w28 : (Xi S 904 70) = 14 := by simpa using w13
      exfalso; omega
    | 15, hii =>
      cases hii
      have w29 : (Xi S 904 70) = 15 := by simpa using w13
      exfalso; omega
    | 16, hii =>
      cases hii
      have w30 : (Xi S 904 70) = 16 := by simpa using w13
      exfalso; omega
    | 17, hii =>
      cases hii
      have w31 : (Xi S 904 70) = 17 := by simpa using w13
      exfalso; omega
    | 18, hii =>
      cases hii
      have w32 : (Xi S 904 70) = 18 := by simpa using w13
      refine y_aload_n rfl rfl ?_
      refine y_iconst rfl ?_
      have w33 : Xi U4 904 104 = Xi S 904 104 := (show Xi U4 904 104 = Xi U3 904 104 from by rw [eU4]; exact Xi_ne (by omega)).trans ( (show Xi U3 904 104 = Xi U2 904 104 from by rw [eU3]; exact Xi_ne (by omega)).trans ( (show Xi U2 904 104 = Xi U1 904 104 from by rw [eU2]; exact Xi_ne (by omega)).trans ((show Xi U1 904 104 = Xi S 904 104 from by rw [eU1]; exact Xi_ne (by omega)))))
      have w34 : Xi U4 904 105 = Xi S 904 105 := (show Xi U4 904 105 = Xi U3 904 105 from by rw [eU4]; exact Xi_ne (by omega)).trans ( (show Xi U3 904 105 = Xi U2 904 105 from by rw [eU3]; exact Xi_ne (by omega)).trans ( (show Xi U2 904 105 = Xi U1 904 105 from by rw [eU2]; exact Xi_ne (by omega)).trans ((show Xi U1 904 105 = Xi S 904 105 from by rw [eU1]; exact Xi_ne (by omega)))))
      have w35 : Xi U4 904 106 = Xi U1 904 106 := (show Xi U4 904 106 = Xi U3 904 106 from by rw [eU4]; exact Xi_ne (by omega)).trans ( (show Xi U3 904 106 = Xi U2 904 106 from by rw [eU3]; exact Xi_ne (by omega)).trans ((show Xi U2 904 106 = Xi U1 904 106 from by rw [eU2]; exact Xi_ne (by omega))))
      have w36 : Xi U4 904 108 = Xi U2 904 108 := (show Xi U4 904 108 = Xi U3 904 108 from by rw [eU4]; exact Xi_ne (by omega)).trans ((show Xi U3 904 108 = Xi U2 904 108 from by rw [eU3]; exact Xi_ne (by omega)))
      have w37 : Xi U4 904 15 = Xi S 904 15 := (show Xi U4 904 15 = Xi U3 904 15 from by rw [eU4]; exact Xi_ne (by omega)).trans ( (show Xi U3 904 15 = Xi U2 904 15 from by rw [eU3]; exact Xi_ne (by omega)).trans ( (show Xi U2 904 15 = Xi U1 904 15 from by rw [eU2]; exact Xi_ne (by omega)).trans ((show Xi U1 904 15 = Xi S 904 15 from by rw [eU1]; exact Xi_ne (by omega)))))
      have w38 : Xi U4 904 23 = Xi S 904 23 := (show Xi U4 904 23 = Xi U3 904 23 from by rw [eU4]; exact Xi_ne (by omega)).trans ( (show Xi U3 904 23 = Xi U2 904 23 from by rw [eU3]; exact Xi_ne (by omega)).trans ( (show Xi U2 904 23 = Xi U1 904 23 from by rw [eU2]; exact Xi_ne (by omega)).trans ((show Xi U1 904 23 = Xi S 904 23 from by rw [eU1]; exact Xi_ne (by omega)))))
      have w39 : Xi U4 904 70 = Xi S 904 70 := (show Xi U4 904 70 = Xi U3 904 70 from by rw [eU4]; exact Xi_ne (by omega)).trans ( (show Xi U3 904 70 = Xi U2 904 70 from by rw [eU3]; exact Xi_ne (by omega)).trans ( (show Xi U2 904 70 = Xi U1 904 70 from by rw [eU2]; exact Xi_ne (by omega)).trans ((show Xi U1 904 70 = Xi S 904 70 from by rw [eU1]; exact Xi_ne (by omega)))))
      refine y_callV rfl rfl rfl (t_mo_kindOfRun__p hHU4 0 ⟨by omega, by omega⟩ (by first | assumption | exact (LSP_FR hFU4 rfl rfl (by assumption : LSP S))) (by first | assumption | omega) (by first | assumption | exact (RBD_FR hFU4 rfl (by assumption : RBD S))) _) ?_
      rintro _ T5 ⟨hHT5, w42, z41, rfl, w41, w40, nt412_⟩
      have hFT5 : FR md_mo_asked__18 S T5 := FR.tr hFU4 w42 rfl
      show Pl _ _ _ _ _ _ [iv z41] _ _
      have z412 : (NT3 U4).1 = 0 := by show Xi U4 904 106 = 0; omega
      have n412 : Hid (NT3 T5 = if rnR S 0 0 = -1 then ntF (NT3 U4) 4 (pR S 0) else NT3 U4) := by have t := nt412_; rw [rnR_FR hFU4 rfl rfl, (hFU4.cx 908 rfl _).1, (hFU4.cx 950 rfl _).1] at t; exact t
      clear nt412_
      refine y_pop rfl rfl ?_
      refine y_aload_n rfl rfl ?_
      refine y_iconst rfl ?_
      refine y_aload_n rfl rfl ?_
      refine y_gfi rfl rfl rfl rfl rfl ?_
      have w43 : (Xi T5 904 23) = (Xi S 904 23) := (show Xi T5 904 23 = Xi U4 904 23 from w42.x _ _ rfl).trans ( (show Xi U4 904 23 = Xi U3 904 23 from by rw [eU4]; exact Xi_ne (by omega)).trans ( (show Xi U3 904 23 = Xi U2 904 23 from by rw [eU3]; exact Xi_ne (by omega)).trans ( (show Xi U2 904 23 = Xi U1 904 23 from by rw [eU2]; exact Xi_ne (by omega)).trans ((show Xi U1 904 23 = Xi S 904 23 from by rw [eU1]; exact Xi_ne (by omega))))))
      rw [w43]
      refine y_bipush rfl rfl ?_
      have w44 : Xi T5 904 108 = Xi U2 904 108 := (show Xi T5 904 108 = Xi U4 904 108 from w42.x _ _ rfl).trans ( (show Xi U4 904 108 = Xi U3 904 108 from by rw [eU4]; exact Xi_ne (by omega)).trans ((show Xi U3 904 108 = Xi U2 904 108 from by rw [eU3]; exact Xi_ne (by omega))))
      have w45 : Xi T5 904 15 = Xi S 904 15 := (show Xi T5 904 15 = Xi U4 904 15 from w42.x _ _ rfl).trans ( (show Xi U4 904 15 = Xi U3 904 15 from by rw [eU4]; exact Xi_ne (by omega)).trans ( (show Xi U3 904 15 = Xi U2 904 15 from by rw [eU3]; exact Xi_ne (by omega)).trans ( (show Xi U2 904 15 = Xi U1 904 15 from by rw [eU2]; exact Xi_ne (by omega)).trans ((show Xi U1 904 15 = Xi S 904 15 from by rw [eU1]; exact Xi_ne (by omega))))))
      have w46 : Xi T5 904 23 = Xi S 904 23 := (show Xi T5 904 23 = Xi U4 904 23 from w42.x _ _ rfl).trans ( (show Xi U4 904 23 = Xi U3 904 23 from by rw [eU4]; exact Xi_ne (by omega)).trans ( (show Xi U3 904 23 = Xi U2 904 23 from by rw [eU3]; exact Xi_ne (by omega)).trans ( (show Xi U2 904 23 = Xi U1 904 23 from by rw [eU2]; exact Xi_ne (by omega)).trans ((show Xi U1 904 23 = Xi S 904 23 from by rw [eU1]; exact Xi_ne (by omega))))))
      have w47 : Xi T5 904 70 = Xi S 904 70 := (show Xi T5 904 70 = Xi U4 904 70 from w42.x _ _ rfl).trans ( (show Xi U4 904 70 = Xi U3 904 70 from by rw [eU4]; exact Xi_ne (by omega)).trans ( (show Xi U3 904 70 = Xi U2 904 70 from by rw [eU3]; exact Xi_ne (by omega)).trans ( (show Xi U2 904 70 = Xi U1 904 70 from by rw [eU2]; exact Xi_ne (by omega)).trans ((show Xi U1 904 70 = Xi S 904 70 from by rw [eU1]; exact Xi_ne (by omega))))))
      refine y_callV rfl rfl rfl (t_mo_mustBeNew__p hHT5 1 (Xi S 904 23) 24 ⟨by omega, by omega⟩ ⟨by omega, by omega⟩ ⟨by omega, by omega⟩ (by first | assumption | exact (LSP_FR hFT5 rfl rfl (by assumption : LSP S))) (by first | assumption | omega) (by first | assumption | exact (RBD_FR hFT5 rfl (by assumption : RBD S))) (by first | assumption | omega) _) ?_
      rintro _ T6 ⟨hHT6, w49, rfl, y424_, m424_⟩
      have hFT6 : FR md_mo_asked__18 S T6 := FR.tr hFT5 w49 rfl
      show Pl _ _ _ _ _ _ [] _ _
      have q424 : Hid (nwR T5 1 ↔ nwR0 S 1) := nwR_0 (fun j => (hFT5.cx 951 rfl j).1) (rmR_FR hFT5 rfl rfl) (by omega)
      have x424 : Xi T5 904 108 = 0 := by omega
      have y424 : Hid (nwR0 S 1 → NT3 T6 = (if Xi S 904 23 < 24 then NT3 T5 else ntF (NT3 T5) 9 (pR S 1)) ∧ Xi T6 904 108 = 1 ∧ Xi T6 966 0 = 1) := fun q => by have t := y424_ (q424.o.2 q); rw [x424, (hFT5.cx 908 rfl _).1, (hFT5.cx 950 rfl _).1] at t; exact ⟨t.1, by omega, t.2.2.1⟩
      have m424 : Hid (¬ nwR0 S 1 → NT3 T6 = ntF (NT3 T5) 3 (pR S 1) ∧ Xi T6 904 108 = 0) := fun q => by have t := m424_ (fun w => q (q424.o.1 w)); rw [x424, (hFT5.cx 908 rfl _).1, (hFT5.cx 950 rfl _).1] at t; exact ⟨t.1, t.2.1⟩
      clear y424_ m424_
      have g424 : 0 ≤ Xi T6 904 108 ∧ (Xi T6 904 108 = 0 ∨ Xi T6 904 108 = 1) := (Classical.em (nwR0 S 1)).elim (fun q => by have t := (y424.o q).2.1; omega) (fun q => by have t := (m424.o q).2; omega)
      refine y_aload_n rfl rfl ?_
      refine y_iconst rfl ?_
      refine y_aload_n rfl rfl ?_
      refine y_gfi rfl rfl rfl rfl rfl ?_
      have w50 : (Xi T6 904 23) = (Xi S 904 23) := (show Xi T6 904 23 = Xi T5 904 23 from w49.x _ _ rfl).trans ( (show Xi T5 904 23 = Xi U4 904 23 from w42.x _ _ rfl).trans ( (show Xi U4 904 23 = Xi U3 904 23 from by rw [eU4]; exact Xi_ne (by omega)).trans ( (show Xi U3 904 23 = Xi U2 904 23 from by rw [eU3]; exact Xi_ne (by omega)).trans ( (show Xi U2 904 23 = Xi U1 904 23 from by rw [eU2]; exact Xi_ne (by omega)).trans ((show Xi U1 904 23 = Xi S 904 23 from by rw [eU1]; exact Xi_ne (by omega)))))))
      rw [w50]
      refine y_aload_n rfl rfl ?_
      refine y_gfi rfl rfl rfl rfl rfl ?_
      have w51 : -2147483648 ≤ (Xi T6 904 108) ∧ (Xi T6 904 108) ≤ 2147483647 := Xi_rgI
      refine y_if_le rfl rfl (by unfold rg; omega) (fun w52 => ?_) (fun w53 => ?_)
      · refine y_iconst rfl ?_
        refine y_iadd rfl ?_
        refine y_bipush rfl rfl ?_
        have w54 : Xi T6 904 15 = Xi S 904 15 := (show Xi T6 904 15 = Xi T5 904 15 from w49.x _ _ rfl).trans ( (show Xi T5 904 15 = Xi U4 904 15 from w42.x _ _ rfl).trans ( (show Xi U4 904 15 = Xi U3 904 15 from by rw [eU4]; exact Xi_ne (by omega)).trans ( (show Xi U3 904 15 = Xi U2 904 15 from by rw [eU3]; exact Xi_ne (by omega)).trans ( (show Xi U2 904 15 = Xi U1 904 15 from by rw [eU2]; exact Xi_ne (by omega)).trans ((show Xi U1 904 15 = Xi S 904 15 from by rw [eU1]; exact Xi_ne (by omega)))))))
        have w55 : Xi T6 904 23 = Xi S 904 23 := (show Xi T6 904 23 = Xi T5 904 23 from w49.x _ _ rfl).trans ( (show Xi T5 904 23 = Xi U4 904 23 from w42.x _ _ rfl).trans ( (show Xi U4 904 23 = Xi U3 904 23 from by rw [eU4]; exact Xi_ne (by omega)).trans ( (show Xi U3 904 23 = Xi U2 904 23 from by rw [eU3]; exact Xi_ne (by omega)).trans ( (show Xi U2 904 23 = Xi U1 904 23 from by rw [eU2]; exact Xi_ne (by omega)).trans ((show Xi U1 904 23 = Xi S 904 23 from by rw [eU1]; exact Xi_ne (by omega)))))))
        refine y_callV rfl rfl rfl (t_mo_mustBeNew__p hHT6 2 ((Xi S 904 23) + 0) 24 ⟨by omega, by omega⟩ ⟨by omega, by omega⟩ ⟨by omega, by omega⟩ (by first | assumption | exact (LSP_FR hFT6 rfl rfl (by assumption : LSP S))) (by first | assumption | omega) (by first | assumption | exact (RBD_FR hFT6 rfl (by assumption : RBD S))) (by first | assumption | omega) _) ?_
        rintro _ T7 ⟨hHT7, w58, rfl, y448_, m448_⟩
        have hFT7 : FR md_mo_asked__18 S T7 := FR.tr hFT6 w58 rfl
        show Pl _ _ _ _ _ _ [] _ _
        have h448 : Hid (nwR0 S 1 → (nwR T6 2 ↔ nwR1 S 1 2)) := fun q => nwR_1 (fun j => (hFT6.cx 950 rfl j).1) (fun j => (hFT6.cx 951 rfl j).1) (fun j => (hFT6.cx 910 rfl j).2) (rmR_FR hFT6 rfl rfl) (y424.o q).2.1 (y424.o q).2.2
        have m448 : Hid (¬ nwR T6 2 → NT3 T7 = ntF (NT3 T6) 3 (pR S 2)) := fun q => by have t := (m448_ q).1; rw [(hFT6.cx 908 rfl _).1, (hFT6.cx 950 rfl _).1] at t; exact t
        have y448 : Hid (nwR0 S 1 → nwR T6 2 → NT3 T7 = if Xi S 904 23 + 1 < 24 then NT3 T6 else ntF (NT3 T6) 9 (pR S 2)) := fun d w => by have x := (y424.o d).2.1; first | (exfalso; omega) | (have t := (y448_ w).1; rw [(hFT6.cx 908 rfl _).1, (hFT6.cx 950 rfl _).1] at t; exact t)
        have w448 : Hid (¬ nwR0 S 1 → nwR T6 2 → NT3 T7 = NT3 T6 ∨ NT3 T7 = ntF (NT3 T6) 9 (pR S 2)) := fun d w => by have x := (m424.o d).2; first | (exfalso; omega) | (have t := (y448_ w).1; rw [(hFT6.cx 908 rfl _).1, (hFT6.cx 950 rfl _).1] at t; rcases Classical.em (Xi S 904 23 + 0 < 24) with c | c; exact Or.inl (by rw [if_pos c] at t; exact t); exact Or.inr (by rw [if_neg c] at t; exact t))
        clear y448_ m448_
        refine y_goto rfl rfl ?_
        refine y_return rfl rfl ?_
        exact ⟨hHT7, hFT7, rfl, (rcan_of z412 n412.o (fun q => (y424.o q).1) (fun q => (m424.o q).1) y448.o m448.o w448.o h448.o hp.1 hp.2)⟩
      · refine y_iconst rfl ?_
        refine y_goto rfl rfl ?_
        refine y_iadd rfl ?_
        refine y_bipush rfl rfl ?_
        have w62 : Xi T6 904 15 = Xi S 904 15 := (show Xi T6 904 15 = Xi T5 904 15 from w49.x _ _ rfl).trans ( (show Xi T5 904 15 = Xi U4 904 15 from w42.x _ _ rfl).trans ( (show Xi U4 904 15 = Xi U3 904 15 from by rw [eU4]; exact Xi_ne (by omega)).trans ( (show Xi U3 904 15 = Xi U2 904 15 from by rw [eU3]; exact Xi_ne (by omega)).trans ( (show Xi U2 904 15 = Xi U1 904 15 from by rw [eU2]; exact Xi_ne (by omega)).trans ((show Xi U1 904 15 = Xi S 904 15 from by rw [eU1]; exact Xi_ne (by omega)))))))
        have w63 : Xi T6 904 23 = Xi S 904 23 := (show Xi T6 904 23 = Xi T5 904 23 from w49.x _ _ rfl).trans ( (show Xi T5 904 23 = Xi U4 904 23 from w42.x _ _ rfl).trans ( (show Xi U4 904 23 = Xi U3 904 23 from by rw [eU4]; exact Xi_ne (by omega)).trans ( (show Xi U3 904 23 = Xi U2 904 23 from by rw [eU3]; exact Xi_ne (by omega)).trans ( (show Xi U2 904 23 = Xi U1 904 23 from by rw [eU2]; exact Xi_ne (by omega)).trans ((show Xi U1 904 23 = Xi S 904 23 from by rw [eU1]; exact Xi_ne (by omega)))))))
        refine y_callV rfl rfl rfl (t_mo_mustBeNew__p hHT6 2 ((Xi S 904 23) + 1) 24 ⟨by omega, by omega⟩ ⟨by omega, by omega⟩ ⟨by omega, by omega⟩ (by first | assumption | exact (LSP_FR hFT6 rfl rfl (by assumption : LSP S))) (by first | assumption | omega) (by first | assumption | exact (RBD_FR hFT6 rfl (by assumption : RBD S))) (by first | assumption | omega) _) ?_
        rintro _ T8 ⟨hHT8, w66, rfl, y448_, m448_⟩
        have hFT8 : FR md_mo_asked__18 S T8 := FR.tr hFT6 w66 rfl
        show Pl _ _ _ _ _ _ [] _ _
        have h448 : Hid (nwR0 S 1 → (nwR T6 2 ↔ nwR1 S 1 2)) := fun q => nwR_1 (fun j => (hFT6.cx 950 rfl j).1) (fun j => (hFT6.cx 951 rfl j).1) (fun j => (hFT6.cx 910 rfl j).2) (rmR_FR hFT6 rfl rfl) (y424.o q).2.1 (y424.o q).2.2
        have m448 : Hid (¬ nwR T6 2 → NT3 T8 = ntF (NT3 T6) 3 (pR S 2)) := fun q => by have t := (m448_ q).1; rw [(hFT6.cx 908 rfl _).1, (hFT6.cx 950 rfl _).1] at t; exact t
        have y448 : Hid (nwR0 S 1 → nwR T6 2 → NT3 T8 = if Xi S 904 23 + 1 < 24 then NT3 T6 else ntF (NT3 T6) 9 (pR S 2)) := fun d w => by have x := (y424.o d).2.1; first | (exfalso; omega) | (have t := (y448_ w).1; rw [(hFT6.cx 908 rfl _).1, (hFT6.cx 950 rfl _).1] at t; exact t)
        have w448 : Hid (¬ nwR0 S 1 → nwR T6 2 → NT3 T8 = NT3 T6 ∨ NT3 T8 = ntF (NT3 T6) 9 (pR S 2)) := fun d w => by have x := (m424.o d).2; first | (exfalso; omega) | (have t := (y448_ w).1; rw [(hFT6.cx 908 rfl _).1, (hFT6.cx 950 rfl _).1] at t; rcases Classical.em (Xi S 904 23 + 0 < 24) with c | c; exact Or.inl (by rw [if_pos c] at t; exact t); exact Or.inr (by rw [if_neg c] at t; exact t))
        clear y448_ m448_
        refine y_goto rfl rfl ?_
        refine y_return rfl rfl ?_
        exact ⟨hHT8, hFT8, rfl, (rcan_of z412 n412.o (fun q => (y424.o q).1) (fun q => (m424.o q).1) y448.o m448.o w448.o h448.o hp.1 hp.2)⟩
    | 19, hii =>
      cases hii
      have w70 : (Xi S 904 70) = 19 := by simpa using w13
      exfalso; omega
    | 20, hii =>
      cases hii
      have w71 : (Xi S 904 70) = 20 := by simpa using w13
      exfalso; omega
    | n + 21, hii => exact absurd hii (by simp)
end
section
/-- 19: what the reference notes -/
def RREL (S : sS) (x : Int × Int × Int) : Prop :=
  (¬ nwR0 S 0 → NTB x 3 (pR S 0)) ∧
  (nwR0 S 0 → 6 ≤ Xi S 904 41 → NTB x 9 (pR S 0)) ∧
  (nwR0 S 0 → Xi S 904 41 < 6 → r2R S 1 0 1 = -1 → NTB x 4 (pR S 1)) ∧
  (nwR0 S 0 → Xi S 904 41 < 6 → r2R S 1 0 1 ≠ -1 → r2R S 2 0 1 = -1 → NTB x 4 (pR S 2)) ∧
  (nwR0 S 0 → Xi S 904 41 < 6 → r2R S 1 0 1 ≠ -1 → r2R S 2 0 1 ≠ -1 → x.1 = 0)
theorem ntb_if {x : Int × Int × Int} {f p g q : Int} {c : Prop} [Decidable c] (h : NTB x f p) (hf : f ≠ 0) (hq : p < q) : NTB (if c then ntF x g q else x) f p := by
  split
  · exact ntb_k h hf hq
  · exact h
theorem rrel_of {S : sS} {x0 x1 x2 x3 : Int × Int × Int} (h0 : x0.1 = 0) (y1 : nwR0 S 0 → x1 = if Xi S 904 41 < 6 then x0 else ntF x0 9 (pR S 0)) (n1 : ¬ nwR0 S 0 → x1 = ntF x0 3 (pR S 0)) (h2 : x2 = if r2R S 1 0 1 = -1 then ntF x1 4 (pR S 1) else x1) (h3 : x3 = if r2R S 2 0 1 = -1 then ntF x2 4 (pR S 2) else x2) (p1 : pR S 0 < pR S 1) (p2 : pR S 1 < pR S 2) : RREL S x3 := by
  refine ⟨fun n => ?_, fun n a => ?_, fun n a b => ?_, fun n a b c => ?_, fun n a b c => ?_⟩
  · rw [h3, h2, n1 n]
    exact ntb_if (ntb_if (ntb_1 h0) (by decide) p1) (by decide) (by omega)
  · have e1 : x1 = ntF x0 9 (pR S 0) := by rw [y1 n, if_neg (by omega)]
    rw [h3, h2, e1]
    exact ntb_if (ntb_if (ntb_1 h0) (by decide) p1) (by decide) (by omega)
  · rw [h3, h2, if_pos b, y1 n, if_pos a]
    exact ntb_if (ntb_1 h0) (by decide) p2
  · rw [h3, if_pos c, h2, if_neg b, y1 n, if_pos a]
    exact ntb_1 h0
  · rw [h3, if_neg c, h2, if_neg b, y1 n, if_pos a]
    exact h0

def md_mo_asked__19 : List rec := [(904, 905, 64, 65), (904, 905, 104, 105), (904, 905, 105, 106), (904, 905, 106, 107), (904, 905, 108, 109), (904, 905, 109, 110), (904, 905, 110, 111), (904, 905, 112, 113), (904, 905, 113, 114), (904, 905, 115, 116), (904, 905, 116, 117), (904, 905, 117, 118), (904, 905, 125, 126), (904, 905, 128, 129), (904, 905, 129, 130), (904, 905, 130, 131), (904, 905, 142, 143), (904, 905, 144, 145), (904, 905, 146, 147), (904, 905, 147, 148), (904, 905, 150, 151), (904, 905, 151, 152), (904, 905, 153, 154), (904, 905, 154, 155), (904, 905, 156, 157), (904, 905, 157, 158), (904, 905, 158, 159), (904, 905, 160, 161), (966, 967, 0, 100000), (967, 968, 0, 100000), (968, 969, 0, 100000), (969, 970, 0, 100000), (970, 971, 0, 100000), (971, 972, 0, 100000), (972, 973, 0, 100000), (973, 974, 0, 100000), (974, 975, 0, 100000), (975, 976, 0, 100000), (976, 977, 0, 100000), (977, 978, 0, 100000), (978, 979, 0, 100000), (979, 980, 0, 100000), (980, 981, 0, 100000), (981, 982, 0, 100000), (982, 983, 0, 100000), (983, 984, 0, 100000), (984, 985, 0, 100000), (985, 986, 0, 100000), (986, 987, 0, 100000), (987, 988, 0, 100000), (988, 989, 0, 100000), (989, 990, 0, 100000), (990, 991, 0, 100000), (991, 992, 0, 100000), (992, 993, 0, 100000), (993, 994, 0, 100000), (994, 995, 0, 100000)]
abbrev Q_mo_asked__19 (S : sS) (first : Int) : pst := fun r S1 => RI S1 ∧ FR md_mo_asked__19 S S1 ∧ (r = none ∧ (RREL S (NT3 S1)))
set_option maxRecDepth 100000 in
theorem t_mo_asked__19 {S : sS} (hH : RI S) (first : Int) (hfirst : 0 ≤ first ∧ first ≤ 5001) (hLS : LSP S) (h15 : 0 ≤ Xi S 904 15) (hRB : RBD S) (hs : Xi S 904 70 = 19) (hp : pR S 0 < pR S 1 ∧ pR S 1 < pR S 2) (ha : 0 ≤ Xi S 904 41 ∧ Xi S 904 41 ≤ 6) (d : Nat) : Mp lay0 (d + 13) m_mo_asked [.ref 904, iv first] S (Q_mo_asked__19 S first) := by
  refine Mp_R rfl rfl (fun fu => ?_)
  have hF : FR md_mo_asked__19 S S := FR.rf
  have w1 : -2147483648 ≤ Xi S 904 104 ∧ Xi S 904 104 ≤ 2147483647 := Xi_rgI
  have w2 : -2147483648 ≤ Xi S 904 105 ∧ Xi S 904 105 ≤ 2147483647 := Xi_rgI
  have w3 : -2147483648 ≤ Xi S 904 106 ∧ Xi S 904 106 ≤ 2147483647 := Xi_rgI
  have w4 : -2147483648 ≤ Xi S 904 108 ∧ Xi S 904 108 ≤ 2147483647 := Xi_rgI
  have w5 : -2147483648 ≤ Xi S 904 15 ∧ Xi S 904 15 ≤ 2147483647 := Xi_rgI
  have w6 : -2147483648 ≤ Xi S 904 41 ∧ Xi S 904 41 ≤ 2147483647 := Xi_rgI
  have w7 : -2147483648 ≤ Xi S 904 70 ∧ Xi S 904 70 ≤ 2147483647 := Xi_rgI
  refine y_aload_n rfl rfl ?_
  refine y_iconst rfl ?_
  refine y_pfi rfl rfl rfl rfl ?_
  obtain ⟨U1, eU1⟩ : ∃ T : sS, T = uI S 904 106 (Int32.ofInt 0) := ⟨_, rfl⟩
  rw [← eU1]
  have hHU1 : RI U1 := by rw [eU1]; exact RI_w hH
  have hFU1 : FR md_mo_asked__19 S U1 := by rw [eU1]; exact FR.wI hF (mdf_i (r := (904, 905, 106, 107)) (List.mem_of_getElem? (i := 3) rfl) (inR_i (by omega) (by omega) (by omega) (by omega)))
  have w8 : Xi U1 904 106 = 0 := by rw [eU1]; exact Xi_same (by unfold rg; omega)
  refine y_aload_n rfl rfl ?_
  refine y_iconst rfl ?_
  refine y_pfi rfl rfl rfl rfl ?_
  obtain ⟨U2, eU2⟩ : ∃ T : sS, T = uI U1 904 108 (Int32.ofInt 0) := ⟨_, rfl⟩
  rw [← eU2]
  have hHU2 : RI U2 := by rw [eU2]; exact RI_w hHU1
  have hFU2 : FR md_mo_asked__19 S U2 := by rw [eU2]; exact FR.wI hFU1 (mdf_i (r := (904, 905, 108, 109)) (List.mem_of_getElem? (i := 4) rfl) (inR_i (by omega) (by omega) (by omega) (by omega)))
  have w9 : Xi U2 904 108 = 0 := by rw [eU2]; exact Xi_same (by unfold rg; omega)
  refine y_aload_n rfl rfl ?_
  refine y_iconst rfl ?_
  refine y_pfi rfl rfl rfl rfl ?_
  obtain ⟨U3, eU3⟩ : ∃ T : sS, T = uI U2 904 115 (Int32.ofInt (-1)) := ⟨_, rfl⟩
  rw [← eU3]
  have hHU3 : RI U3 := by rw [eU3]; exact RI_w hHU2
  have hFU3 : FR md_mo_asked__19 S U3 := by rw [eU3]; exact FR.wI hFU2 (mdf_i (r := (904, 905, 115, 116)) (List.mem_of_getElem? (i := 9) rfl) (inR_i (by omega) (by omega) (by omega) (by omega)))
  have w10 : Xi U3 904 115 = (-1) := by rw [eU3]; exact Xi_same (by unfold rg; omega)
  refine y_aload_n rfl rfl ?_
  refine y_iconst rfl ?_
  refine y_pfi rfl rfl rfl rfl ?_
  obtain ⟨U4, eU4⟩ : ∃ T : sS, T = uI U3 904 116 (Int32.ofInt (-1)) := ⟨_, rfl⟩
  rw [← eU4]
  have hHU4 : RI U4 := by rw [eU4]; exact RI_w hHU3
  have hFU4 : FR md_mo_asked__19 S U4 := by rw [eU4]; exact FR.wI hFU3 (mdf_i (r := (904, 905, 116, 117)) (List.mem_of_getElem? (i := 10) rfl) (inR_i (by omega) (by omega) (by omega) (by omega)))
  have w11 : Xi U4 904 116 = (-1) := by rw [eU4]; exact Xi_same (by unfold rg; omega)
  refine y_aload_n rfl rfl ?_
  refine y_gfi rfl rfl rfl rfl rfl ?_
  have w12 : (Xi U4 904 70) = (Xi S 904 70) := (show Xi U4 904 70 = Xi U3 904 70 from by rw [eU4]; exact Xi_ne (by omega)).trans ( (show Xi U3 904 70 = Xi U2 904 70 from by rw [eU3]; exact Xi_ne (by omega)).trans ( (show Xi U2 904 70 = Xi U1 904 70 from by rw [eU2]; exact Xi_ne (by omega)).trans ((show Xi U1 904 70 = Xi S 904 70 from by rw [eU1]; exact Xi_ne (by omega)))))
  rw [w12]
  refine y_tsw rfl rfl rfl rfl (by unfold rg; omega) (fun w13 => ?_) (fun ii tt hii w13 => ?_)
  · exfalso; omega
  · match ii, hii with
    | 0, hii =>
      cases hii
      have w14 : (Xi S 904 70) = 0 := by simpa using w13
      exfalso; omega
    | 1, hii =>
      cases hii
      have w15 : (Xi S 904 70) = 1 := by simpa using w13
      exfalso; omega
    | 2, hii =>
      cases hii
      have w16 : (Xi S 904 70) = 2 := by simpa using w13
      exfalso; omega
    | 3, hii =>
      cases hii
      have w17 : (Xi S 904 70) = 3 := by simpa using w13
      exfalso; omega
    | 4, hii =>
      cases hii
      have w18 : (Xi S 904 70) = 4 := by simpa using w13
      exfalso; omega
    | 5, hii =>
      cases hii
      have w19 : (Xi S 904 70) = 5 := by simpa using w13
      exfalso; omega
    | 6, hii =>
      cases hii
      have w20 : (Xi S 904 70) = 6 := by simpa using w13
      exfalso; omega
    | 7, hii =>
      cases hii
      have w21 : (Xi S 904 70) = 7 := by simpa using w13
      exfalso; omega
    | 8, hii =>
      cases hii
      have w22 : (Xi S 904 70) = 8 := by simpa using w13
      exfalso; omega
    | 9, hii =>
      cases hii
      have w23 : (Xi S 904 70) = 9 := by simpa using w13
      exfalso; omega
    | 10, hii =>
      cases hii
      have w24 : (Xi S 904 70) = 10 := by simpa using w13
      exfalso; omega
    | 11, hii =>
      cases hii
      have w25 : (Xi S 904 70) = 11 := by simpa using w13
      exfalso; omega
    | 12, hii =>
      cases hii
      have w26 : (Xi S 904 70) = 12 := by simpa using w13
      exfalso; omega
    | 13, hii =>
      cases hii
      have w27 : (Xi S 904 70) = 13 := by simpa using w13
      exfalso; omega
    | 14, hii =>
      cases hii
      have w28 : (Xi S 904 70) = 14 := by simpa using w13
      exfalso; omega
    | 15, hii =>
      cases hii
      have w29 : (Xi S 904 70) = 15 := by simpa using w13
      exfalso; omega
    | 16, hii =>
      cases hii
      have w30 : (Xi S 904 70) = 16 := by simpa using w13
      exfalso; omega
    | 17, hii =>
      cases hii
      have w31 : (Xi S 904 70) = 17 := by simpa using w13
      exfalso; omega
    | 18, hii =>
      cases hii
      have w32 : (Xi S 904 70) = 18 := by simpa using w13
      exfalso; omega
    | 19, hii =>
      cases hii
      have w33 : (Xi S 904 70) = 19 := by simpa using w13
      refine y_aload_n rfl rfl ?_
      refine y_iconst rfl ?_
      refine y_aload_n rfl rfl ?_
      refine y_gfi rfl rfl rfl rfl rfl ?_
      have w34 : (Xi U4 904 41) = (Xi S 904 41) := (show Xi U4 904 41 = Xi U3 904 41 from by rw [eU4]; exact Xi_ne (by omega)).trans ( (show Xi U3 904 41 = Xi U2 904 41 from by rw [eU3]; exact Xi_ne (by omega)).trans ( (show Xi U2 904 41 = Xi U1 904 41 from by rw [eU2]; exact Xi_ne (by omega)).trans ((show Xi U1 904 41 = Xi S 904 41 from by rw [eU1]; exact Xi_ne (by omega)))))
      rw [w34]
      refine y_bipush rfl rfl ?_
      have w35 : Xi U4 904 104 = Xi S 904 104 := (show Xi U4 904 104 = Xi U3 904 104 from by rw [eU4]; exact Xi_ne (by omega)).trans ( (show Xi U3 904 104 = Xi U2 904 104 from by rw [eU3]; exact Xi_ne (by omega)).trans ( (show Xi U2 904 104 = Xi U1 904 104 from by rw [eU2]; exact Xi_ne (by omega)).trans ((show Xi U1 904 104 = Xi S 904 104 from by rw [eU1]; exact Xi_ne (by omega)))))
      have w36 : Xi U4 904 105 = Xi S 904 105 := (show Xi U4 904 105 = Xi U3 904 105 from by rw [eU4]; exact Xi_ne (by omega)).trans ( (show Xi U3 904 105 = Xi U2 904 105 from by rw [eU3]; exact Xi_ne (by omega)).trans ( (show Xi U2 904 105 = Xi U1 904 105 from by rw [eU2]; exact Xi_ne (by omega)).trans ((show Xi U1 904 105 = Xi S 904 105 from by rw [eU1]; exact Xi_ne (by omega)))))
      have w37 : Xi U4 904 106 = Xi U1 904 106 := (show Xi U4 904 106 = Xi U3 904 106 from by rw [eU4]; exact Xi_ne (by omega)).trans ( (show Xi U3 904 106 = Xi U2 904 106 from by rw [eU3]; exact Xi_ne (by omega)).trans ((show Xi U2 904 106 = Xi U1 904 106 from by rw [eU2]; exact Xi_ne (by omega))))
      have w38 : Xi U4 904 108 = Xi U2 904 108 := (show Xi U4 904 108 = Xi U3 904 108 from by rw [eU4]; exact Xi_ne (by omega)).trans ((show Xi U3 904 108 = Xi U2 904 108 from by rw [eU3]; exact Xi_ne (by omega)))
      have w39 : Xi U4 904 15 = Xi S 904 15 := (show Xi U4 904 15 = Xi U3 904 15 from by rw [eU4]; exact Xi_ne (by omega)).trans ( (show Xi U3 904 15 = Xi U2 904 15 from by rw [eU3]; exact Xi_ne (by omega)).trans ( (show Xi U2 904 15 = Xi U1 904 15 from by rw [eU2]; exact Xi_ne (by omega)).trans ((show Xi U1 904 15 = Xi S 904 15 from by rw [eU1]; exact Xi_ne (by omega)))))
      have w40 : Xi U4 904 41 = Xi S 904 41 := (show Xi U4 904 41 = Xi U3 904 41 from by rw [eU4]; exact Xi_ne (by omega)).trans ( (show Xi U3 904 41 = Xi U2 904 41 from by rw [eU3]; exact Xi_ne (by omega)).trans ( (show Xi U2 904 41 = Xi U1 904 41 from by rw [eU2]; exact Xi_ne (by omega)).trans ((show Xi U1 904 41 = Xi S 904 41 from by rw [eU1]; exact Xi_ne (by omega)))))
      have w41 : Xi U4 904 70 = Xi S 904 70 := (show Xi U4 904 70 = Xi U3 904 70 from by rw [eU4]; exact Xi_ne (by omega)).trans ( (show Xi U3 904 70 = Xi U2 904 70 from by rw [eU3]; exact Xi_ne (by omega)).trans ( (show Xi U2 904 70 = Xi U1 904 70 from by rw [eU2]; exact Xi_ne (by omega)).trans ((show Xi U1 904 70 = Xi S 904 70 from by rw [eU1]; exact Xi_ne (by omega)))))
      refine y_callV rfl rfl rfl (t_mo_mustBeNew__p hHU4 0 (Xi S 904 41) 6 ⟨by omega, by omega⟩ ⟨by omega, by omega⟩ ⟨by omega, by omega⟩ (by first | assumption | exact (LSP_FR hFU4 rfl rfl (by assumption : LSP S))) (by first | assumption | omega) (by first | assumption | exact (RBD_FR hFU4 rfl (by assumption : RBD S))) (by first | assumption | omega) _) ?_
      rintro _ T5 ⟨hHT5, w43, rfl, y462_, m462_⟩
      have hFT5 : FR md_mo_asked__19 S T5 := FR.tr hFU4 w43 rfl
      show Pl _ _ _ _ _ _ [] _ _
      have z462 : (NT3 U4).1 = 0 := by show Xi U4 904 106 = 0; omega
      have q462 : Hid (nwR U4 0 ↔ nwR0 S 0) := nwR_0 (fun j => (hFU4.cx 951 rfl j).1) (rmR_FR hFU4 rfl rfl) (by omega)
      have x462 : Xi U4 904 108 = 0 := by omega
      have y462 : Hid (nwR0 S 0 → NT3 T5 = (if Xi S 904 41 < 6 then NT3 U4 else ntF (NT3 U4) 9 (pR S 0))) := fun q => by have t := (y462_ (q462.o.2 q)).1; rw [(hFU4.cx 908 rfl _).1, (hFU4.cx 950 rfl _).1] at t; exact t
      have m462 : Hid (¬ nwR0 S 0 → NT3 T5 = ntF (NT3 U4) 3 (pR S 0)) := fun q => by have t := (m462_ (fun w => q (q462.o.1 w))).1; rw [(hFU4.cx 908 rfl _).1, (hFU4.cx 950 rfl _).1] at t; exact t
      clear y462_ m462_
      refine y_aload_n rfl rfl ?_
      refine y_aload_n rfl rfl ?_
      refine y_iconst rfl ?_
      have w44 : Xi T5 904 15 = Xi S 904 15 := (show Xi T5 904 15 = Xi U4 904 15 from w43.x _ _ rfl).trans ( (show Xi U4 904 15 = Xi U3 904 15 from by rw [eU4]; exact Xi_ne (by omega)).trans ( (show Xi U3 904 15 = Xi U2 904 15 from by rw [eU3]; exact Xi_ne (by omega)).trans ( (show Xi U2 904 15 = Xi U1 904 15 from by rw [eU2]; exact Xi_ne (by omega)).trans ((show Xi U1 904 15 = Xi S 904 15 from by rw [eU1]; exact Xi_ne (by omega))))))
      have w45 : Xi T5 904 41 = Xi S 904 41 := (show Xi T5 904 41 = Xi U4 904 41 from w43.x _ _ rfl).trans ( (show Xi U4 904 41 = Xi U3 904 41 from by rw [eU4]; exact Xi_ne (by omega)).trans ( (show Xi U3 904 41 = Xi U2 904 41 from by rw [eU3]; exact Xi_ne (by omega)).trans ( (show Xi U2 904 41 = Xi U1 904 41 from by rw [eU2]; exact Xi_ne (by omega)).trans ((show Xi U1 904 41 = Xi S 904 41 from by rw [eU1]; exact Xi_ne (by omega))))))
      have w46 : Xi T5 904 70 = Xi S 904 70 := (show Xi T5 904 70 = Xi U4 904 70 from w43.x _ _ rfl).trans ( (show Xi U4 904 70 = Xi U3 904 70 from by rw [eU4]; exact Xi_ne (by omega)).trans ( (show Xi U3 904 70 = Xi U2 904 70 from by rw [eU3]; exact Xi_ne (by omega)).trans ( (show Xi U2 904 70 = Xi U1 904 70 from by rw [eU2]; exact Xi_ne (by omega)).trans ((show Xi U1 904 70 = Xi S 904 70 from by rw [eU1]; exact Xi_ne (by omega))))))
      refine y_callV rfl rfl rfl (t_mo_kindOrPlural__p hHT5 1 ⟨by omega, by omega⟩ (by first | assumption | exact (LSP_FR hFT5 rfl rfl (by assumption : LSP S))) (by first | assumption | omega) (by first | assumption | exact (RBD_FR hFT5 rfl (by assumption : RBD S))) _) ?_
      rintro _ _ ⟨rfl, z47, rfl, w47, f468⟩
      show Pl _ _ _ _ _ _ [iv z47, .ref 904] _ _
      have K468 : z47 = r2R S 1 0 1 := by have t := f468; rw [r2R_FR hFT5 rfl rfl] at t; exact t
      clear f468
      refine y_iconst rfl ?_
      refine y_icmp_eq rfl rfl (by unfold rg; omega) (by unfold rg; omega) (fun w48 => ?_) (fun w49 => ?_)
      · refine y_iconst rfl ?_
        refine y_iconst rfl ?_
        refine y_aload_n rfl rfl ?_
        refine y_gfr rfl rfl rfl rfl rfl (hHT5.r 904 67 950 rfl) ?_
        refine y_iconst rfl ?_
        refine y_ialoadP (n := 2600) rfl rfl (by unfold rg; omega) (fun w50 w51 => ?_)
        have w52 : -2147483648 ≤ (Xi T5 950 ((1 : Int).toNat)) ∧ (Xi T5 950 ((1 : Int).toNat)) ≤ 2147483647 := Xi_rgI
        have w53 : (Xi T5 950 ((1 : Int).toNat)) = Xi T5 950 1 := rfl
        refine y_callV rfl rfl rfl (t_mo_need__p hHT5 0 4 (Xi T5 950 ((1 : Int).toNat)) ⟨by omega, by omega⟩ ⟨by omega, by omega⟩ ⟨by omega, by omega⟩ _) ?_
        rintro _ T6 ⟨hHT6, w58, rfl, nt487_⟩
        have hFT6 : FR md_mo_asked__19 S T6 := FR.tr hFT5 w58 rfl
        show Pl _ _ _ _ _ _ [] _ _
        have n487 : Hid (NT3 T6 = if r2R S 1 0 1 = -1 then ntF (NT3 T5) 4 (pR S 1) else NT3 T5) := by have t := nt487_; rw [(hFT5.cx 908 rfl _).1, (hFT5.cx 950 rfl _).1] at t; first | (rw [if_pos (show (0 : Int) = 0 from rfl)] at t; rw [if_pos (by omega)]; exact t) | (rw [if_neg (show ¬ (1 : Int) = 0 by decide)] at t; rw [if_neg (by omega)]; exact t)
        clear nt487_
        refine y_aload_n rfl rfl ?_
        refine y_aload_n rfl rfl ?_
        refine y_iconst rfl ?_
        have w59 : Xi T6 904 108 = Xi T5 904 108 := (show Xi T6 904 108 = Xi T5 904 108 from w58.x _ _ rfl)
        have w60 : Xi T6 904 15 = Xi S 904 15 := (show Xi T6 904 15 = Xi T5 904 15 from w58.x _ _ rfl).trans ( (show Xi T5 904 15 = Xi U4 904 15 from w43.x _ _ rfl).trans ( (show Xi U4 904 15 = Xi U3 904 15 from by rw [eU4]; exact Xi_ne (by omega)).trans ( (show Xi U3 904 15 = Xi U2 904 15 from by rw [eU3]; exact Xi_ne (by omega)).trans ( (show Xi U2 904 15 = Xi U1 904 15 from by rw [eU2]; exact Xi_ne (by omega)).trans ((show Xi U1 904 15 = Xi S 904 15 from by rw [eU1]; exact Xi_ne (by omega)))))))
        have w61 : Xi T6 904 41 = Xi S 904 41 := (show Xi T6 904 41 = Xi T5 904 41 from w58.x _ _ rfl).trans ( (show Xi T5 904 41 = Xi U4 904 41 from w43.x _ _ rfl).trans ( (show Xi U4 904 41 = Xi U3 904 41 from by rw [eU4]; exact Xi_ne (by omega)).trans ( (show Xi U3 904 41 = Xi U2 904 41 from by rw [eU3]; exact Xi_ne (by omega)).trans ( (show Xi U2 904 41 = Xi U1 904 41 from by rw [eU2]; exact Xi_ne (by omega)).trans ((show Xi U1 904 41 = Xi S 904 41 from by rw [eU1]; exact Xi_ne (by omega)))))))
        have w62 : Xi T6 904 70 = Xi S 904 70 := (show Xi T6 904 70 = Xi T5 904 70 from w58.x _ _ rfl).trans ( (show Xi T5 904 70 = Xi U4 904 70 from w43.x _ _ rfl).trans ( (show Xi U4 904 70 = Xi U3 904 70 from by rw [eU4]; exact Xi_ne (by omega)).trans ( (show Xi U3 904 70 = Xi U2 904 70 from by rw [eU3]; exact Xi_ne (by omega)).trans ( (show Xi U2 904 70 = Xi U1 904 70 from by rw [eU2]; exact Xi_ne (by omega)).trans ((show Xi U1 904 70 = Xi S 904 70 from by rw [eU1]; exact Xi_ne (by omega)))))))
        refine y_callV rfl rfl rfl (t_mo_kindOrPlural__p hHT6 2 ⟨by omega, by omega⟩ (by first | assumption | exact (LSP_FR hFT6 rfl rfl (by assumption : LSP S))) (by first | assumption | omega) (by first | assumption | exact (RBD_FR hFT6 rfl (by assumption : RBD S))) _) ?_
        rintro _ _ ⟨rfl, z63, rfl, w63, f493⟩
        show Pl _ _ _ _ _ _ [iv z63, .ref 904] _ _
        have K493 : z63 = r2R S 2 0 1 := by have t := f493; rw [r2R_FR hFT6 rfl rfl] at t; exact t
        clear f493
        refine y_iconst rfl ?_
        refine y_icmp_eq rfl rfl (by unfold rg; omega) (by unfold rg; omega) (fun w64 => ?_) (fun w65 => ?_)
        · refine y_iconst rfl ?_
          refine y_iconst rfl ?_
          refine y_aload_n rfl rfl ?_
          refine y_gfr rfl rfl rfl rfl rfl (hHT6.r 904 67 950 rfl) ?_
          refine y_iconst rfl ?_
          refine y_ialoadP (n := 2600) rfl rfl (by unfold rg; omega) (fun w66 w67 => ?_)
          have w68 : -2147483648 ≤ (Xi T6 950 ((2 : Int).toNat)) ∧ (Xi T6 950 ((2 : Int).toNat)) ≤ 2147483647 := Xi_rgI
          have w69 : (Xi T6 950 ((2 : Int).toNat)) = Xi T6 950 2 := rfl
          refine y_callV rfl rfl rfl (t_mo_need__p hHT6 0 4 (Xi T6 950 ((2 : Int).toNat)) ⟨by omega, by omega⟩ ⟨by omega, by omega⟩ ⟨by omega, by omega⟩ _) ?_
          rintro _ T7 ⟨hHT7, w75, rfl, nt512_⟩
          have hFT7 : FR md_mo_asked__19 S T7 := FR.tr hFT6 w75 rfl
          show Pl _ _ _ _ _ _ [] _ _
          have n512 : Hid (NT3 T7 = if r2R S 2 0 1 = -1 then ntF (NT3 T6) 4 (pR S 2) else NT3 T6) := by have t := nt512_; rw [(hFT6.cx 908 rfl _).1, (hFT6.cx 950 rfl _).1] at t; first | (rw [if_pos (show (0 : Int) = 0 from rfl)] at t; rw [if_pos (by omega)]; exact t) | (rw [if_neg (show ¬ (1 : Int) = 0 by decide)] at t; rw [if_neg (by omega)]; exact t)
          clear nt512_
          refine y_goto rfl rfl ?_
          refine y_return rfl rfl ?_
          exact ⟨hHT7, hFT7, rfl, (rrel_of z462 y462.o m462.o n487.o n512.o hp.1 hp.2)⟩
        · refine y_iconst rfl ?_
          refine y_goto rfl rfl ?_
          refine y_iconst rfl ?_
          refine y_aload_n rfl rfl ?_
          refine y_gfr rfl rfl rfl rfl rfl (hHT6.r 904 67 950 rfl) ?_
          refine y_iconst rfl ?_
          refine y_ialoadP (n := 2600) rfl rfl (by unfold rg; omega) (fun w80 w81 => ?_)
          have w82 : -2147483648 ≤ (Xi T6 950 ((2 : Int).toNat)) ∧ (Xi T6 950 ((2 : Int).toNat)) ≤ 2147483647 := Xi_rgI
          have w83 : (Xi T6 950 ((2 : Int).toNat)) = Xi T6 950 2 := rfl
          refine y_callV rfl rfl rfl (t_mo_need__p hHT6 1 4 (Xi T6 950 ((2 : Int).toNat)) ⟨by omega, by omega⟩ ⟨by omega, by omega⟩ ⟨by omega, by omega⟩ _) ?_
          rintro _ T8 ⟨hHT8, w89, rfl, nt512_⟩
          have hFT8 : FR md_mo_asked__19 S T8 := FR.tr hFT6 w89 rfl
          show Pl _ _ _ _ _ _ [] _ _
          have n512 : Hid (NT3 T8 = if r2R S 2 0 1 = -1 then ntF (NT3 T6) 4 (pR S 2) else NT3 T6) := by have t := nt512_; rw [(hFT6.cx 908 rfl _).1, (hFT6.cx 950 rfl _).1] at t; first | (rw [if_pos (show (0 : Int) = 0 from rfl)] at t; rw [if_pos (by omega)]; exact t) | (rw [if_neg (show ¬ (1 : Int) = 0 by decide)] at t; rw [if_neg (by omega)]; exact t)
          clear nt512_
          refine y_goto rfl rfl ?_
          refine y_return rfl rfl ?_
          exact ⟨hHT8, hFT8, rfl, (rrel_of z462 y462.o m462.o n487.o n512.o hp.1 hp.2)⟩
      · refine y_iconst rfl ?_
        refine y_goto rfl rfl ?_
        refine y_iconst rfl ?_
        refine y_aload_n rfl rfl ?_
        refine y_gfr rfl rfl rfl rfl rfl (hHT5.r 904 67 950 rfl) ?_
        refine y_iconst rfl ?_
        refine y_ialoadP (n := 2600) rfl rfl (by unfold rg; omega) (fun w94 w95 => ?_)
        have w96 : -2147483648 ≤ (Xi T5 950 ((1 : Int).toNat)) ∧ (Xi T5 950 ((1 : Int).toNat)) ≤ 2147483647 := Xi_rgI
        have w97 : (Xi T5 950 ((1 : Int).toNat)) = Xi T5 950 1 := rfl
        refine y_callV rfl rfl rfl (t_mo_need__p hHT5 1 4 (Xi T5 950 ((1 : Int).toNat)) ⟨by omega, by omega⟩ ⟨by omega, by omega⟩ ⟨by omega, by omega⟩ _) ?_
        rintro _ T9 ⟨hHT9, w102, rfl, nt487_⟩
        have hFT9 : FR md_mo_asked__19 S T9 := FR.tr hFT5 w102 rfl
        show Pl _ _ _ _ _ _ [] _ _
        have n487 : Hid (NT3 T9 = if r2R S 1 0 1 = -1 then ntF (NT3 T5) 4 (pR S 1) else NT3 T5) := by have t := nt487_; rw [(hFT5.cx 908 rfl _).1, (hFT5.cx 950 rfl _).1] at t; first | (rw [if_pos (show (0 : Int) = 0 from rfl)] at t; rw [if_pos (by omega)]; exact t) | (rw [if_neg (show ¬ (1 : Int) = 0 by decide)] at t; rw [if_neg (by omega)]; exact t)
        clear nt487_
        refine y_aload_n rfl rfl ?_
        refine y_aload_n rfl rfl ?_
        refine y_iconst rfl ?_
        have w103 : Xi T9 904 108 = Xi T5 904 108 := (show Xi T9 904 108 = Xi T5 904 108 from w102.x _ _ rfl)
        have w104 : Xi T9 904 15 = Xi S 904 15 := (show Xi T9 904 15 = Xi T5 904 15 from w102.x _ _ rfl).trans ( (show Xi T5 904 15 = Xi U4 904 15 from w43.x _ _ rfl).trans ( (show Xi U4 904 15 = Xi U3 904 15 from by rw [eU4]; exact Xi_ne (by omega)).trans ( (show Xi U3 904 15 = Xi U2 904 15 from by rw [eU3]; exact Xi_ne (by omega)).trans ( (show Xi U2 904 15 = Xi U1 904 15 from by rw [eU2]; exact Xi_ne (by omega)).trans ((show Xi U1 904 15 = Xi S 904 15 from by rw [eU1]; exact Xi_ne (by omega)))))))
        have w105 : Xi T9 904 41 = Xi S 904 41 := (show Xi T9 904 41 = Xi T5 904 41 from w102.x _ _ rfl).trans ( (show Xi T5 904 41 = Xi U4 904 41 from w43.x _ _ rfl).trans ( (show Xi U4 904 41 = Xi U3 904 41 from by rw [eU4]; exact Xi_ne (by omega)).trans ( (show Xi U3 904 41 = Xi U2 904 41 from by rw [eU3]; exact Xi_ne (by omega)).trans ( (show Xi U2 904 41 = Xi U1 904 41 from by rw [eU2]; exact Xi_ne (by omega)).trans ((show Xi U1 904 41 = Xi S 904 41 from by rw [eU1]; exact Xi_ne (by omega)))))))
        have w106 : Xi T9 904 70 = Xi S 904 70 := (show Xi T9 904 70 = Xi T5 904 70 from w102.x _ _ rfl).trans ( (show Xi T5 904 70 = Xi U4 904 70 from w43.x _ _ rfl).trans ( (show Xi U4 904 70 = Xi U3 904 70 from by rw [eU4]; exact Xi_ne (by omega)).trans ( (show Xi U3 904 70 = Xi U2 904 70 from by rw [eU3]; exact Xi_ne (by omega)).trans ( (show Xi U2 904 70 = Xi U1 904 70 from by rw [eU2]; exact Xi_ne (by omega)).trans ((show Xi U1 904 70 = Xi S 904 70 from by rw [eU1]; exact Xi_ne (by omega)))))))
        refine y_callV rfl rfl rfl (t_mo_kindOrPlural__p hHT9 2 ⟨by omega, by omega⟩ (by first | assumption | exact (LSP_FR hFT9 rfl rfl (by assumption : LSP S))) (by first | assumption | omega) (by first | assumption | exact (RBD_FR hFT9 rfl (by assumption : RBD S))) _) ?_
        rintro _ _ ⟨rfl, z107, rfl, w107, f493⟩
        show Pl _ _ _ _ _ _ [iv z107, .ref 904] _ _
        have K493 : z107 = r2R S 2 0 1 := by have t := f493; rw [r2R_FR hFT9 rfl rfl] at t; exact t
        clear f493
        refine y_iconst rfl ?_
        refine y_icmp_eq rfl rfl (by unfold rg; omega) (by unfold rg; omega) (fun w108 => ?_) (fun w109 => ?_)
        · refine y_iconst rfl ?_
          refine y_iconst rfl ?_
          refine y_aload_n rfl rfl ?_
          refine y_gfr rfl rfl rfl rfl rfl (hHT9.r 904 67 950 rfl) ?_
          refine y_iconst rfl ?_
          refine y_ialoadP (n := 2600) rfl rfl (by unfold rg; omega) (fun w110 w111 => ?_)
          have w112 : -2147483648 ≤ (Xi T9 950 ((2 : Int).toNat)) ∧ (Xi T9 950 ((2 : Int).toNat)) ≤ 2147483647 := Xi_rgI
          have w113 : (Xi T9 950 ((2 : Int).toNat)) = Xi T9 950 2 := rfl
          refine y_callV rfl rfl rfl (t_mo_need__p hHT9 0 4 (Xi T9 950 ((2 : Int).toNat)) ⟨by omega, by omega⟩ ⟨by omega, by omega⟩ ⟨by omega, by omega⟩ _) ?_
          rintro _ T10 ⟨hHT10, w119, rfl, nt512_⟩
          have hFT10 : FR md_mo_asked__19 S T10 := FR.tr hFT9 w119 rfl
          show Pl _ _ _ _ _ _ [] _ _
          have n512 : Hid (NT3 T10 = if r2R S 2 0 1 = -1 then ntF (NT3 T9) 4 (pR S 2) else NT3 T9) := by have t := nt512_; rw [(hFT9.cx 908 rfl _).1, (hFT9.cx 950 rfl _).1] at t; first | (rw [if_pos (show (0 : Int) = 0 from rfl)] at t; rw [if_pos (by omega)]; exact t) | (rw [if_neg (show ¬ (1 : Int) = 0 by decide)] at t; rw [if_neg (by omega)]; exact t)
          clear nt512_
          refine y_goto rfl rfl ?_
          refine y_return rfl rfl ?_
          exact ⟨hHT10, hFT10, rfl, (rrel_of z462 y462.o m462.o n487.o n512.o hp.1 hp.2)⟩
        · refine y_iconst rfl ?_
          refine y_goto rfl rfl ?_
          refine y_iconst rfl ?_
          refine y_aload_n rfl rfl ?_
          refine y_gfr rfl rfl rfl rfl rfl (hHT9.r 904 67 950 rfl) ?_
          refine y_iconst rfl ?_
          refine y_ialoadP (n := 2600) rfl rfl (by unfold rg; omega) (fun w124 w125 => ?_)
          have w126 : -2147483648 ≤ (Xi T9 950 ((2 : Int).toNat)) ∧ (Xi T9 950 ((2 : Int).toNat)) ≤ 2147483647 := Xi_rgI
          have w127 : (Xi T9 950 ((2 : Int).toNat)) = Xi T9 950 2 := rfl
          refine y_callV rfl rfl rfl (t_mo_need__p hHT9 1 4 (Xi T9 950 ((2 : Int).toNat)) ⟨by omega, by omega⟩ ⟨by omega, by omega⟩ ⟨by omega, by omega⟩ _) ?_
          rintro _ T11 ⟨hHT11, w133, rfl, nt512_⟩
          have hFT11 : FR md_mo_asked__19 S T11 := FR.tr hFT9 w133 rfl
          show Pl _ _ _ _ _ _ [] _ _
          have n512 : Hid (NT3 T11 = if r2R S 2 0 1 = -1 then ntF (NT3 T9) 4 (pR S 2) else NT3 T9) := by have t := nt512_; rw [(hFT9.cx 908 rfl _).1, (hFT9.cx 950 rfl _).1] at t; first | (rw [if_pos (show (0 : Int) = 0 from rfl)] at t; rw [if_pos (by omega)]; exact t) | (rw [if_neg (show ¬ (1 : Int) = 0 by decide)] at t; rw [if_neg (by omega)]; exact t)
          clear nt512_
          refine y_goto rfl rfl ?_
          refine y_return rfl rfl ?_
          exact ⟨hHT11, hFT11, rfl, (rrel_of z462 y462.o m462.o n487.o n512.o hp.1 hp.2)⟩
    | 20, hii =>
      cases hii
      have w138 : (Xi S 904 70) = 20 := by simpa using w13
      exfalso; omega
    | n + 21, hii => exact absurd hii (by simp)
end
