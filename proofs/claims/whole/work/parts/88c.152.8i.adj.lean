section
/-! 15: an adjective of the objects of a LIST (class) -/
def qL (S : sS) (i : Nat) (a t nt : Int) : Int := if oL S i = -1 then 1 else raF S (Xi S 21 (oL S i).toNat) a t (1 - nt) 0
def ASP (S S1 : sS) (z a t nt : Int) : Prop :=
  ((∃ i : Nat, i < nL S ∧ qL S i a t nt = 0) → z = 0 ∧ FTO S S1 4 a) ∧
  ((∀ i : Nat, i < nL S → qL S i a t nt ≠ 0) → (∃ i : Nat, i < nL S ∧ 1 < qL S i a t nt) → z = 0 ∧ FTO S S1 7 a) ∧
  ((∀ i : Nat, i < nL S → qL S i a t nt ≠ 0) → (∀ i : Nat, i < nL S → qL S i a t nt ≤ 1) → z = 1 ∧ Xi S1 876 8 = 0)
def MQ6 (S : sS) (a t nt c : Int) (n : Nat) : Prop := (c = 1 → ∃ k : Nat, k < n ∧ 1 < qL S k a t nt) ∧ (c = 0 → ∀ k : Nat, k < n → qL S k a t nt ≤ 1)
theorem asp_s {S : sS} {a t nt v w c d : Int} (Q : (bg7 (ty7 S) v ∧ w = qL S (cR (ty7 S) v.toNat) a t nt) ∨ (¬ bg7 (ty7 S) v ∧ w = 1)) (L : ∀ k : Nat, k < cR (ty7 S) v.toNat → qL S k a t nt ≠ 0) (M : MQ6 S a t nt c (cR (ty7 S) v.toNat)) (hw : w ≠ 0) (h0 : 0 ≤ v) (hc : (d = 1 ∧ (c = 1 ∨ 1 < w)) ∨ (d = 0 ∧ c = 0 ∧ w ≤ 1)) : (∀ k : Nat, k < cR (ty7 S) (v + 1).toNat → qL S k a t nt ≠ 0) ∧ MQ6 S a t nt d (cR (ty7 S) (v + 1).toNat) := by
  rcases Q with ⟨b, e⟩ | ⟨b, e⟩
  · rw [cR_y h0 b]
    refine ⟨fun k hk => ?_, fun q => ?_, fun q k hk => ?_⟩
    · by_cases y : k = cR (ty7 S) v.toNat
      · rw [y, ← e]; exact hw
      · exact L k (by omega)
    · by_cases y : 1 < w
      · exact ⟨_, Nat.lt_succ_self _, by rw [← e]; exact y⟩
      · obtain ⟨k, k1, k2⟩ := M.1 (by omega)
        exact ⟨k, by omega, k2⟩
    · by_cases y : k = cR (ty7 S) v.toNat
      · rw [y, ← e]; omega
      · exact M.2 (by omega) k (by omega)
  · rw [cR_n h0 b]
    exact ⟨L, fun q => M.1 (by omega), fun q => M.2 (by omega)⟩
theorem asp_1 {S S1 : sS} {a t nt v w z : Int} (Q : (bg7 (ty7 S) v ∧ w = qL S (cR (ty7 S) v.toNat) a t nt) ∨ (¬ bg7 (ty7 S) v ∧ w = 1)) (hw : w = 0) (h0 : 0 ≤ v) (hv : v < Xi S 890 3) (hz : z = 0) (f : FTO S S1 4 a) : ASP S S1 z a t nt := by
  rcases Q with ⟨b, e⟩ | ⟨_, e⟩
  · have l : cR (ty7 S) v.toNat < nL S := cR_l h0 hv b
    have q : qL S (cR (ty7 S) v.toNat) a t nt = 0 := by omega
    exact ⟨fun _ => ⟨hz, f⟩, fun y => absurd q (y _ l), fun y => absurd q (y _ l)⟩
  · omega
theorem asp_2 {S S1 : sS} {a t nt z : Int} (L : ∀ k : Nat, k < nL S → qL S k a t nt ≠ 0) (M : MQ6 S a t nt 1 (nL S)) (hz : z = 0) (f : FTO S S1 7 a) : ASP S S1 z a t nt := by
  obtain ⟨k, k1, k2⟩ := M.1 rfl
  exact ⟨fun ⟨i, i1, i2⟩ => absurd i2 (L i i1), fun _ _ => ⟨hz, f⟩, fun _ y => by have u := y k k1; omega⟩
theorem asp_3 {S S1 : sS} {a t nt z : Int} (L : ∀ k : Nat, k < nL S → qL S k a t nt ≠ 0) (M : MQ6 S a t nt 0 (nL S)) (hz : z = 1) (f : Xi S1 876 8 = 0) : ASP S S1 z a t nt := by
  exact ⟨fun ⟨i, i1, i2⟩ => absurd i2 (L i i1), fun _ ⟨i, i1, i2⟩ => by have u := M.2 rfl i i1; omega, fun _ _ => ⟨hz, f⟩⟩
theorem rln_fr {l : List rec} {S T : sS} {has t : Int} (h : FR l S T) (e : kdis l [(9, 10)] = true) : ∀ (n : Nat) (p c : Int), rln T has t n p c = rln S has t n p c
  | 0, _, _ => rfl
  | n + 1, p, c => by
    have k := h.smk e
    unfold rln
    rw [k.x 9 rfl, rln_fr h e n]
theorem rlF_FR {l : List rec} {S T : sS} {k a b v : Int} (h : FR l S T) (e : (kdis l kA && !(mdf l 1 3)) = true) (e2 : kdis l [(9, 10)] = true) (e3 : kdis l kA = true) (e4 : kdis l [(8, 9)] = true) : rlF T k a b v = rlF S k a b v := by
  unfold rlF
  rw [mnV_FR h e, rln_fr h e2, (ra_p h e3 rfl : pps T k = pps S k), (h.smk e4).x 8 rfl]
def DA1 (g : List rec) (S W V : sS) (i : Nat) (y a t nt : Int) : Prop := ∃ A : sS, FR g W A ∧ T1C A V y (oL S i) (mnV S a t % 256) (rlF S (Xi S 21 (oL S i).toNat) a t (1 - nt)) (1 - nt)
def DAC (g : List rec) (S : sS) (a t nt : Int) : Nat → sS → Prop
  | 0, V => V = S
  | n + 1, V => ∃ W : sS, DAC g S a t nt n W ∧ DA1 g S W V n 1 a t nt
def fsO (S : sS) (n : Nat) : Int := if n = 0 then -1 else oL S 0
def DAD (g : List rec) (S S1 : sS) (z a t nt : Int) : Prop :=
  (z = 1 → ∃ V : sS, DAC g S a t nt (nL S) V ∧ S1 = uI V 891 10 (Int32.ofInt (fsO S (nL S))) ∧ Xi S1 876 8 = 0) ∧
  (z = 0 → ∃ (i : Nat) (W V : sS), i < nL S ∧ DAC g S a t nt i W ∧ DA1 g S W V i 0 a t nt ∧ FTO S S1 5 (kr7 (ty7 S) i))
theorem fso_y {S : sS} {n : Nat} {v o d : Int} (h : v = fsO S n) (e : o = oL S n) (h0 : oL S 0 ≠ -1) (hd : d = if v = -1 then o else v) : d = fsO S (n + 1) := by
  unfold fsO at h ⊢
  rw [if_neg (by omega)]
  by_cases q : n = 0
  · rw [if_pos q] at h; rw [hd, if_pos h, e, q]
  · rw [if_neg q] at h; rw [hd, if_neg (by omega), h]

def md_re_adjectiveSuits__p : List rec := [(876, 877, 8, 9), (876, 877, 9, 10), (895, 896, 8, 9), (895, 896, 9, 10)]
abbrev Q_re_adjectiveSuits__p (S : sS) (at_ : Int) (to : Int) (nt : Int) : pst := fun r S1 => RI S1 ∧ FR md_re_adjectiveSuits__p S S1 ∧ (∃ z : Int, r = some (iv z) ∧ (0 ≤ z ∧ z ≤ 1) ∧ (ASP S S1 z at_ to nt))
set_option maxRecDepth 100000 in
theorem t_re_adjectiveSuits__p {S : sS} (hH : RI S) (at_ : Int) (to : Int) (nt : Int) (hat_ : 0 ≤ at_ ∧ at_ ≤ 5140) (hto : 0 ≤ to ∧ to ≤ 5140) (hnt : 0 ≤ nt ∧ nt ≤ 1) (h13 : 0 ≤ Xi S 1 3 ∧ Xi S 1 3 ≤ 200) (hCE : CEN S) (hf : Xi S 876 8 = 0) (hr : Xi S 876 7 ≤ 5130) (ht : 0 ≤ Xi S 890 3 ∧ Xi S 890 3 ≤ 5125) (d : Nat) : Mp lay0 (d + 3) m_re_adjectiveSuits [.ref 891, iv at_, iv to, iv nt] S (Q_re_adjectiveSuits__p S at_ to nt) := by
  refine Mp_R rfl rfl (fun fu => ?_)
  have hF : FR md_re_adjectiveSuits__p S S := FR.rf
  have w1 : -2147483648 ≤ Xi S 1 3 ∧ Xi S 1 3 ≤ 2147483647 := Xi_rgI
  have w2 : -2147483648 ≤ Xi S 876 7 ∧ Xi S 876 7 ≤ 2147483647 := Xi_rgI
  have w3 : -2147483648 ≤ Xi S 876 8 ∧ Xi S 876 8 ≤ 2147483647 := Xi_rgI
  have w4 : -2147483648 ≤ Xi S 890 3 ∧ Xi S 890 3 ≤ 2147483647 := Xi_rgI
  have C6 : ∀ (n6 : Nat) (_ : n6 ≤ fu) (T1 : sS) (_ : RI T1) (_ : FR md_re_adjectiveSuits__p S T1) (v4 : Int) (v5 : Int), (0 ≤ v4 ∧ v4 ≤ 1) → (0 ≤ v5 ∧ v5 ≤ 5125) → (0 ≤ v5 ∧ v5 ≤ Xi S 890 3) → (0 ≤ v4 ∧ v4 ≤ 1) → (Hid (∀ k : Nat, k < cR (ty7 S) (v5).toNat → qL S k at_ to nt ≠ 0)) → (Hid (MQ6 S at_ to nt v4 (cR (ty7 S) (v5).toNat))) → (Xi T1 876 8 = 0) → (Xi T1 890 3 = Xi S 890 3) → (Xi T1 876 7 = Xi S 876 7) → Pl n6 lay0 (d + 2) m_re_adjectiveSuits 6 [(0, .ref 891), (1, iv at_), (2, iv to), (3, iv nt), (4, iv v4), (5, iv v5)] [] T1 (Q_re_adjectiveSuits__p S at_ to nt) := by
    intro n6
    induction n6 with
    | zero => intros; exact Pl_0
    | succ n6 ih6 =>
      intro hm6 T1 hHT1 hFT1 v4 v5 w5 w6 w7 w8 L6 M6 w9 w10 w11
      have w12 : Xi T1 1 3 = Xi S 1 3 := hFT1.x _ _ rfl
      have w13 : Xi T1 5 3 = Xi S 5 3 := hFT1.x _ _ rfl
      have w14 : Xi T1 876 7 = Xi S 876 7 := hFT1.x _ _ rfl
      have w15 : Xi T1 890 3 = Xi S 890 3 := hFT1.x _ _ rfl
      have w16 : -2147483648 ≤ Xi T1 1 3 ∧ Xi T1 1 3 ≤ 2147483647 := Xi_rgI
      have w17 : -2147483648 ≤ Xi T1 876 7 ∧ Xi T1 876 7 ≤ 2147483647 := Xi_rgI
      have w18 : -2147483648 ≤ Xi T1 876 8 ∧ Xi T1 876 8 ≤ 2147483647 := Xi_rgI
      have w19 : -2147483648 ≤ Xi T1 890 3 ∧ Xi T1 890 3 ≤ 2147483647 := Xi_rgI
      refine ys_iload rfl rfl ?_
      refine y_aload_n rfl rfl ?_
      refine y_gfr rfl rfl rfl rfl rfl (hHT1.r 891 1 890 rfl) ?_
      refine y_gfi rfl rfl rfl rfl rfl ?_
      refine y_icmp_ge rfl rfl (by unfold rg; omega) (by unfold rg; omega) (fun w20 => ?_) (fun w21 => ?_)
      · refine y_iload rfl rfl ?_
        have L132 : Hid ((∀ k : Nat, k < nL S → qL S k at_ to nt ≠ 0) ∧ MQ6 S at_ to nt v4 (nL S)) := by have a := L6.o; have b := M6.o; rw [show v5 = Xi S 890 3 by omega] at a b; exact ⟨a, b⟩
        refine y_if_eq rfl rfl (by unfold rg; omega) (fun w22 => ?_) (fun w23 => ?_)
        · refine y_iconst rfl ?_
          refine y_goto rfl rfl ?_
          refine y_ireturn rfl rfl ?_
          exact ⟨hHT1, hFT1, _, rfl, ⟨by omega, by omega⟩, (by first | (have u := K104; exact asp_1 Q91.o (by omega) (by omega) (by omega) (by omega) Y104) | (have u := K144; exact asp_2 L132.o.1 (by have u := L132.o.2; rw [show v4 = 1 by omega] at u; exact u) (by omega) Y144) | exact asp_3 L132.o.1 (by have u := L132.o.2; rw [show v4 = 0 by omega] at u; exact u) (by omega) (by omega))⟩
        · refine y_aload_n rfl rfl ?_
          refine y_gfr rfl rfl rfl rfl rfl (hHT1.r 891 0 876 rfl) ?_
          refine y_bipush rfl rfl ?_
          refine y_iload_n rfl rfl ?_
          refine y_callV rfl rfl rfl (t_to_wrong__p hHT1 7 at_ ⟨by omega, by omega⟩ ⟨by omega, by omega⟩ _) ?_
          rintro _ T2 ⟨hHT2, w27, z26, rfl, w26, w24, f144, w25⟩
          have hFT2 : FR md_re_adjectiveSuits__p S T2 := FR.tr hFT1 w27 rfl
          show Pl _ _ _ _ _ _ [iv z26] _ _
          have K144 : True := trivial
          have Y144 : FTO S T2 7 at_ := by have u := f144 (by omega); rw [pc7_FR hFT1 rfl rfl rfl] at u; exact u
          refine y_if_eq rfl rfl (by unfold rg; omega) (fun w28 => ?_) (fun w29 => ?_)
          · refine y_iconst rfl ?_
            refine y_ireturn rfl rfl ?_
            have w30 : Xi T2 1 3 = Xi T1 1 3 := (show Xi T2 1 3 = Xi T1 1 3 from w27.x _ _ rfl)
            have w31 : Xi T2 876 7 = Xi T1 876 7 := (show Xi T2 876 7 = Xi T1 876 7 from w27.x _ _ rfl)
            have w32 : Xi T2 890 3 = Xi T1 890 3 := (show Xi T2 890 3 = Xi T1 890 3 from w27.x _ _ rfl)
            exact ⟨hHT2, hFT2, _, rfl, ⟨by omega, by omega⟩, (by first | (have u := K104; exact asp_1 Q91.o (by omega) (by omega) (by omega) (by omega) Y104) | (have u := K144; exact asp_2 L132.o.1 (by have u := L132.o.2; rw [show v4 = 1 by omega] at u; exact u) (by omega) Y144) | exact asp_3 L132.o.1 (by have u := L132.o.2; rw [show v4 = 0 by omega] at u; exact u) (by omega) (by omega))⟩
          · refine y_iconst rfl ?_
            refine y_goto rfl rfl ?_
            refine y_ireturn rfl rfl ?_
            have w33 : Xi T2 1 3 = Xi T1 1 3 := (show Xi T2 1 3 = Xi T1 1 3 from w27.x _ _ rfl)
            have w34 : Xi T2 876 7 = Xi T1 876 7 := (show Xi T2 876 7 = Xi T1 876 7 from w27.x _ _ rfl)
            have w35 : Xi T2 890 3 = Xi T1 890 3 := (show Xi T2 890 3 = Xi T1 890 3 from w27.x _ _ rfl)
            exact ⟨hHT2, hFT2, _, rfl, ⟨by omega, by omega⟩, (by first | (have u := K104; exact asp_1 Q91.o (by omega) (by omega) (by omega) (by omega) Y104) | (have u := K144; exact asp_2 L132.o.1 (by have u := L132.o.2; rw [show v4 = 1 by omega] at u; exact u) (by omega) Y144) | exact asp_3 L132.o.1 (by have u := L132.o.2; rw [show v4 = 0 by omega] at u; exact u) (by omega) (by omega))⟩
      · refine y_aload_n rfl rfl ?_
        refine y_iload rfl rfl ?_
        refine y_callV rfl rfl rfl (t_re_beginsName__p hHT1 v5 ⟨by omega, by omega⟩ _) ?_
        rintro _ _ ⟨rfl, z36, rfl, w36, v21⟩
        show Pl _ _ _ _ _ _ [iv z36] _ _
        have V21 : Hid ((z36 = 1 → bg7 (ty7 S) v5 ∧ v5 < Xi S 890 3) ∧ (z36 = 0 → v5 < Xi S 890 3 → ¬ bg7 (ty7 S) v5)) := by have u := v21; rw [FRT hFT1 rfl rfl, show Xi T1 890 3 = Xi S 890 3 by omega] at u; exact u
        clear v21
        refine y_if_eq rfl rfl (by unfold rg; omega) (fun w37 => ?_) (fun w38 => ?_)
        · refine y_iconst rfl ?_
          refine y_istore rfl rfl rfl ?_
          refine y_iload rfl rfl ?_
          refine y_iconst rfl ?_
          refine y_icmp_ne rfl rfl (by unfold rg; omega) (by unfold rg; omega) (fun w39 => absurd w39 (by omega)) (fun w40 => ?_)
          · refine y_iconst rfl ?_
            refine y_goto rfl rfl ?_
            refine y_istore rfl rfl rfl ?_
            have Q91 : Hid ((bg7 (ty7 S) v5 ∧ (1 : Int) = qL S (cR (ty7 S) v5.toNat) at_ to nt) ∨ (¬ bg7 (ty7 S) v5 ∧ (1 : Int) = 1)) := by first | (have u := K88; exact Or.inl ⟨B27, by unfold qL; rw [if_neg (by omega)]; exact e88⟩) | (have u := K43; exact Or.inl ⟨B27, by unfold qL; rw [if_pos (by omega)]⟩) | exact Or.inr ⟨V21.o.2 (by omega) (by omega), rfl⟩
            refine y_iload rfl rfl ?_
            refine y_if_ne rfl rfl (by unfold rg; omega) (fun w41 => ?_) (fun w42 => absurd w42 (by omega))
            · refine y_iload rfl rfl ?_
              refine y_if_ne rfl rfl (by unfold rg; omega) (fun w43 => ?_) (fun w44 => ?_)
              · refine y_iconst rfl ?_
                refine y_goto rfl rfl ?_
                refine y_istore rfl rfl rfl ?_
                have T124 := Hid.i (asp_s (d := 1) Q91.o L6.o M6.o (by omega) (by omega) (by omega))
                refine y_iinc rfl rfl rfl rfl ?_
                refine y_goto rfl rfl ?_
                exact Pl_weak (ih6 (by omega) T1 hHT1 hFT1 (1) ((v5 + 1)) (by omega) (by omega) (by omega) (by omega) (by first | exact T124.o.1 | exact fun k hk => absurd hk (Nat.not_lt_zero _)) (by first | exact T124.o.2 | exact ⟨fun q => absurd q (by omega), fun _ k hk => absurd hk (Nat.not_lt_zero _)⟩) (by omega) (by omega) (by omega)) (by omega) (And.intro rfl (And.intro rfl (And.intro rfl (And.intro rfl (And.intro rfl (And.intro rfl (True.intro)))))))
              · refine y_iload rfl rfl ?_
                refine y_iconst rfl ?_
                refine y_icmp_le rfl rfl (by unfold rg; omega) (by unfold rg; omega) (fun w45 => ?_) (fun w46 => absurd w46 (by omega))
                · refine y_iconst rfl ?_
                  refine y_istore rfl rfl rfl ?_
                  have T124 := Hid.i (asp_s (d := 0) Q91.o L6.o M6.o (by omega) (by omega) (by omega))
                  refine y_iinc rfl rfl rfl rfl ?_
                  refine y_goto rfl rfl ?_
                  exact Pl_weak (ih6 (by omega) T1 hHT1 hFT1 (0) ((v5 + 1)) (by omega) (by omega) (by omega) (by omega) (by first | exact T124.o.1 | exact fun k hk => absurd hk (Nat.not_lt_zero _)) (by first | exact T124.o.2 | exact ⟨fun q => absurd q (by omega), fun _ k hk => absurd hk (Nat.not_lt_zero _)⟩) (by omega) (by omega) (by omega)) (by omega) (And.intro rfl (And.intro rfl (And.intro rfl (And.intro rfl (And.intro rfl (And.intro rfl (True.intro)))))))
        · refine y_aload_n rfl rfl ?_
          have B27 : bg7 (ty7 S) v5 := (V21.o.1 (by omega)).1
          have k27 : kr7 (ty7 S) (cR (ty7 S) v5.toNat) = v5 := cR_b (ty_nf hr) (by omega) (by omega) (by omega) B27
          refine y_gfr rfl rfl rfl rfl rfl (hHT1.r 891 4 895 rfl) ?_
          refine y_iconst rfl ?_
          refine y_iload rfl rfl ?_
          refine y_aload_n rfl rfl ?_
          refine y_gfr rfl rfl rfl rfl rfl (hHT1.r 891 0 876 rfl) ?_
          refine y_iload rfl rfl ?_
          refine y_callV rfl rfl rfl (t_to_runEnd__p hHT1 v5 ⟨by omega, by omega⟩ _) ?_
          rintro _ _ ⟨rfl, z49, rfl, w49, w47, w48⟩
          show Pl _ _ _ _ _ _ [iv z49, iv v5, iv 2, .ref 895] _ _
          have gq40 := w47
          rw [FRT hFT1 rfl rfl] at gq40
          clear w47
          refine y_callV rfl rfl rfl (t_me_find__p hHT1 2 v5 z49 ⟨by omega, by omega⟩ ⟨by omega, by omega⟩ ⟨by omega, by omega⟩ (by first | assumption | omega) (by first | assumption | exact (CEN_FR hFT1 rfl rfl (by assumption : CEN S))) _) ?_
          rintro _ _ ⟨rfl, z50, rfl, w50, v43⟩
          show Pl _ _ _ _ _ _ [iv z50] _ _
          have K43 : True := trivial
          have o43 : z50 = oL S (cR (ty7 S) v5.toNat) := by have u := v43; rw [← gq40, fnd_eq (SMV_FR hFT1 rfl rfl)] at u; unfold oL; rw [k27]; exact u
          clear v43
          refine y_goto rfl rfl ?_
          refine y_istore rfl rfl rfl ?_
          refine y_iload rfl rfl ?_
          refine y_iconst rfl ?_
          refine y_icmp_ne rfl rfl (by unfold rg; omega) (by unfold rg; omega) (fun w51 => ?_) (fun w52 => ?_)
          · refine y_aload_n rfl rfl ?_
            refine y_gfr rfl rfl rfl rfl rfl (hHT1.r 891 4 895 rfl) ?_
            refine y_aload_n rfl rfl ?_
            refine y_gfr rfl rfl rfl rfl rfl (hHT1.r 891 3 20 rfl) ?_
            refine y_gfr rfl rfl rfl rfl rfl (hHT1.r 20 2 21 rfl) ?_
            refine y_iload rfl rfl ?_
            refine y_ialoadP (n := 24) rfl rfl (by unfold rg; omega) (fun w53 w54 => ?_)
            have w55 : -2147483648 ≤ (Xi T1 21 ((z50).toNat)) ∧ (Xi T1 21 ((z50).toNat)) ≤ 2147483647 := Xi_rgI
            have h75 : (Xi T1 21 ((z50).toNat)) = Xi S 21 (oL S (cR (ty7 S) v5.toNat)).toNat := by rw [← o43]; exact (hFT1.cx 21 rfl _).1
            refine y_iload_n rfl rfl ?_
            refine y_iload_n rfl rfl ?_
            refine y_iload_n rfl rfl ?_
            refine y_if_ne rfl rfl (by unfold rg; omega) (fun w56 => ?_) (fun w57 => ?_)
            · refine y_iconst rfl ?_
              refine y_iconst rfl ?_
              refine y_callV rfl rfl rfl (t_me_readAdjective__p hHT1 (Xi T1 21 ((z50).toNat)) at_ to 0 0 ⟨by omega, by omega⟩ ⟨by omega, by omega⟩ ⟨by omega, by omega⟩ ⟨by omega, by omega⟩ ⟨by omega, by omega⟩ (by first | assumption | omega) (by first | assumption | exact (CEN_FR hFT1 rfl rfl (by assumption : CEN S))) _) ?_
              rintro _ T3 ⟨hHT3, w61, z60, rfl, w60, v88, w58, w59⟩
              have hFT3 : FR md_re_adjectiveSuits__p S T3 := FR.tr hFT1 w61 rfl
              show Pl _ _ _ _ _ _ [iv z60] _ _
              have K88 : True := trivial
              have F88 := (by assumption : FR md_me_readAdjective__p T1 T3)
              have e88 : z60 = raF S (Xi S 21 (oL S (cR (ty7 S) v5.toNat)).toNat) at_ to (1 - nt) 0 := by have u := v88; rw [raF_FR hFT1 rfl, h75] at u; first | (rw [show (1 - nt : Int) = 1 by omega]; exact u) | (rw [show (1 - nt : Int) = 0 by omega]; exact u)
              clear v88
              have x88 : Xi T3 876 8 = 0 := (F88.x 876 8 rfl).trans (by omega)
              refine y_istore rfl rfl rfl ?_
              have Q91 : Hid ((bg7 (ty7 S) v5 ∧ (z60 : Int) = qL S (cR (ty7 S) v5.toNat) at_ to nt) ∨ (¬ bg7 (ty7 S) v5 ∧ (z60 : Int) = 1)) := by first | (have u := K88; exact Or.inl ⟨B27, by unfold qL; rw [if_neg (by omega)]; exact e88⟩) | (have u := K43; exact Or.inl ⟨B27, by unfold qL; rw [if_pos (by omega)]⟩) | exact Or.inr ⟨V21.o.2 (by omega) (by omega), rfl⟩
              refine y_iload rfl rfl ?_
              refine y_if_ne rfl rfl (by unfold rg; omega) (fun w62 => ?_) (fun w63 => ?_)
              · refine y_iload rfl rfl ?_
                refine y_if_ne rfl rfl (by unfold rg; omega) (fun w64 => ?_) (fun w65 => ?_)
                · refine y_iconst rfl ?_
                  refine y_goto rfl rfl ?_
                  refine y_istore rfl rfl rfl ?_
                  have T124 := Hid.i (asp_s (d := 1) Q91.o L6.o M6.o (by omega) (by omega) (by omega))
                  refine y_iinc rfl rfl rfl rfl ?_
                  refine y_goto rfl rfl ?_
                  have w66 : Xi T3 1 3 = Xi T1 1 3 := (show Xi T3 1 3 = Xi T1 1 3 from w61.x _ _ rfl)
                  have w67 : Xi T3 876 7 = Xi T1 876 7 := (show Xi T3 876 7 = Xi T1 876 7 from w61.x _ _ rfl)
                  have w68 : Xi T3 876 8 = Xi T1 876 8 := (show Xi T3 876 8 = Xi T1 876 8 from w61.x _ _ rfl)
                  have w69 : Xi T3 890 3 = Xi T1 890 3 := (show Xi T3 890 3 = Xi T1 890 3 from w61.x _ _ rfl)
                  exact Pl_weak (ih6 (by omega) T3 hHT3 hFT3 (1) ((v5 + 1)) (by omega) (by omega) (by omega) (by omega) (by first | exact T124.o.1 | exact fun k hk => absurd hk (Nat.not_lt_zero _)) (by first | exact T124.o.2 | exact ⟨fun q => absurd q (by omega), fun _ k hk => absurd hk (Nat.not_lt_zero _)⟩) (by omega) (by omega) (by omega)) (by omega) (And.intro rfl (And.intro rfl (And.intro rfl (And.intro rfl (And.intro rfl (And.intro rfl (True.intro)))))))
                · refine y_iload rfl rfl ?_
                  refine y_iconst rfl ?_
                  refine y_icmp_le rfl rfl (by unfold rg; omega) (by unfold rg; omega) (fun w70 => ?_) (fun w71 => ?_)
                  · refine y_iconst rfl ?_
                    refine y_istore rfl rfl rfl ?_
                    have T124 := Hid.i (asp_s (d := 0) Q91.o L6.o M6.o (by omega) (by omega) (by omega))
                    refine y_iinc rfl rfl rfl rfl ?_
                    refine y_goto rfl rfl ?_
                    have w72 : Xi T3 1 3 = Xi T1 1 3 := (show Xi T3 1 3 = Xi T1 1 3 from w61.x _ _ rfl)
                    have w73 : Xi T3 876 7 = Xi T1 876 7 := (show Xi T3 876 7 = Xi T1 876 7 from w61.x _ _ rfl)
                    have w74 : Xi T3 876 8 = Xi T1 876 8 := (show Xi T3 876 8 = Xi T1 876 8 from w61.x _ _ rfl)
                    have w75 : Xi T3 890 3 = Xi T1 890 3 := (show Xi T3 890 3 = Xi T1 890 3 from w61.x _ _ rfl)
                    exact Pl_weak (ih6 (by omega) T3 hHT3 hFT3 (0) ((v5 + 1)) (by omega) (by omega) (by omega) (by omega) (by first | exact T124.o.1 | exact fun k hk => absurd hk (Nat.not_lt_zero _)) (by first | exact T124.o.2 | exact ⟨fun q => absurd q (by omega), fun _ k hk => absurd hk (Nat.not_lt_zero _)⟩) (by omega) (by omega) (by omega)) (by omega) (And.intro rfl (And.intro rfl (And.intro rfl (And.intro rfl (And.intro rfl (And.intro rfl (True.intro)))))))
                  · refine y_iconst rfl ?_
                    refine y_goto rfl rfl ?_
                    refine y_istore rfl rfl rfl ?_
                    have T124 := Hid.i (asp_s (d := 1) Q91.o L6.o M6.o (by omega) (by omega) (by omega))
                    refine y_iinc rfl rfl rfl rfl ?_
                    refine y_goto rfl rfl ?_
                    have w76 : Xi T3 1 3 = Xi T1 1 3 := (show Xi T3 1 3 = Xi T1 1 3 from w61.x _ _ rfl)
                    have w77 : Xi T3 876 7 = Xi T1 876 7 := (show Xi T3 876 7 = Xi T1 876 7 from w61.x _ _ rfl)
                    have w78 : Xi T3 876 8 = Xi T1 876 8 := (show Xi T3 876 8 = Xi T1 876 8 from w61.x _ _ rfl)
                    have w79 : Xi T3 890 3 = Xi T1 890 3 := (show Xi T3 890 3 = Xi T1 890 3 from w61.x _ _ rfl)
                    exact Pl_weak (ih6 (by omega) T3 hHT3 hFT3 (1) ((v5 + 1)) (by omega) (by omega) (by omega) (by omega) (by first | exact T124.o.1 | exact fun k hk => absurd hk (Nat.not_lt_zero _)) (by first | exact T124.o.2 | exact ⟨fun q => absurd q (by omega), fun _ k hk => absurd hk (Nat.not_lt_zero _)⟩) (by omega) (by omega) (by omega)) (by omega) (And.intro rfl (And.intro rfl (And.intro rfl (And.intro rfl (And.intro rfl (And.intro rfl (True.intro)))))))
              · refine y_aload_n rfl rfl ?_
                refine y_gfr rfl rfl rfl rfl rfl (hHT3.r 891 0 876 rfl) ?_
                refine y_iconst rfl ?_
                refine y_iload_n rfl rfl ?_
                have w82 : Xi T3 876 8 = Xi T1 876 8 := (show Xi T3 876 8 = Xi T1 876 8 from w61.x _ _ rfl)
                have w83 : Xi T3 876 9 = Xi T1 876 9 := (show Xi T3 876 9 = Xi T1 876 9 from w61.x _ _ rfl)
                refine y_callV rfl rfl rfl (t_to_wrong__p hHT3 4 at_ ⟨by omega, by omega⟩ ⟨by omega, by omega⟩ _) ?_
                rintro _ T4 ⟨hHT4, w88, z87, rfl, w87, w85, f104, w86⟩
                have hFT4 : FR md_re_adjectiveSuits__p S T4 := FR.tr hFT3 w88 rfl
                show Pl _ _ _ _ _ _ [iv z87] _ _
                have K104 : True := trivial
                have Y104 : FTO S T4 4 at_ := by have u := f104 (by omega); rw [pc7_FR hFT3 rfl rfl rfl] at u; exact u
                refine y_ireturn rfl (retI_z (by omega)) ?_
                have w89 : Xi T4 1 3 = Xi T1 1 3 := (show Xi T4 1 3 = Xi T3 1 3 from w88.x _ _ rfl).trans ((show Xi T3 1 3 = Xi T1 1 3 from w61.x _ _ rfl))
                have w90 : Xi T4 876 7 = Xi T1 876 7 := (show Xi T4 876 7 = Xi T3 876 7 from w88.x _ _ rfl).trans ((show Xi T3 876 7 = Xi T1 876 7 from w61.x _ _ rfl))
                have w91 : Xi T4 890 3 = Xi T1 890 3 := (show Xi T4 890 3 = Xi T3 890 3 from w88.x _ _ rfl).trans ((show Xi T3 890 3 = Xi T1 890 3 from w61.x _ _ rfl))
                exact ⟨hHT4, hFT4, _, rfl, ⟨by omega, by omega⟩, (by first | (have u := K104; exact asp_1 Q91.o (by omega) (by omega) (by omega) (by omega) Y104) | (have u := K144; exact asp_2 L132.o.1 (by have u := L132.o.2; rw [show v4 = 1 by omega] at u; exact u) (by omega) Y144) | exact asp_3 L132.o.1 (by have u := L132.o.2; rw [show v4 = 0 by omega] at u; exact u) (by omega) (by omega))⟩
            · refine y_iconst rfl ?_
              refine y_goto rfl rfl ?_
              refine y_iconst rfl ?_
              refine y_callV rfl rfl rfl (t_me_readAdjective__p hHT1 (Xi T1 21 ((z50).toNat)) at_ to 1 0 ⟨by omega, by omega⟩ ⟨by omega, by omega⟩ ⟨by omega, by omega⟩ ⟨by omega, by omega⟩ ⟨by omega, by omega⟩ (by first | assumption | omega) (by first | assumption | exact (CEN_FR hFT1 rfl rfl (by assumption : CEN S))) _) ?_
              rintro _ T5 ⟨hHT5, w95, z94, rfl, w94, v88, w92, w93⟩
              have hFT5 : FR md_re_adjectiveSuits__p S T5 := FR.tr hFT1 w95 rfl
              show Pl _ _ _ _ _ _ [iv z94] _ _
              have K88 : True := trivial
              have F88 := (by assumption : FR md_me_readAdjective__p T1 T5)
              have e88 : z94 = raF S (Xi S 21 (oL S (cR (ty7 S) v5.toNat)).toNat) at_ to (1 - nt) 0 := by have u := v88; rw [raF_FR hFT1 rfl, h75] at u; first | (rw [show (1 - nt : Int) = 1 by omega]; exact u) | (rw [show (1 - nt : Int) = 0 by omega]; exact u)
              clear v88
              have x88 : Xi T5 876 8 = 0 := (F88.x 876 8 rfl).trans (by omega)
              refine y_istore rfl rfl rfl ?_
              have Q91 : Hid ((bg7 (ty7 S) v5 ∧ (z94 : Int) = qL S (cR (ty7 S) v5.toNat) at_ to nt) ∨ (¬ bg7 (ty7 S) v5 ∧ (z94 : Int) = 1)) := by first | (have u := K88; exact Or.inl ⟨B27, by unfold qL; rw [if_neg (by omega)]; exact e88⟩) | (have u := K43; exact Or.inl ⟨B27, by unfold qL; rw [if_pos (by omega)]⟩) | exact Or.inr ⟨V21.o.2 (by omega) (by omega), rfl⟩
              refine y_iload rfl rfl ?_
              refine y_if_ne rfl rfl (by unfold rg; omega) (fun w96 => ?_) (fun w97 => ?_)
              · refine y_iload rfl rfl ?_
                refine y_if_ne rfl rfl (by unfold rg; omega) (fun w98 => ?_) (fun w99 => ?_)
                · refine y_iconst rfl ?_
                  refine y_goto rfl rfl ?_
                  refine y_istore rfl rfl rfl ?_
                  have T124 := Hid.i (asp_s (d := 1) Q91.o L6.o M6.o (by omega) (by omega) (by omega))
                  refine y_iinc rfl rfl rfl rfl ?_
                  refine y_goto rfl rfl ?_
                  have w100 : Xi T5 1 3 = Xi T1 1 3 := (show Xi T5 1 3 = Xi T1 1 3 from w95.x _ _ rfl)
                  have w101 : Xi T5 876 7 = Xi T1 876 7 := (show Xi T5 876 7 = Xi T1 876 7 from w95.x _ _ rfl)
                  have w102 : Xi T5 876 8 = Xi T1 876 8 := (show Xi T5 876 8 = Xi T1 876 8 from w95.x _ _ rfl)
                  have w103 : Xi T5 890 3 = Xi T1 890 3 := (show Xi T5 890 3 = Xi T1 890 3 from w95.x _ _ rfl)
                  exact Pl_weak (ih6 (by omega) T5 hHT5 hFT5 (1) ((v5 + 1)) (by omega) (by omega) (by omega) (by omega) (by first | exact T124.o.1 | exact fun k hk => absurd hk (Nat.not_lt_zero _)) (by first | exact T124.o.2 | exact ⟨fun q => absurd q (by omega), fun _ k hk => absurd hk (Nat.not_lt_zero _)⟩) (by omega) (by omega) (by omega)) (by omega) (And.intro rfl (And.intro rfl (And.intro rfl (And.intro rfl (And.intro rfl (And.intro rfl (True.intro)))))))
                · refine y_iload rfl rfl ?_
                  refine y_iconst rfl ?_
                  refine y_icmp_le rfl rfl (by unfold rg; omega) (by unfold rg; omega) (fun w104 => ?_) (fun w105 => ?_)
                  · refine y_iconst rfl ?_
                    refine y_istore rfl rfl rfl ?_
                    have T124 := Hid.i (asp_s (d := 0) Q91.o L6.o M6.o (by omega) (by omega) (by omega))
                    refine y_iinc rfl rfl rfl rfl ?_
                    refine y_goto rfl rfl ?_
                    have w106 : Xi T5 1 3 = Xi T1 1 3 := (show Xi T5 1 3 = Xi T1 1 3 from w95.x _ _ rfl)
                    have w107 : Xi T5 876 7 = Xi T1 876 7 := (show Xi T5 876 7 = Xi T1 876 7 from w95.x _ _ rfl)
                    have w108 : Xi T5 876 8 = Xi T1 876 8 := (show Xi T5 876 8 = Xi T1 876 8 from w95.x _ _ rfl)
                    have w109 : Xi T5 890 3 = Xi T1 890 3 := (show Xi T5 890 3 = Xi T1 890 3 from w95.x _ _ rfl)
                    exact Pl_weak (ih6 (by omega) T5 hHT5 hFT5 (0) ((v5 + 1)) (by omega) (by omega) (by omega) (by omega) (by first | exact T124.o.1 | exact fun k hk => absurd hk (Nat.not_lt_zero _)) (by first | exact T124.o.2 | exact ⟨fun q => absurd q (by omega), fun _ k hk => absurd hk (Nat.not_lt_zero _)⟩) (by omega) (by omega) (by omega)) (by omega) (And.intro rfl (And.intro rfl (And.intro rfl (And.intro rfl (And.intro rfl (And.intro rfl (True.intro)))))))
                  · refine y_iconst rfl ?_
                    refine y_goto rfl rfl ?_
                    refine y_istore rfl rfl rfl ?_
                    have T124 := Hid.i (asp_s (d := 1) Q91.o L6.o M6.o (by omega) (by omega) (by omega))
                    refine y_iinc rfl rfl rfl rfl ?_
                    refine y_goto rfl rfl ?_
                    have w110 : Xi T5 1 3 = Xi T1 1 3 := (show Xi T5 1 3 = Xi T1 1 3 from w95.x _ _ rfl)
                    have w111 : Xi T5 876 7 = Xi T1 876 7 := (show Xi T5 876 7 = Xi T1 876 7 from w95.x _ _ rfl)
                    have w112 : Xi T5 876 8 = Xi T1 876 8 := (show Xi T5 876 8 = Xi T1 876 8 from w95.x _ _ rfl)
                    have w113 : Xi T5 890 3 = Xi T1 890 3 := (show Xi T5 890 3 = Xi T1 890 3 from w95.x _ _ rfl)
                    exact Pl_weak (ih6 (by omega) T5 hHT5 hFT5 (1) ((v5 + 1)) (by omega) (by omega) (by omega) (by omega) (by first | exact T124.o.1 | exact fun k hk => absurd hk (Nat.not_lt_zero _)) (by first | exact T124.o.2 | exact ⟨fun q => absurd q (by omega), fun _ k hk => absurd hk (Nat.not_lt_zero _)⟩) (by omega) (by omega) (by omega)) (by omega) (And.intro rfl (And.intro rfl (And.intro rfl (And.intro rfl (And.intro rfl (And.intro rfl (True.intro)))))))
              · refine y_aload_n rfl rfl ?_
                refine y_gfr rfl rfl rfl rfl rfl (hHT5.r 891 0 876 rfl) ?_
                refine y_iconst rfl ?_
                refine y_iload_n rfl rfl ?_
                have w116 : Xi T5 876 8 = Xi T1 876 8 := (show Xi T5 876 8 = Xi T1 876 8 from w95.x _ _ rfl)
                have w117 : Xi T5 876 9 = Xi T1 876 9 := (show Xi T5 876 9 = Xi T1 876 9 from w95.x _ _ rfl)
                refine y_callV rfl rfl rfl (t_to_wrong__p hHT5 4 at_ ⟨by omega, by omega⟩ ⟨by omega, by omega⟩ _) ?_
                rintro _ T6 ⟨hHT6, w122, z121, rfl, w121, w119, f104, w120⟩
                have hFT6 : FR md_re_adjectiveSuits__p S T6 := FR.tr hFT5 w122 rfl
                show Pl _ _ _ _ _ _ [iv z121] _ _
                have K104 : True := trivial
                have Y104 : FTO S T6 4 at_ := by have u := f104 (by omega); rw [pc7_FR hFT5 rfl rfl rfl] at u; exact u
                refine y_ireturn rfl (retI_z (by omega)) ?_
                have w123 : Xi T6 1 3 = Xi T1 1 3 := (show Xi T6 1 3 = Xi T5 1 3 from w122.x _ _ rfl).trans ((show Xi T5 1 3 = Xi T1 1 3 from w95.x _ _ rfl))
                have w124 : Xi T6 876 7 = Xi T1 876 7 := (show Xi T6 876 7 = Xi T5 876 7 from w122.x _ _ rfl).trans ((show Xi T5 876 7 = Xi T1 876 7 from w95.x _ _ rfl))
                have w125 : Xi T6 890 3 = Xi T1 890 3 := (show Xi T6 890 3 = Xi T5 890 3 from w122.x _ _ rfl).trans ((show Xi T5 890 3 = Xi T1 890 3 from w95.x _ _ rfl))
                exact ⟨hHT6, hFT6, _, rfl, ⟨by omega, by omega⟩, (by first | (have u := K104; exact asp_1 Q91.o (by omega) (by omega) (by omega) (by omega) Y104) | (have u := K144; exact asp_2 L132.o.1 (by have u := L132.o.2; rw [show v4 = 1 by omega] at u; exact u) (by omega) Y144) | exact asp_3 L132.o.1 (by have u := L132.o.2; rw [show v4 = 0 by omega] at u; exact u) (by omega) (by omega))⟩
          · refine y_iconst rfl ?_
            refine y_goto rfl rfl ?_
            refine y_istore rfl rfl rfl ?_
            have Q91 : Hid ((bg7 (ty7 S) v5 ∧ (1 : Int) = qL S (cR (ty7 S) v5.toNat) at_ to nt) ∨ (¬ bg7 (ty7 S) v5 ∧ (1 : Int) = 1)) := by first | (have u := K88; exact Or.inl ⟨B27, by unfold qL; rw [if_neg (by omega)]; exact e88⟩) | (have u := K43; exact Or.inl ⟨B27, by unfold qL; rw [if_pos (by omega)]⟩) | exact Or.inr ⟨V21.o.2 (by omega) (by omega), rfl⟩
            refine y_iload rfl rfl ?_
            refine y_if_ne rfl rfl (by unfold rg; omega) (fun w126 => ?_) (fun w127 => absurd w127 (by omega))
            · refine y_iload rfl rfl ?_
              refine y_if_ne rfl rfl (by unfold rg; omega) (fun w128 => ?_) (fun w129 => ?_)
              · refine y_iconst rfl ?_
                refine y_goto rfl rfl ?_
                refine y_istore rfl rfl rfl ?_
                have T124 := Hid.i (asp_s (d := 1) Q91.o L6.o M6.o (by omega) (by omega) (by omega))
                refine y_iinc rfl rfl rfl rfl ?_
                refine y_goto rfl rfl ?_
                exact Pl_weak (ih6 (by omega) T1 hHT1 hFT1 (1) ((v5 + 1)) (by omega) (by omega) (by omega) (by omega) (by first | exact T124.o.1 | exact fun k hk => absurd hk (Nat.not_lt_zero _)) (by first | exact T124.o.2 | exact ⟨fun q => absurd q (by omega), fun _ k hk => absurd hk (Nat.not_lt_zero _)⟩) (by omega) (by omega) (by omega)) (by omega) (And.intro rfl (And.intro rfl (And.intro rfl (And.intro rfl (And.intro rfl (And.intro rfl (True.intro)))))))
              · refine y_iload rfl rfl ?_
                refine y_iconst rfl ?_
                refine y_icmp_le rfl rfl (by unfold rg; omega) (by unfold rg; omega) (fun w130 => ?_) (fun w131 => absurd w131 (by omega))
                · refine y_iconst rfl ?_
                  refine y_istore rfl rfl rfl ?_
                  have T124 := Hid.i (asp_s (d := 0) Q91.o L6.o M6.o (by omega) (by omega) (by omega))
                  refine y_iinc rfl rfl rfl rfl ?_
                  refine y_goto rfl rfl ?_
                  exact Pl_weak (ih6 (by omega) T1 hHT1 hFT1 (0) ((v5 + 1)) (by omega) (by omega) (by omega) (by omega) (by first | exact T124.o.1 | exact fun k hk => absurd hk (Nat.not_lt_zero _)) (by first | exact T124.o.2 | exact ⟨fun q => absurd q (by omega), fun _ k hk => absurd hk (Nat.not_lt_zero _)⟩) (by omega) (by omega) (by omega)) (by omega) (And.intro rfl (And.intro rfl (And.intro rfl (And.intro rfl (And.intro rfl (And.intro rfl (True.intro)))))))
  refine y_iconst rfl ?_
  refine y_istore rfl rfl rfl ?_
  refine y_iconst rfl ?_
  refine y_istore rfl rfl rfl ?_
  exact Pl_weak (C6 fu (by omega) S hH hF (0) (0) (by omega) (by omega) (by omega) (by omega) (by first | exact T124.o.1 | exact fun k hk => absurd hk (Nat.not_lt_zero _)) (by first | exact T124.o.2 | exact ⟨fun q => absurd q (by omega), fun _ k hk => absurd hk (Nat.not_lt_zero _)⟩) (by omega) (by omega) (by omega)) (by omega) (And.intro rfl (And.intro rfl (And.intro rfl (And.intro rfl (And.intro rfl (And.intro rfl (True.intro)))))))
def md_re_doAdjective__p : List rec := [(25, 65, 0, 100000), (66, 106, 0, 100000), (107, 147, 0, 100000), (148, 188, 0, 100000), (876, 877, 8, 9), (876, 877, 9, 10), (891, 892, 10, 11), (895, 896, 8, 9), (895, 896, 9, 10)]
abbrev Q_re_doAdjective__p (S : sS) (at_ : Int) (to : Int) (nt : Int) : pst := fun r S1 => RI S1 ∧ FR md_re_doAdjective__p S S1 ∧ (∃ z : Int, r = some (iv z) ∧ (0 ≤ z ∧ z ≤ 1) ∧ (DAD md_me_readAdjective__p S S1 z at_ to nt))
set_option maxRecDepth 100000 in
theorem t_re_doAdjective__p {S : sS} (hH : RI S) (at_ : Int) (to : Int) (nt : Int) (hat_ : 0 ≤ at_ ∧ at_ ≤ 5140) (hto : 0 ≤ to ∧ to ≤ 5140) (hnt : 0 ≤ nt ∧ nt ≤ 1) (h13 : 0 ≤ Xi S 1 3 ∧ Xi S 1 3 ≤ 200) (hCE : CEN S) (hf : Xi S 876 8 = 0) (hr : Xi S 876 7 ≤ 5130) (ht : 0 ≤ Xi S 890 3 ∧ Xi S 890 3 ≤ 5125) (hX : TX S) (hol : Hid (∀ i : Nat, i < nL S → oL S i ≠ -1)) (d : Nat) : Mp lay0 (d + 4) m_re_doAdjective [.ref 891, iv at_, iv to, iv nt] S (Q_re_doAdjective__p S at_ to nt) := by
  refine Mp_R rfl rfl (fun fu => ?_)
  have hF : FR md_re_doAdjective__p S S := FR.rf
  have w1 : -2147483648 ≤ Xi S 1 3 ∧ Xi S 1 3 ≤ 2147483647 := Xi_rgI
  have w2 : -2147483648 ≤ Xi S 876 7 ∧ Xi S 876 7 ≤ 2147483647 := Xi_rgI
  have w3 : -2147483648 ≤ Xi S 876 8 ∧ Xi S 876 8 ≤ 2147483647 := Xi_rgI
  have w4 : -2147483648 ≤ Xi S 890 3 ∧ Xi S 890 3 ≤ 2147483647 := Xi_rgI
  have C6 : ∀ (n6 : Nat) (_ : n6 ≤ fu) (T1 : sS) (_ : RI T1) (_ : FR md_re_doAdjective__p S T1) (v4 : Int) (v5 : Int), (-2147483648 ≤ v4 ∧ v4 ≤ 2147483647) → (0 ≤ v5 ∧ v5 ≤ 5125) → (0 ≤ v5 ∧ v5 ≤ Xi S 890 3) → (Hid (DAC md_me_readAdjective__p S at_ to nt (cR (ty7 S) (v5).toNat) T1)) → (TX T1) → (v4 = fsO S (cR (ty7 S) (v5).toNat)) → (Xi T1 876 8 = 0) → (Xi T1 890 3 = Xi S 890 3) → (Xi T1 876 7 = Xi S 876 7) → Pl n6 lay0 (d + 3) m_re_doAdjective 6 [(0, .ref 891), (1, iv at_), (2, iv to), (3, iv nt), (4, iv v4), (5, iv v5)] [] T1 (Q_re_doAdjective__p S at_ to nt) := by
    intro n6
    induction n6 with
    | zero => intros; exact Pl_0
    | succ n6 ih6 =>
      intro hm6 T1 hHT1 hFT1 v4 v5 w5 w6 w7 D6 X6 f6 w8 w9 w10
      have w11 : Xi T1 1 3 = Xi S 1 3 := hFT1.x _ _ rfl
      have w12 : Xi T1 5 3 = Xi S 5 3 := hFT1.x _ _ rfl
      have w13 : Xi T1 876 7 = Xi S 876 7 := hFT1.x _ _ rfl
      have w14 : Xi T1 890 3 = Xi S 890 3 := hFT1.x _ _ rfl
      have w15 : -2147483648 ≤ Xi T1 1 3 ∧ Xi T1 1 3 ≤ 2147483647 := Xi_rgI
      have w16 : -2147483648 ≤ Xi T1 876 7 ∧ Xi T1 876 7 ≤ 2147483647 := Xi_rgI
      have w17 : -2147483648 ≤ Xi T1 876 8 ∧ Xi T1 876 8 ≤ 2147483647 := Xi_rgI
      have w18 : -2147483648 ≤ Xi T1 890 3 ∧ Xi T1 890 3 ≤ 2147483647 := Xi_rgI
      refine ys_iload rfl rfl ?_
      refine y_aload_n rfl rfl ?_
      refine y_gfr rfl rfl rfl rfl rfl (hHT1.r 891 1 890 rfl) ?_
      refine y_gfi rfl rfl rfl rfl rfl ?_
      refine y_icmp_ge rfl rfl (by unfold rg; omega) (by unfold rg; omega) (fun w19 => ?_) (fun w20 => ?_)
      · refine y_aload_n rfl rfl ?_
        refine y_iload rfl rfl ?_
        refine y_pfi rfl rfl rfl rfl ?_
        obtain ⟨U2, eU2⟩ : ∃ T : sS, T = uI T1 891 10 (Int32.ofInt v4) := ⟨_, rfl⟩
        rw [← eU2]
        have hHU2 : RI U2 := by rw [eU2]; exact RI_w hHT1
        have hFU2 : FR md_re_doAdjective__p S U2 := by rw [eU2]; exact FR.wI hFT1 (mdf_i (r := (891, 892, 10, 11)) (List.mem_of_getElem? (i := 6) rfl) (inR_i (by omega) (by omega) (by omega) (by omega)))
        have w21 : Xi U2 891 10 = v4 := by rw [eU2]; exact Xi_same (by unfold rg; omega)
        have R158 : U2 = uI T1 891 10 (Int32.ofInt (fsO S (nL S))) := by rw [eU2]; have u := f6; rw [show v5 = Xi S 890 3 by omega] at u; rw [u]
        have x158 : Xi U2 876 8 = 0 := by rw [eU2, Xi_ne (by omega)]; omega
        refine y_iconst rfl ?_
        refine y_ireturn rfl rfl ?_
        have w25 : Xi U2 890 3 = Xi T1 890 3 := (show Xi U2 890 3 = Xi T1 890 3 from by rw [eU2]; exact Xi_ne (by omega))
        exact ⟨hHU2, hFU2, _, rfl, ⟨by omega, by omega⟩, (by first | (have u := K145; exact ⟨fun q => absurd q (by omega), fun _ => ⟨_, _, _, l27, D6.o, O132.o 0 (by omega), Y145⟩⟩) | exact ⟨fun _ => ⟨_, by have u := D6.o; rw [show v5 = Xi S 890 3 by omega] at u; exact u, R158, x158⟩, fun q => absurd q (by omega)⟩)⟩
      · refine y_aload_n rfl rfl ?_
        refine y_iload rfl rfl ?_
        refine y_callV rfl rfl rfl (t_re_beginsName__p hHT1 v5 ⟨by omega, by omega⟩ _) ?_
        rintro _ _ ⟨rfl, z26, rfl, w26, v21⟩
        show Pl _ _ _ _ _ _ [iv z26] _ _
        have V21 : Hid ((z26 = 1 → bg7 (ty7 S) v5 ∧ v5 < Xi S 890 3) ∧ (z26 = 0 → v5 < Xi S 890 3 → ¬ bg7 (ty7 S) v5)) := by have u := v21; rw [FRT hFT1 rfl rfl, show Xi T1 890 3 = Xi S 890 3 by omega] at u; exact u
        clear v21
        refine y_if_eq rfl rfl (by unfold rg; omega) (fun w27 => ?_) (fun w28 => ?_)
        · refine y_iconst rfl ?_
          refine y_istore rfl rfl rfl ?_
          refine y_iload rfl rfl ?_
          refine y_iconst rfl ?_
          refine y_icmp_ne rfl rfl (by unfold rg; omega) (by unfold rg; omega) (fun w29 => absurd w29 (by omega)) (fun w30 => ?_)
          · refine y_goto rfl rfl ?_
            refine y_iinc rfl rfl rfl rfl ?_
            have T149 : Hid (DAC md_me_readAdjective__p S at_ to nt (cR (ty7 S) (v5 + 1).toNat) T1 ∧ TX T1 ∧ (v4 : Int) = fsO S (cR (ty7 S) (v5 + 1).toNat)) := by first | (have u := K102; rw [cR_y (by omega) B27]; exact ⟨⟨_, D6.o, O132.o 1 (by omega)⟩, x132, f74⟩) | (rw [cR_n (by omega) (V21.o.2 (by omega) (by omega))]; exact ⟨D6.o, X6, f6⟩)
            refine y_goto rfl rfl ?_
            exact Pl_weak (ih6 (by omega) T1 hHT1 hFT1 (v4) ((v5 + 1)) (by omega) (by omega) (by omega) (by first | exact T149.o.1 | rfl) (by first | exact T149.o.2.1 | exact hX) (by first | exact T149.o.2.2 | rfl) (by omega) (by omega) (by omega)) (by omega) (And.intro rfl (And.intro rfl (And.intro rfl (And.intro rfl (And.intro rfl (And.intro rfl (True.intro)))))))
        · refine y_aload_n rfl rfl ?_
          have B27 : bg7 (ty7 S) v5 := (V21.o.1 (by omega)).1
          have k27 : kr7 (ty7 S) (cR (ty7 S) v5.toNat) = v5 := cR_b (ty_nf hr) (by omega) (by omega) (by omega) B27
          have l27 : (cR (ty7 S) v5.toNat) < nL S := cR_l (by omega) (by omega) B27
          have h27 := hol.o _ l27
          have g27 : oL S 0 ≠ -1 := hol.o 0 (by omega)
          refine y_gfr rfl rfl rfl rfl rfl (hHT1.r 891 4 895 rfl) ?_
          refine y_iconst rfl ?_
          refine y_iload rfl rfl ?_
          refine y_aload_n rfl rfl ?_
          refine y_gfr rfl rfl rfl rfl rfl (hHT1.r 891 0 876 rfl) ?_
          refine y_iload rfl rfl ?_
          refine y_callV rfl rfl rfl (t_to_runEnd__p hHT1 v5 ⟨by omega, by omega⟩ _) ?_
          rintro _ _ ⟨rfl, z33, rfl, w33, w31, w32⟩
          show Pl _ _ _ _ _ _ [iv z33, iv v5, iv 2, .ref 895] _ _
          have gq40 := w31
          rw [FRT hFT1 rfl rfl] at gq40
          clear w31
          refine y_callV rfl rfl rfl (t_me_find__p hHT1 2 v5 z33 ⟨by omega, by omega⟩ ⟨by omega, by omega⟩ ⟨by omega, by omega⟩ (by first | assumption | omega) (by first | assumption | exact (CEN_FR hFT1 rfl rfl (by assumption : CEN S))) _) ?_
          rintro _ _ ⟨rfl, z34, rfl, w34, v43⟩
          show Pl _ _ _ _ _ _ [iv z34] _ _
          have K43 : True := trivial
          have o43 : z34 = oL S (cR (ty7 S) v5.toNat) := by have u := v43; rw [← gq40, fnd_eq (SMV_FR hFT1 rfl rfl)] at u; unfold oL; rw [k27]; exact u
          clear v43
          refine y_goto rfl rfl ?_
          refine y_istore rfl rfl rfl ?_
          refine y_iload rfl rfl ?_
          refine y_iconst rfl ?_
          refine y_icmp_ne rfl rfl (by unfold rg; omega) (by unfold rg; omega) (fun w35 => ?_) (fun w36 => ?_)
          · refine y_iload rfl rfl ?_
            refine y_iconst rfl ?_
            refine y_icmp_ne rfl rfl (by unfold rg; omega) (by unfold rg; omega) (fun w37 => ?_) (fun w38 => ?_)
            · refine y_iload rfl rfl ?_
              refine y_istore rfl rfl rfl ?_
              have f74 : (v4 : Int) = fsO S ((cR (ty7 S) v5.toNat) + 1) := fso_y f6 o43 g27 (by first | (rw [if_pos (by omega)]) | (rw [if_neg (by omega)]))
              refine y_aload_n rfl rfl ?_
              refine y_gfr rfl rfl rfl rfl rfl (hHT1.r 891 4 895 rfl) ?_
              refine y_aload_n rfl rfl ?_
              refine y_gfr rfl rfl rfl rfl rfl (hHT1.r 891 3 20 rfl) ?_
              refine y_gfr rfl rfl rfl rfl rfl (hHT1.r 20 2 21 rfl) ?_
              refine y_iload rfl rfl ?_
              refine y_ialoadP (n := 24) rfl rfl (by unfold rg; omega) (fun w39 w40 => ?_)
              have w41 : -2147483648 ≤ (Xi T1 21 ((z34).toNat)) ∧ (Xi T1 21 ((z34).toNat)) ≤ 2147483647 := Xi_rgI
              have h89 : (Xi T1 21 ((z34).toNat)) = Xi S 21 (oL S (cR (ty7 S) v5.toNat)).toNat := by rw [← o43]; exact (hFT1.cx 21 rfl _).1
              refine y_iload_n rfl rfl ?_
              refine y_iload_n rfl rfl ?_
              refine y_iload_n rfl rfl ?_
              refine y_if_ne rfl rfl (by unfold rg; omega) (fun w42 => ?_) (fun w43 => ?_)
              · refine y_iconst rfl ?_
                refine y_iconst rfl ?_
                refine y_callV rfl rfl rfl (t_me_readAdjective__p hHT1 (Xi T1 21 ((z34).toNat)) at_ to 0 0 ⟨by omega, by omega⟩ ⟨by omega, by omega⟩ ⟨by omega, by omega⟩ ⟨by omega, by omega⟩ ⟨by omega, by omega⟩ (by first | assumption | omega) (by first | assumption | exact (CEN_FR hFT1 rfl rfl (by assumption : CEN S))) _) ?_
                rintro _ T3 ⟨hHT3, w45, z44, rfl, w44, v102, m102, p102⟩
                have hFT3 : FR md_re_doAdjective__p S T3 := FR.tr hFT1 w45 rfl
                show Pl _ _ _ _ _ _ [iv z44] _ _
                have K102 : True := trivial
                have F102 := (by assumption : FR md_me_readAdjective__p T1 T3)
                have n102 : Xi T3 895 8 = mnV S at_ to % 256 := by have u := m102; rw [mnV_FR hFT1 rfl] at u; exact u
                have q102 : Xi T3 895 9 = rlF S (Xi S 21 (oL S (cR (ty7 S) v5.toNat)).toNat) at_ to (1 - nt) := by have u := p102; rw [rlF_FR hFT1 rfl rfl rfl rfl, h89] at u; first | (rw [show (1 - nt : Int) = 1 by omega]; exact u) | (rw [show (1 - nt : Int) = 0 by omega]; exact u)
                clear v102 m102 p102
                have x102 : Xi T3 876 8 = 0 := (F102.x 876 8 rfl).trans (by omega)
                have X102 : TX T3 := TX_FR F102 rfl X6
                have rb102 := rlF_b (S := S) (k := Xi S 21 (oL S (cR (ty7 S) v5.toNat)).toNat) (a := at_) (b := to) (v := 1 - nt)
                refine y_pop rfl rfl ?_
                refine y_aload_n rfl rfl ?_
                refine y_iload rfl rfl ?_
                refine y_aload_n rfl rfl ?_
                refine y_gfr rfl rfl rfl rfl rfl (hHT3.r 891 4 895 rfl) ?_
                refine y_gfi rfl rfl rfl rfl rfl ?_
                have w46 : -2147483648 ≤ (Xi T3 895 8) ∧ (Xi T3 895 8) ≤ 2147483647 := Xi_rgI
                refine y_aload_n rfl rfl ?_
                refine y_gfr rfl rfl rfl rfl rfl (hHT3.r 891 4 895 rfl) ?_
                refine y_gfi rfl rfl rfl rfl rfl ?_
                have w47 : -2147483648 ≤ (Xi T3 895 9) ∧ (Xi T3 895 9) ≤ 2147483647 := Xi_rgI
                refine y_iload_n rfl rfl ?_
                refine y_if_ne rfl rfl (by unfold rg; omega) (fun w48 => ?_) (fun w49 => ?_)
                · refine y_iconst rfl ?_
                  have w50 : Xi T3 1 3 = Xi T1 1 3 := (show Xi T3 1 3 = Xi T1 1 3 from w45.x _ _ rfl)
                  have w51 : Xi T3 876 7 = Xi T1 876 7 := (show Xi T3 876 7 = Xi T1 876 7 from w45.x _ _ rfl)
                  have w52 : Xi T3 876 8 = Xi T1 876 8 := (show Xi T3 876 8 = Xi T1 876 8 from w45.x _ _ rfl)
                  have w53 : Xi T3 890 3 = Xi T1 890 3 := (show Xi T3 890 3 = Xi T1 890 3 from w45.x _ _ rfl)
                  refine y_callV rfl rfl rfl (t_re_tellOne__p hHT3 z34 (Xi T3 895 8) (Xi T3 895 9) 0 ⟨by omega, by omega⟩ ⟨by omega, by omega⟩ ⟨by omega, by omega⟩ ⟨by omega, by omega⟩ (by first | assumption | exact (TX_FR w45 rfl (by first | assumption | exact (by assumption : WI T1).2.1 : TX T1))) _) ?_
                  rintro _ T4 ⟨hHT4, w55, z54, rfl, w54, o132, x132⟩
                  have hFT4 : FR md_re_doAdjective__p S T4 := FR.tr hFT3 w55 rfl
                  show Pl _ _ _ _ _ _ [iv z54] _ _
                  have O132 : Hid (∀ y : Int, y = z54 → DA1 md_me_readAdjective__p S T1 T4 (cR (ty7 S) v5.toNat) y at_ to nt) := fun y hy => ⟨_, F102, by have u := o132; rw [o43, n102, q102, ← hy] at u; first | (rw [show (1 - nt : Int) = 1 by omega] at u ⊢; exact u) | (rw [show (1 - nt : Int) = 0 by omega] at u ⊢; exact u)⟩
                  clear o132
                  have G132 := (by assumption : FR md_re_tellOne__p T3 T4)
                  have y132 : Xi T4 876 8 = 0 := (G132.x 876 8 rfl).trans x102
                  refine y_if_ne rfl rfl (by unfold rg; omega) (fun w56 => ?_) (fun w57 => ?_)
                  · refine y_iinc rfl rfl rfl rfl ?_
                    have T149 : Hid (DAC md_me_readAdjective__p S at_ to nt (cR (ty7 S) (v5 + 1).toNat) T4 ∧ TX T4 ∧ (v4 : Int) = fsO S (cR (ty7 S) (v5 + 1).toNat)) := by first | (have u := K102; rw [cR_y (by omega) B27]; exact ⟨⟨_, D6.o, O132.o 1 (by omega)⟩, x132, f74⟩) | (rw [cR_n (by omega) (V21.o.2 (by omega) (by omega))]; exact ⟨D6.o, X6, f6⟩)
                    refine y_goto rfl rfl ?_
                    have w58 : Xi T4 1 3 = Xi T1 1 3 := (show Xi T4 1 3 = Xi T3 1 3 from w55.x _ _ rfl).trans ((show Xi T3 1 3 = Xi T1 1 3 from w45.x _ _ rfl))
                    have w59 : Xi T4 876 7 = Xi T1 876 7 := (show Xi T4 876 7 = Xi T3 876 7 from w55.x _ _ rfl).trans ((show Xi T3 876 7 = Xi T1 876 7 from w45.x _ _ rfl))
                    have w60 : Xi T4 876 8 = Xi T1 876 8 := (show Xi T4 876 8 = Xi T3 876 8 from w55.x _ _ rfl).trans ((show Xi T3 876 8 = Xi T1 876 8 from w45.x _ _ rfl))
                    have w61 : Xi T4 890 3 = Xi T1 890 3 := (show Xi T4 890 3 = Xi T3 890 3 from w55.x _ _ rfl).trans ((show Xi T3 890 3 = Xi T1 890 3 from w45.x _ _ rfl))
                    exact Pl_weak (ih6 (by omega) T4 hHT4 hFT4 (v4) ((v5 + 1)) (by omega) (by omega) (by omega) (by first | exact T149.o.1 | rfl) (by first | exact T149.o.2.1 | exact hX) (by first | exact T149.o.2.2 | rfl) (by omega) (by omega) (by omega)) (by omega) (And.intro rfl (And.intro rfl (And.intro rfl (And.intro rfl (And.intro rfl (And.intro rfl (True.intro)))))))
                  · refine y_aload_n rfl rfl ?_
                    refine y_gfr rfl rfl rfl rfl rfl (hHT4.r 891 0 876 rfl) ?_
                    refine y_iconst rfl ?_
                    refine y_iload rfl rfl ?_
                    have w64 : Xi T4 876 8 = Xi T1 876 8 := (show Xi T4 876 8 = Xi T3 876 8 from w55.x _ _ rfl).trans ((show Xi T3 876 8 = Xi T1 876 8 from w45.x _ _ rfl))
                    have w65 : Xi T4 876 9 = Xi T1 876 9 := (show Xi T4 876 9 = Xi T3 876 9 from w55.x _ _ rfl).trans ((show Xi T3 876 9 = Xi T1 876 9 from w45.x _ _ rfl))
                    refine y_callV rfl rfl rfl (t_to_wrong__p hHT4 5 v5 ⟨by omega, by omega⟩ ⟨by omega, by omega⟩ _) ?_
                    rintro _ T5 ⟨hHT5, w70, z69, rfl, w69, w67, f145, w68⟩
                    have hFT5 : FR md_re_doAdjective__p S T5 := FR.tr hFT4 w70 rfl
                    show Pl _ _ _ _ _ _ [iv z69] _ _
                    have K145 : True := trivial
                    have Y145 : FTO S T5 5 (kr7 (ty7 S) (cR (ty7 S) v5.toNat)) := by have u := f145 y132; rw [pc7_FR hFT4 rfl rfl rfl] at u; rw [k27]; exact u
                    refine y_ireturn rfl (retI_z (by omega)) ?_
                    have w73 : Xi T5 890 3 = Xi T1 890 3 := (show Xi T5 890 3 = Xi T4 890 3 from w70.x _ _ rfl).trans ( (show Xi T4 890 3 = Xi T3 890 3 from w55.x _ _ rfl).trans ((show Xi T3 890 3 = Xi T1 890 3 from w45.x _ _ rfl)))
                    exact ⟨hHT5, hFT5, _, rfl, ⟨by omega, by omega⟩, (by first | (have u := K145; exact ⟨fun q => absurd q (by omega), fun _ => ⟨_, _, _, l27, D6.o, O132.o 0 (by omega), Y145⟩⟩) | exact ⟨fun _ => ⟨_, by have u := D6.o; rw [show v5 = Xi S 890 3 by omega] at u; exact u, R158, x158⟩, fun q => absurd q (by omega)⟩)⟩
                · refine y_iconst rfl ?_
                  refine y_goto rfl rfl ?_
                  have w74 : Xi T3 1 3 = Xi T1 1 3 := (show Xi T3 1 3 = Xi T1 1 3 from w45.x _ _ rfl)
                  have w75 : Xi T3 876 7 = Xi T1 876 7 := (show Xi T3 876 7 = Xi T1 876 7 from w45.x _ _ rfl)
                  have w76 : Xi T3 876 8 = Xi T1 876 8 := (show Xi T3 876 8 = Xi T1 876 8 from w45.x _ _ rfl)
                  have w77 : Xi T3 890 3 = Xi T1 890 3 := (show Xi T3 890 3 = Xi T1 890 3 from w45.x _ _ rfl)
                  refine y_callV rfl rfl rfl (t_re_tellOne__p hHT3 z34 (Xi T3 895 8) (Xi T3 895 9) 1 ⟨by omega, by omega⟩ ⟨by omega, by omega⟩ ⟨by omega, by omega⟩ ⟨by omega, by omega⟩ (by first | assumption | exact (TX_FR w45 rfl (by first | assumption | exact (by assumption : WI T1).2.1 : TX T1))) _) ?_
                  rintro _ T6 ⟨hHT6, w79, z78, rfl, w78, o132, x132⟩
                  have hFT6 : FR md_re_doAdjective__p S T6 := FR.tr hFT3 w79 rfl
                  show Pl _ _ _ _ _ _ [iv z78] _ _
                  have O132 : Hid (∀ y : Int, y = z78 → DA1 md_me_readAdjective__p S T1 T6 (cR (ty7 S) v5.toNat) y at_ to nt) := fun y hy => ⟨_, F102, by have u := o132; rw [o43, n102, q102, ← hy] at u; first | (rw [show (1 - nt : Int) = 1 by omega] at u ⊢; exact u) | (rw [show (1 - nt : Int) = 0 by omega] at u ⊢; exact u)⟩
                  clear o132
                  have G132 := (by assumption : FR md_re_tellOne__p T3 T6)
                  have y132 : Xi T6 876 8 = 0 := (G132.x 876 8 rfl).trans x102
                  refine y_if_ne rfl rfl (by unfold rg; omega) (fun w80 => ?_) (fun w81 => ?_)
                  · refine y_iinc rfl rfl rfl rfl ?_
                    have T149 : Hid (DAC md_me_readAdjective__p S at_ to nt (cR (ty7 S) (v5 + 1).toNat) T6 ∧ TX T6 ∧ (v4 : Int) = fsO S (cR (ty7 S) (v5 + 1).toNat)) := by first | (have u := K102; rw [cR_y (by omega) B27]; exact ⟨⟨_, D6.o, O132.o 1 (by omega)⟩, x132, f74⟩) | (rw [cR_n (by omega) (V21.o.2 (by omega) (by omega))]; exact ⟨D6.o, X6, f6⟩)
                    refine y_goto rfl rfl ?_
                    have w82 : Xi T6 1 3 = Xi T1 1 3 := (show Xi T6 1 3 = Xi T3 1 3 from w79.x _ _ rfl).trans ((show Xi T3 1 3 = Xi T1 1 3 from w45.x _ _ rfl))
                    have w83 : Xi T6 876 7 = Xi T1 876 7 := (show Xi T6 876 7 = Xi T3 876 7 from w79.x _ _ rfl).trans ((show Xi T3 876 7 = Xi T1 876 7 from w45.x _ _ rfl))
                    have w84 : Xi T6 876 8 = Xi T1 876 8 := (show Xi T6 876 8 = Xi T3 876 8 from w79.x _ _ rfl).trans ((show Xi T3 876 8 = Xi T1 876 8 from w45.x _ _ rfl))
                    have w85 : Xi T6 890 3 = Xi T1 890 3 := (show Xi T6 890 3 = Xi T3 890 3 from w79.x _ _ rfl).trans ((show Xi T3 890 3 = Xi T1 890 3 from w45.x _ _ rfl))
                    exact Pl_weak (ih6 (by omega) T6 hHT6 hFT6 (v4) ((v5 + 1)) (by omega) (by omega) (by omega) (by first | exact T149.o.1 | rfl) (by first | exact T149.o.2.1 | exact hX) (by first | exact T149.o.2.2 | rfl) (by omega) (by omega) (by omega)) (by omega) (And.intro rfl (And.intro rfl (And.intro rfl (And.intro rfl (And.intro rfl (And.intro rfl (True.intro)))))))
                  · refine y_aload_n rfl rfl ?_
                    refine y_gfr rfl rfl rfl rfl rfl (hHT6.r 891 0 876 rfl) ?_
                    refine y_iconst rfl ?_
                    refine y_iload rfl rfl ?_
                    have w88 : Xi T6 876 8 = Xi T1 876 8 := (show Xi T6 876 8 = Xi T3 876 8 from w79.x _ _ rfl).trans ((show Xi T3 876 8 = Xi T1 876 8 from w45.x _ _ rfl))
                    have w89 : Xi T6 876 9 = Xi T1 876 9 := (show Xi T6 876 9 = Xi T3 876 9 from w79.x _ _ rfl).trans ((show Xi T3 876 9 = Xi T1 876 9 from w45.x _ _ rfl))
                    refine y_callV rfl rfl rfl (t_to_wrong__p hHT6 5 v5 ⟨by omega, by omega⟩ ⟨by omega, by omega⟩ _) ?_
                    rintro _ T7 ⟨hHT7, w94, z93, rfl, w93, w91, f145, w92⟩
                    have hFT7 : FR md_re_doAdjective__p S T7 := FR.tr hFT6 w94 rfl
                    show Pl _ _ _ _ _ _ [iv z93] _ _
                    have K145 : True := trivial
                    have Y145 : FTO S T7 5 (kr7 (ty7 S) (cR (ty7 S) v5.toNat)) := by have u := f145 y132; rw [pc7_FR hFT6 rfl rfl rfl] at u; rw [k27]; exact u
                    refine y_ireturn rfl (retI_z (by omega)) ?_
                    have w97 : Xi T7 890 3 = Xi T1 890 3 := (show Xi T7 890 3 = Xi T6 890 3 from w94.x _ _ rfl).trans ( (show Xi T6 890 3 = Xi T3 890 3 from w79.x _ _ rfl).trans ((show Xi T3 890 3 = Xi T1 890 3 from w45.x _ _ rfl)))
                    exact ⟨hHT7, hFT7, _, rfl, ⟨by omega, by omega⟩, (by first | (have u := K145; exact ⟨fun q => absurd q (by omega), fun _ => ⟨_, _, _, l27, D6.o, O132.o 0 (by omega), Y145⟩⟩) | exact ⟨fun _ => ⟨_, by have u := D6.o; rw [show v5 = Xi S 890 3 by omega] at u; exact u, R158, x158⟩, fun q => absurd q (by omega)⟩)⟩
              · refine y_iconst rfl ?_
                refine y_goto rfl rfl ?_
                refine y_iconst rfl ?_
                refine y_callV rfl rfl rfl (t_me_readAdjective__p hHT1 (Xi T1 21 ((z34).toNat)) at_ to 1 0 ⟨by omega, by omega⟩ ⟨by omega, by omega⟩ ⟨by omega, by omega⟩ ⟨by omega, by omega⟩ ⟨by omega, by omega⟩ (by first | assumption | omega) (by first | assumption | exact (CEN_FR hFT1 rfl rfl (by assumption : CEN S))) _) ?_
                rintro _ T8 ⟨hHT8, w99, z98, rfl, w98, v102, m102, p102⟩
                have hFT8 : FR md_re_doAdjective__p S T8 := FR.tr hFT1 w99 rfl
                show Pl _ _ _ _ _ _ [iv z98] _ _
                have K102 : True := trivial
                have F102 := (by assumption : FR md_me_readAdjective__p T1 T8)
                have n102 : Xi T8 895 8 = mnV S at_ to % 256 := by have u := m102; rw [mnV_FR hFT1 rfl] at u; exact u
                have q102 : Xi T8 895 9 = rlF S (Xi S 21 (oL S (cR (ty7 S) v5.toNat)).toNat) at_ to (1 - nt) := by have u := p102; rw [rlF_FR hFT1 rfl rfl rfl rfl, h89] at u; first | (rw [show (1 - nt : Int) = 1 by omega]; exact u) | (rw [show (1 - nt : Int) = 0 by omega]; exact u)
                clear v102 m102 p102
                have x102 : Xi T8 876 8 = 0 := (F102.x 876 8 rfl).trans (by omega)
                have X102 : TX T8 := TX_FR F102 rfl X6
                have rb102 := rlF_b (S := S) (k := Xi S 21 (oL S (cR (ty7 S) v5.toNat)).toNat) (a := at_) (b := to) (v := 1 - nt)
                refine y_pop rfl rfl ?_
                refine y_aload_n rfl rfl ?_
                refine y_iload rfl rfl ?_
                refine y_aload_n rfl rfl ?_
                refine y_gfr rfl rfl rfl rfl rfl (hHT8.r 891 4 895 rfl) ?_
                refine y_gfi rfl rfl rfl rfl rfl ?_
                have w100 : -2147483648 ≤ (Xi T8 895 8) ∧ (Xi T8 895 8) ≤ 2147483647 := Xi_rgI
                refine y_aload_n rfl rfl ?_
                refine y_gfr rfl rfl rfl rfl rfl (hHT8.r 891 4 895 rfl) ?_
                refine y_gfi rfl rfl rfl rfl rfl ?_
                have w101 : -2147483648 ≤ (Xi T8 895 9) ∧ (Xi T8 895 9) ≤ 2147483647 := Xi_rgI
                refine y_iload_n rfl rfl ?_
                refine y_if_ne rfl rfl (by unfold rg; omega) (fun w102 => ?_) (fun w103 => ?_)
                · refine y_iconst rfl ?_
                  have w104 : Xi T8 1 3 = Xi T1 1 3 := (show Xi T8 1 3 = Xi T1 1 3 from w99.x _ _ rfl)
                  have w105 : Xi T8 876 7 = Xi T1 876 7 := (show Xi T8 876 7 = Xi T1 876 7 from w99.x _ _ rfl)
                  have w106 : Xi T8 876 8 = Xi T1 876 8 := (show Xi T8 876 8 = Xi T1 876 8 from w99.x _ _ rfl)
                  have w107 : Xi T8 890 3 = Xi T1 890 3 := (show Xi T8 890 3 = Xi T1 890 3 from w99.x _ _ rfl)
                  refine y_callV rfl rfl rfl (t_re_tellOne__p hHT8 z34 (Xi T8 895 8) (Xi T8 895 9) 0 ⟨by omega, by omega⟩ ⟨by omega, by omega⟩ ⟨by omega, by omega⟩ ⟨by omega, by omega⟩ (by first | assumption | exact (TX_FR w99 rfl (by first | assumption | exact (by assumption : WI T1).2.1 : TX T1))) _) ?_
                  rintro _ T9 ⟨hHT9, w109, z108, rfl, w108, o132, x132⟩
                  have hFT9 : FR md_re_doAdjective__p S T9 := FR.tr hFT8 w109 rfl
                  show Pl _ _ _ _ _ _ [iv z108] _ _
                  have O132 : Hid (∀ y : Int, y = z108 → DA1 md_me_readAdjective__p S T1 T9 (cR (ty7 S) v5.toNat) y at_ to nt) := fun y hy => ⟨_, F102, by have u := o132; rw [o43, n102, q102, ← hy] at u; first | (rw [show (1 - nt : Int) = 1 by omega] at u ⊢; exact u) | (rw [show (1 - nt : Int) = 0 by omega] at u ⊢; exact u)⟩
                  clear o132
                  have G132 := (by assumption : FR md_re_tellOne__p T8 T9)
                  have y132 : Xi T9 876 8 = 0 := (G132.x 876 8 rfl).trans x102
                  refine y_if_ne rfl rfl (by unfold rg; omega) (fun w110 => ?_) (fun w111 => ?_)
                  · refine y_iinc rfl rfl rfl rfl ?_
                    have T149 : Hid (DAC md_me_readAdjective__p S at_ to nt (cR (ty7 S) (v5 + 1).toNat) T9 ∧ TX T9 ∧ (v4 : Int) = fsO S (cR (ty7 S) (v5 + 1).toNat)) := by first | (have u := K102; rw [cR_y (by omega) B27]; exact ⟨⟨_, D6.o, O132.o 1 (by omega)⟩, x132, f74⟩) | (rw [cR_n (by omega) (V21.o.2 (by omega) (by omega))]; exact ⟨D6.o, X6, f6⟩)
                    refine y_goto rfl rfl ?_
                    have w112 : Xi T9 1 3 = Xi T1 1 3 := (show Xi T9 1 3 = Xi T8 1 3 from w109.x _ _ rfl).trans ((show Xi T8 1 3 = Xi T1 1 3 from w99.x _ _ rfl))
                    have w113 : Xi T9 876 7 = Xi T1 876 7 := (show Xi T9 876 7 = Xi T8 876 7 from w109.x _ _ rfl).trans ((show Xi T8 876 7 = Xi T1 876 7 from w99.x _ _ rfl))
                    have w114 : Xi T9 876 8 = Xi T1 876 8 := (show Xi T9 876 8 = Xi T8 876 8 from w109.x _ _ rfl).trans ((show Xi T8 876 8 = Xi T1 876 8 from w99.x _ _ rfl))
                    have w115 : Xi T9 890 3 = Xi T1 890 3 := (show Xi T9 890 3 = Xi T8 890 3 from w109.x _ _ rfl).trans ((show Xi T8 890 3 = Xi T1 890 3 from w99.x _ _ rfl))
                    exact Pl_weak (ih6 (by omega) T9 hHT9 hFT9 (v4) ((v5 + 1)) (by omega) (by omega) (by omega) (by first | exact T149.o.1 | rfl) (by first | exact T149.o.2.1 | exact hX) (by first | exact T149.o.2.2 | rfl) (by omega) (by omega) (by omega)) (by omega) (And.intro rfl (And.intro rfl (And.intro rfl (And.intro rfl (And.intro rfl (And.intro rfl (True.intro)))))))
                  · refine y_aload_n rfl rfl ?_
                    refine y_gfr rfl rfl rfl rfl rfl (hHT9.r 891 0 876 rfl) ?_
                    refine y_iconst rfl ?_
                    refine y_iload rfl rfl ?_
                    have w118 : Xi T9 876 8 = Xi T1 876 8 := (show Xi T9 876 8 = Xi T8 876 8 from w109.x _ _ rfl).trans ((show Xi T8 876 8 = Xi T1 876 8 from w99.x _ _ rfl))
                    have w119 : Xi T9 876 9 = Xi T1 876 9 := (show Xi T9 876 9 = Xi T8 876 9 from w109.x _ _ rfl).trans ((show Xi T8 876 9 = Xi T1 876 9 from w99.x _ _ rfl))
                    refine y_callV rfl rfl rfl (t_to_wrong__p hHT9 5 v5 ⟨by omega, by omega⟩ ⟨by omega, by omega⟩ _) ?_
                    rintro _ T10 ⟨hHT10, w124, z123, rfl, w123, w121, f145, w122⟩
                    have hFT10 : FR md_re_doAdjective__p S T10 := FR.tr hFT9 w124 rfl
                    show Pl _ _ _ _ _ _ [iv z123] _ _
                    have K145 : True := trivial
                    have Y145 : FTO S T10 5 (kr7 (ty7 S) (cR (ty7 S) v5.toNat)) := by have u := f145 y132; rw [pc7_FR hFT9 rfl rfl rfl] at u; rw [k27]; exact u
                    refine y_ireturn rfl (retI_z (by omega)) ?_
                    have w127 : Xi T10 890 3 = Xi T1 890 3 := (show Xi T10 890 3 = Xi T9 890 3 from w124.x _ _ rfl).trans ( (show Xi T9 890 3 = Xi T8 890 3 from w109.x _ _ rfl).trans ((show Xi T8 890 3 = Xi T1 890 3 from w99.x _ _ rfl)))
                    exact ⟨hHT10, hFT10, _, rfl, ⟨by omega, by omega⟩, (by first | (have u := K145; exact ⟨fun q => absurd q (by omega), fun _ => ⟨_, _, _, l27, D6.o, O132.o 0 (by omega), Y145⟩⟩) | exact ⟨fun _ => ⟨_, by have u := D6.o; rw [show v5 = Xi S 890 3 by omega] at u; exact u, R158, x158⟩, fun q => absurd q (by omega)⟩)⟩
                · refine y_iconst rfl ?_
                  refine y_goto rfl rfl ?_
                  have w128 : Xi T8 1 3 = Xi T1 1 3 := (show Xi T8 1 3 = Xi T1 1 3 from w99.x _ _ rfl)
                  have w129 : Xi T8 876 7 = Xi T1 876 7 := (show Xi T8 876 7 = Xi T1 876 7 from w99.x _ _ rfl)
                  have w130 : Xi T8 876 8 = Xi T1 876 8 := (show Xi T8 876 8 = Xi T1 876 8 from w99.x _ _ rfl)
                  have w131 : Xi T8 890 3 = Xi T1 890 3 := (show Xi T8 890 3 = Xi T1 890 3 from w99.x _ _ rfl)
                  refine y_callV rfl rfl rfl (t_re_tellOne__p hHT8 z34 (Xi T8 895 8) (Xi T8 895 9) 1 ⟨by omega, by omega⟩ ⟨by omega, by omega⟩ ⟨by omega, by omega⟩ ⟨by omega, by omega⟩ (by first | assumption | exact (TX_FR w99 rfl (by first | assumption | exact (by assumption : WI T1).2.1 : TX T1))) _) ?_
                  rintro _ T11 ⟨hHT11, w133, z132, rfl, w132, o132, x132⟩
                  have hFT11 : FR md_re_doAdjective__p S T11 := FR.tr hFT8 w133 rfl
                  show Pl _ _ _ _ _ _ [iv z132] _ _
                  have O132 : Hid (∀ y : Int, y = z132 → DA1 md_me_readAdjective__p S T1 T11 (cR (ty7 S) v5.toNat) y at_ to nt) := fun y hy => ⟨_, F102, by have u := o132; rw [o43, n102, q102, ← hy] at u; first | (rw [show (1 - nt : Int) = 1 by omega] at u ⊢; exact u) | (rw [show (1 - nt : Int) = 0 by omega] at u ⊢; exact u)⟩
                  clear o132
                  have G132 := (by assumption : FR md_re_tellOne__p T8 T11)
                  have y132 : Xi T11 876 8 = 0 := (G132.x 876 8 rfl).trans x102
                  refine y_if_ne rfl rfl (by unfold rg; omega) (fun w134 => ?_) (fun w135 => ?_)
                  · refine y_iinc rfl rfl rfl rfl ?_
                    have T149 : Hid (DAC md_me_readAdjective__p S at_ to nt (cR (ty7 S) (v5 + 1).toNat) T11 ∧ TX T11 ∧ (v4 : Int) = fsO S (cR (ty7 S) (v5 + 1).toNat)) := by first | (have u := K102; rw [cR_y (by omega) B27]; exact ⟨⟨_, D6.o, O132.o 1 (by omega)⟩, x132, f74⟩) | (rw [cR_n (by omega) (V21.o.2 (by omega) (by omega))]; exact ⟨D6.o, X6, f6⟩)
                    refine y_goto rfl rfl ?_
                    have w136 : Xi T11 1 3 = Xi T1 1 3 := (show Xi T11 1 3 = Xi T8 1 3 from w133.x _ _ rfl).trans ((show Xi T8 1 3 = Xi T1 1 3 from w99.x _ _ rfl))
                    have w137 : Xi T11 876 7 = Xi T1 876 7 := (show Xi T11 876 7 = Xi T8 876 7 from w133.x _ _ rfl).trans ((show Xi T8 876 7 = Xi T1 876 7 from w99.x _ _ rfl))
                    have w138 : Xi T11 876 8 = Xi T1 876 8 := (show Xi T11 876 8 = Xi T8 876 8 from w133.x _ _ rfl).trans ((show Xi T8 876 8 = Xi T1 876 8 from w99.x _ _ rfl))
                    have w139 : Xi T11 890 3 = Xi T1 890 3 := (show Xi T11 890 3 = Xi T8 890 3 from w133.x _ _ rfl).trans ((show Xi T8 890 3 = Xi T1 890 3 from w99.x _ _ rfl))
                    exact Pl_weak (ih6 (by omega) T11 hHT11 hFT11 (v4) ((v5 + 1)) (by omega) (by omega) (by omega) (by first | exact T149.o.1 | rfl) (by first | exact T149.o.2.1 | exact hX) (by first | exact T149.o.2.2 | rfl) (by omega) (by omega) (by omega)) (by omega) (And.intro rfl (And.intro rfl (And.intro rfl (And.intro rfl (And.intro rfl (And.intro rfl (True.intro)))))))
                  · refine y_aload_n rfl rfl ?_
                    refine y_gfr rfl rfl rfl rfl rfl (hHT11.r 891 0 876 rfl) ?_
                    refine y_iconst rfl ?_
                    refine y_iload rfl rfl ?_
                    have w142 : Xi T11 876 8 = Xi T1 876 8 := (show Xi T11 876 8 = Xi T8 876 8 from w133.x _ _ rfl).trans ((show Xi T8 876 8 = Xi T1 876 8 from w99.x _ _ rfl))
                    have w143 : Xi T11 876 9 = Xi T1 876 9 := (show Xi T11 876 9 = Xi T8 876 9 from w133.x _ _ rfl).trans ((show Xi T8 876 9 = Xi T1 876 9 from w99.x _ _ rfl))
                    refine y_callV rfl rfl rfl (t_to_wrong__p hHT11 5 v5 ⟨by omega, by omega⟩ ⟨by omega, by omega⟩ _) ?_
                    rintro _ T12 ⟨hHT12, w148, z147, rfl, w147, w145, f145, w146⟩
                    have hFT12 : FR md_re_doAdjective__p S T12 := FR.tr hFT11 w148 rfl
                    show Pl _ _ _ _ _ _ [iv z147] _ _
                    have K145 : True := trivial
                    have Y145 : FTO S T12 5 (kr7 (ty7 S) (cR (ty7 S) v5.toNat)) := by have u := f145 y132; rw [pc7_FR hFT11 rfl rfl rfl] at u; rw [k27]; exact u
                    refine y_ireturn rfl (retI_z (by omega)) ?_
                    have w151 : Xi T12 890 3 = Xi T1 890 3 := (show Xi T12 890 3 = Xi T11 890 3 from w148.x _ _ rfl).trans ( (show Xi T11 890 3 = Xi T8 890 3 from w133.x _ _ rfl).trans ((show Xi T8 890 3 = Xi T1 890 3 from w99.x _ _ rfl)))
                    exact ⟨hHT12, hFT12, _, rfl, ⟨by omega, by omega⟩, (by first | (have u := K145; exact ⟨fun q => absurd q (by omega), fun _ => ⟨_, _, _, l27, D6.o, O132.o 0 (by omega), Y145⟩⟩) | exact ⟨fun _ => ⟨_, by have u := D6.o; rw [show v5 = Xi S 890 3 by omega] at u; exact u, R158, x158⟩, fun q => absurd q (by omega)⟩)⟩
            · refine y_iload rfl rfl ?_
              refine y_goto rfl rfl ?_
              refine y_istore rfl rfl rfl ?_
              have f74 : (z34 : Int) = fsO S ((cR (ty7 S) v5.toNat) + 1) := fso_y f6 o43 g27 (by first | (rw [if_pos (by omega)]) | (rw [if_neg (by omega)]))
              refine y_aload_n rfl rfl ?_
              refine y_gfr rfl rfl rfl rfl rfl (hHT1.r 891 4 895 rfl) ?_
              refine y_aload_n rfl rfl ?_
              refine y_gfr rfl rfl rfl rfl rfl (hHT1.r 891 3 20 rfl) ?_
              refine y_gfr rfl rfl rfl rfl rfl (hHT1.r 20 2 21 rfl) ?_
              refine y_iload rfl rfl ?_
              refine y_ialoadP (n := 24) rfl rfl (by unfold rg; omega) (fun w152 w153 => ?_)
              have w154 : -2147483648 ≤ (Xi T1 21 ((z34).toNat)) ∧ (Xi T1 21 ((z34).toNat)) ≤ 2147483647 := Xi_rgI
              have h89 : (Xi T1 21 ((z34).toNat)) = Xi S 21 (oL S (cR (ty7 S) v5.toNat)).toNat := by rw [← o43]; exact (hFT1.cx 21 rfl _).1
              refine y_iload_n rfl rfl ?_
              refine y_iload_n rfl rfl ?_
              refine y_iload_n rfl rfl ?_
              refine y_if_ne rfl rfl (by unfold rg; omega) (fun w155 => ?_) (fun w156 => ?_)
              · refine y_iconst rfl ?_
                refine y_iconst rfl ?_
                refine y_callV rfl rfl rfl (t_me_readAdjective__p hHT1 (Xi T1 21 ((z34).toNat)) at_ to 0 0 ⟨by omega, by omega⟩ ⟨by omega, by omega⟩ ⟨by omega, by omega⟩ ⟨by omega, by omega⟩ ⟨by omega, by omega⟩ (by first | assumption | omega) (by first | assumption | exact (CEN_FR hFT1 rfl rfl (by assumption : CEN S))) _) ?_
                rintro _ T13 ⟨hHT13, w158, z157, rfl, w157, v102, m102, p102⟩
                have hFT13 : FR md_re_doAdjective__p S T13 := FR.tr hFT1 w158 rfl
                show Pl _ _ _ _ _ _ [iv z157] _ _
                have K102 : True := trivial
                have F102 := (by assumption : FR md_me_readAdjective__p T1 T13)
                have n102 : Xi T13 895 8 = mnV S at_ to % 256 := by have u := m102; rw [mnV_FR hFT1 rfl] at u; exact u
                have q102 : Xi T13 895 9 = rlF S (Xi S 21 (oL S (cR (ty7 S) v5.toNat)).toNat) at_ to (1 - nt) := by have u := p102; rw [rlF_FR hFT1 rfl rfl rfl rfl, h89] at u; first | (rw [show (1 - nt : Int) = 1 by omega]; exact u) | (rw [show (1 - nt : Int) = 0 by omega]; exact u)
                clear v102 m102 p102
                have x102 : Xi T13 876 8 = 0 := (F102.x 876 8 rfl).trans (by omega)
                have X102 : TX T13 := TX_FR F102 rfl X6
                have rb102 := rlF_b (S := S) (k := Xi S 21 (oL S (cR (ty7 S) v5.toNat)).toNat) (a := at_) (b := to) (v := 1 - nt)
                refine y_pop rfl rfl ?_
                refine y_aload_n rfl rfl ?_
                refine y_iload rfl rfl ?_
                refine y_aload_n rfl rfl ?_
                refine y_gfr rfl rfl rfl rfl rfl (hHT13.r 891 4 895 rfl) ?_
                refine y_gfi rfl rfl rfl rfl rfl ?_
                have w159 : -2147483648 ≤ (Xi T13 895 8) ∧ (Xi T13 895 8) ≤ 2147483647 := Xi_rgI
                refine y_aload_n rfl rfl ?_
                refine y_gfr rfl rfl rfl rfl rfl (hHT13.r 891 4 895 rfl) ?_
                refine y_gfi rfl rfl rfl rfl rfl ?_
                have w160 : -2147483648 ≤ (Xi T13 895 9) ∧ (Xi T13 895 9) ≤ 2147483647 := Xi_rgI
                refine y_iload_n rfl rfl ?_
                refine y_if_ne rfl rfl (by unfold rg; omega) (fun w161 => ?_) (fun w162 => ?_)
                · refine y_iconst rfl ?_
                  have w163 : Xi T13 1 3 = Xi T1 1 3 := (show Xi T13 1 3 = Xi T1 1 3 from w158.x _ _ rfl)
                  have w164 : Xi T13 876 7 = Xi T1 876 7 := (show Xi T13 876 7 = Xi T1 876 7 from w158.x _ _ rfl)
                  have w165 : Xi T13 876 8 = Xi T1 876 8 := (show Xi T13 876 8 = Xi T1 876 8 from w158.x _ _ rfl)
                  have w166 : Xi T13 890 3 = Xi T1 890 3 := (show Xi T13 890 3 = Xi T1 890 3 from w158.x _ _ rfl)
                  refine y_callV rfl rfl rfl (t_re_tellOne__p hHT13 z34 (Xi T13 895 8) (Xi T13 895 9) 0 ⟨by omega, by omega⟩ ⟨by omega, by omega⟩ ⟨by omega, by omega⟩ ⟨by omega, by omega⟩ (by first | assumption | exact (TX_FR w158 rfl (by first | assumption | exact (by assumption : WI T1).2.1 : TX T1))) _) ?_
                  rintro _ T14 ⟨hHT14, w168, z167, rfl, w167, o132, x132⟩
                  have hFT14 : FR md_re_doAdjective__p S T14 := FR.tr hFT13 w168 rfl
                  show Pl _ _ _ _ _ _ [iv z167] _ _
                  have O132 : Hid (∀ y : Int, y = z167 → DA1 md_me_readAdjective__p S T1 T14 (cR (ty7 S) v5.toNat) y at_ to nt) := fun y hy => ⟨_, F102, by have u := o132; rw [o43, n102, q102, ← hy] at u; first | (rw [show (1 - nt : Int) = 1 by omega] at u ⊢; exact u) | (rw [show (1 - nt : Int) = 0 by omega] at u ⊢; exact u)⟩
                  clear o132
                  have G132 := (by assumption : FR md_re_tellOne__p T13 T14)
                  have y132 : Xi T14 876 8 = 0 := (G132.x 876 8 rfl).trans x102
                  refine y_if_ne rfl rfl (by unfold rg; omega) (fun w169 => ?_) (fun w170 => ?_)
                  · refine y_iinc rfl rfl rfl rfl ?_
                    have T149 : Hid (DAC md_me_readAdjective__p S at_ to nt (cR (ty7 S) (v5 + 1).toNat) T14 ∧ TX T14 ∧ (z34 : Int) = fsO S (cR (ty7 S) (v5 + 1).toNat)) := by first | (have u := K102; rw [cR_y (by omega) B27]; exact ⟨⟨_, D6.o, O132.o 1 (by omega)⟩, x132, f74⟩) | (rw [cR_n (by omega) (V21.o.2 (by omega) (by omega))]; exact ⟨D6.o, X6, f6⟩)
                    refine y_goto rfl rfl ?_
                    have w171 : Xi T14 1 3 = Xi T1 1 3 := (show Xi T14 1 3 = Xi T13 1 3 from w168.x _ _ rfl).trans ((show Xi T13 1 3 = Xi T1 1 3 from w158.x _ _ rfl))
                    have w172 : Xi T14 876 7 = Xi T1 876 7 := (show Xi T14 876 7 = Xi T13 876 7 from w168.x _ _ rfl).trans ((show Xi T13 876 7 = Xi T1 876 7 from w158.x _ _ rfl))
                    have w173 : Xi T14 876 8 = Xi T1 876 8 := (show Xi T14 876 8 = Xi T13 876 8 from w168.x _ _ rfl).trans ((show Xi T13 876 8 = Xi T1 876 8 from w158.x _ _ rfl))
                    have w174 : Xi T14 890 3 = Xi T1 890 3 := (show Xi T14 890 3 = Xi T13 890 3 from w168.x _ _ rfl).trans ((show Xi T13 890 3 = Xi T1 890 3 from w158.x _ _ rfl))
                    exact Pl_weak (ih6 (by omega) T14 hHT14 hFT14 (z34) ((v5 + 1)) (by omega) (by omega) (by omega) (by first | exact T149.o.1 | rfl) (by first | exact T149.o.2.1 | exact hX) (by first | exact T149.o.2.2 | rfl) (by omega) (by omega) (by omega)) (by omega) (And.intro rfl (And.intro rfl (And.intro rfl (And.intro rfl (And.intro rfl (And.intro rfl (True.intro)))))))
                  · refine y_aload_n rfl rfl ?_
                    refine y_gfr rfl rfl rfl rfl rfl (hHT14.r 891 0 876 rfl) ?_
                    refine y_iconst rfl ?_
                    refine y_iload rfl rfl ?_
                    have w177 : Xi T14 876 8 = Xi T1 876 8 := (show Xi T14 876 8 = Xi T13 876 8 from w168.x _ _ rfl).trans ((show Xi T13 876 8 = Xi T1 876 8 from w158.x _ _ rfl))
                    have w178 : Xi T14 876 9 = Xi T1 876 9 := (show Xi T14 876 9 = Xi T13 876 9 from w168.x _ _ rfl).trans ((show Xi T13 876 9 = Xi T1 876 9 from w158.x _ _ rfl))
                    refine y_callV rfl rfl rfl (t_to_wrong__p hHT14 5 v5 ⟨by omega, by omega⟩ ⟨by omega, by omega⟩ _) ?_
                    rintro _ T15 ⟨hHT15, w183, z182, rfl, w182, w180, f145, w181⟩
                    have hFT15 : FR md_re_doAdjective__p S T15 := FR.tr hFT14 w183 rfl
                    show Pl _ _ _ _ _ _ [iv z182] _ _
                    have K145 : True := trivial
                    have Y145 : FTO S T15 5 (kr7 (ty7 S) (cR (ty7 S) v5.toNat)) := by have u := f145 y132; rw [pc7_FR hFT14 rfl rfl rfl] at u; rw [k27]; exact u
                    refine y_ireturn rfl (retI_z (by omega)) ?_
                    have w186 : Xi T15 890 3 = Xi T1 890 3 := (show Xi T15 890 3 = Xi T14 890 3 from w183.x _ _ rfl).trans ( (show Xi T14 890 3 = Xi T13 890 3 from w168.x _ _ rfl).trans ((show Xi T13 890 3 = Xi T1 890 3 from w158.x _ _ rfl)))
                    exact ⟨hHT15, hFT15, _, rfl, ⟨by omega, by omega⟩, (by first | (have u := K145; exact ⟨fun q => absurd q (by omega), fun _ => ⟨_, _, _, l27, D6.o, O132.o 0 (by omega), Y145⟩⟩) | exact ⟨fun _ => ⟨_, by have u := D6.o; rw [show v5 = Xi S 890 3 by omega] at u; exact u, R158, x158⟩, fun q => absurd q (by omega)⟩)⟩
                · refine y_iconst rfl ?_
                  refine y_goto rfl rfl ?_
                  have w187 : Xi T13 1 3 = Xi T1 1 3 := (show Xi T13 1 3 = Xi T1 1 3 from w158.x _ _ rfl)
                  have w188 : Xi T13 876 7 = Xi T1 876 7 := (show Xi T13 876 7 = Xi T1 876 7 from w158.x _ _ rfl)
                  have w189 : Xi T13 876 8 = Xi T1 876 8 := (show Xi T13 876 8 = Xi T1 876 8 from w158.x _ _ rfl)
                  have w190 : Xi T13 890 3 = Xi T1 890 3 := (show Xi T13 890 3 = Xi T1 890 3 from w158.x _ _ rfl)
                  refine y_callV rfl rfl rfl (t_re_tellOne__p hHT13 z34 (Xi T13 895 8) (Xi T13 895 9) 1 ⟨by omega, by omega⟩ ⟨by omega, by omega⟩ ⟨by omega, by omega⟩ ⟨by omega, by omega⟩ (by first | assumption | exact (TX_FR w158 rfl (by first | assumption | exact (by assumption : WI T1).2.1 : TX T1))) _) ?_
                  rintro _ T16 ⟨hHT16, w192, z191, rfl, w191, o132, x132⟩
                  have hFT16 : FR md_re_doAdjective__p S T16 := FR.tr hFT13 w192 rfl
                  show Pl _ _ _ _ _ _ [iv z191] _ _
                  have O132 : Hid (∀ y : Int, y = z191 → DA1 md_me_readAdjective__p S T1 T16 (cR (ty7 S) v5.toNat) y at_ to nt) := fun y hy => ⟨_, F102, by have u := o132; rw [o43, n102, q102, ← hy] at u; first | (rw [show (1 - nt : Int) = 1 by omega] at u ⊢; exact u) | (rw [show (1 - nt : Int) = 0 by omega] at u ⊢; exact u)⟩
                  clear o132
                  have G132 := (by assumption : FR md_re_tellOne__p T13 T16)
                  have y132 : Xi T16 876 8 = 0 := (G132.x 876 8 rfl).trans x102
                  refine y_if_ne rfl rfl (by unfold rg; omega) (fun w193 => ?_) (fun w194 => ?_)
                  · refine y_iinc rfl rfl rfl rfl ?_
                    have T149 : Hid (DAC md_me_readAdjective__p S at_ to nt (cR (ty7 S) (v5 + 1).toNat) T16 ∧ TX T16 ∧ (z34 : Int) = fsO S (cR (ty7 S) (v5 + 1).toNat)) := by first | (have u := K102; rw [cR_y (by omega) B27]; exact ⟨⟨_, D6.o, O132.o 1 (by omega)⟩, x132, f74⟩) | (rw [cR_n (by omega) (V21.o.2 (by omega) (by omega))]; exact ⟨D6.o, X6, f6⟩)
                    refine y_goto rfl rfl ?_
                    have w195 : Xi T16 1 3 = Xi T1 1 3 := (show Xi T16 1 3 = Xi T13 1 3 from w192.x _ _ rfl).trans ((show Xi T13 1 3 = Xi T1 1 3 from w158.x _ _ rfl))
                    have w196 : Xi T16 876 7 = Xi T1 876 7 := (show Xi T16 876 7 = Xi T13 876 7 from w192.x _ _ rfl).trans ((show Xi T13 876 7 = Xi T1 876 7 from w158.x _ _ rfl))
                    have w197 : Xi T16 876 8 = Xi T1 876 8 := (show Xi T16 876 8 = Xi T13 876 8 from w192.x _ _ rfl).trans ((show Xi T13 876 8 = Xi T1 876 8 from w158.x _ _ rfl))
                    have w198 : Xi T16 890 3 = Xi T1 890 3 := (show Xi T16 890 3 = Xi T13 890 3 from w192.x _ _ rfl).trans ((show Xi T13 890 3 = Xi T1 890 3 from w158.x _ _ rfl))
                    exact Pl_weak (ih6 (by omega) T16 hHT16 hFT16 (z34) ((v5 + 1)) (by omega) (by omega) (by omega) (by first | exact T149.o.1 | rfl) (by first | exact T149.o.2.1 | exact hX) (by first | exact T149.o.2.2 | rfl) (by omega) (by omega) (by omega)) (by omega) (And.intro rfl (And.intro rfl (And.intro rfl (And.intro rfl (And.intro rfl (And.intro rfl (True.intro)))))))
                  · refine y_aload_n rfl rfl ?_
                    refine y_gfr rfl rfl rfl rfl rfl (hHT16.r 891 0 876 rfl) ?_
                    refine y_iconst rfl ?_
                    refine y_iload rfl rfl ?_
                    have w201 : Xi T16 876 8 = Xi T1 876 8 := (show Xi T16 876 8 = Xi T13 876 8 from w192.x _ _ rfl).trans ((show Xi T13 876 8 = Xi T1 876 8 from w158.x _ _ rfl))
                    have w202 : Xi T16 876 9 = Xi T1 876 9 := (show Xi T16 876 9 = Xi T13 876 9 from w192.x _ _ rfl).trans ((show Xi T13 876 9 = Xi T1 876 9 from w158.x _ _ rfl))
                    refine y_callV rfl rfl rfl (t_to_wrong__p hHT16 5 v5 ⟨by omega, by omega⟩ ⟨by omega, by omega⟩ _) ?_
                    rintro _ T17 ⟨hHT17, w207, z206, rfl, w206, w204, f145, w205⟩
                    have hFT17 : FR md_re_doAdjective__p S T17 := FR.tr hFT16 w207 rfl
                    show Pl _ _ _ _ _ _ [iv z206] _ _
                    have K145 : True := trivial
                    have Y145 : FTO S T17 5 (kr7 (ty7 S) (cR (ty7 S) v5.toNat)) := by have u := f145 y132; rw [pc7_FR hFT16 rfl rfl rfl] at u; rw [k27]; exact u
                    refine y_ireturn rfl (retI_z (by omega)) ?_
                    have w210 : Xi T17 890 3 = Xi T1 890 3 := (show Xi T17 890 3 = Xi T16 890 3 from w207.x _ _ rfl).trans ( (show Xi T16 890 3 = Xi T13 890 3 from w192.x _ _ rfl).trans ((show Xi T13 890 3 = Xi T1 890 3 from w158.x _ _ rfl)))
                    exact ⟨hHT17, hFT17, _, rfl, ⟨by omega, by omega⟩, (by first | (have u := K145; exact ⟨fun q => absurd q (by omega), fun _ => ⟨_, _, _, l27, D6.o, O132.o 0 (by omega), Y145⟩⟩) | exact ⟨fun _ => ⟨_, by have u := D6.o; rw [show v5 = Xi S 890 3 by omega] at u; exact u, R158, x158⟩, fun q => absurd q (by omega)⟩)⟩
              · refine y_iconst rfl ?_
                refine y_goto rfl rfl ?_
                refine y_iconst rfl ?_
                refine y_callV rfl rfl rfl (t_me_readAdjective__p hHT1 (Xi T1 21 ((z34).toNat)) at_ to 1 0 ⟨by omega, by omega⟩ ⟨by omega, by omega⟩ ⟨by omega, by omega⟩ ⟨by omega, by omega⟩ ⟨by omega, by omega⟩ (by first | assumption | omega) (by first | assumption | exact (CEN_FR hFT1 rfl rfl (by assumption : CEN S))) _) ?_
                rintro _ T18 ⟨hHT18, w212, z211, rfl, w211, v102, m102, p102⟩
                have hFT18 : FR md_re_doAdjective__p S T18 := FR.tr hFT1 w212 rfl
                show Pl _ _ _ _ _ _ [iv z211] _ _
                have K102 : True := trivial
                have F102 := (by assumption : FR md_me_readAdjective__p T1 T18)
                have n102 : Xi T18 895 8 = mnV S at_ to % 256 := by have u := m102; rw [mnV_FR hFT1 rfl] at u; exact u
                have q102 : Xi T18 895 9 = rlF S (Xi S 21 (oL S (cR (ty7 S) v5.toNat)).toNat) at_ to (1 - nt) := by have u := p102; rw [rlF_FR hFT1 rfl rfl rfl rfl, h89] at u; first | (rw [show (1 - nt : Int) = 1 by omega]; exact u) | (rw [show (1 - nt : Int) = 0 by omega]; exact u)
                clear v102 m102 p102
                have x102 : Xi T18 876 8 = 0 := (F102.x 876 8 rfl).trans (by omega)
                have X102 : TX T18 := TX_FR F102 rfl X6
                have rb102 := rlF_b (S := S) (k := Xi S 21 (oL S (cR (ty7 S) v5.toNat)).toNat) (a := at_) (b := to) (v := 1 - nt)
                refine y_pop rfl rfl ?_
                refine y_aload_n rfl rfl ?_
                refine y_iload rfl rfl ?_
                refine y_aload_n rfl rfl ?_
                refine y_gfr rfl rfl rfl rfl rfl (hHT18.r 891 4 895 rfl) ?_
                refine y_gfi rfl rfl rfl rfl rfl ?_
                have w213 : -2147483648 ≤ (Xi T18 895 8) ∧ (Xi T18 895 8) ≤ 2147483647 := Xi_rgI
                refine y_aload_n rfl rfl ?_
                refine y_gfr rfl rfl rfl rfl rfl (hHT18.r 891 4 895 rfl) ?_
                refine y_gfi rfl rfl rfl rfl rfl ?_
                have w214 : -2147483648 ≤ (Xi T18 895 9) ∧ (Xi T18 895 9) ≤ 2147483647 := Xi_rgI
                refine y_iload_n rfl rfl ?_
                refine y_if_ne rfl rfl (by unfold rg; omega) (fun w215 => ?_) (fun w216 => ?_)
                · refine y_iconst rfl ?_
                  have w217 : Xi T18 1 3 = Xi T1 1 3 := (show Xi T18 1 3 = Xi T1 1 3 from w212.x _ _ rfl)
                  have w218 : Xi T18 876 7 = Xi T1 876 7 := (show Xi T18 876 7 = Xi T1 876 7 from w212.x _ _ rfl)
                  have w219 : Xi T18 876 8 = Xi T1 876 8 := (show Xi T18 876 8 = Xi T1 876 8 from w212.x _ _ rfl)
                  have w220 : Xi T18 890 3 = Xi T1 890 3 := (show Xi T18 890 3 = Xi T1 890 3 from w212.x _ _ rfl)
                  refine y_callV rfl rfl rfl (t_re_tellOne__p hHT18 z34 (Xi T18 895 8) (Xi T18 895 9) 0 ⟨by omega, by omega⟩ ⟨by omega, by omega⟩ ⟨by omega, by omega⟩ ⟨by omega, by omega⟩ (by first | assumption | exact (TX_FR w212 rfl (by first | assumption | exact (by assumption : WI T1).2.1 : TX T1))) _) ?_
                  rintro _ T19 ⟨hHT19, w222, z221, rfl, w221, o132, x132⟩
                  have hFT19 : FR md_re_doAdjective__p S T19 := FR.tr hFT18 w222 rfl
                  show Pl _ _ _ _ _ _ [iv z221] _ _
                  have O132 : Hid (∀ y : Int, y = z221 → DA1 md_me_readAdjective__p S T1 T19 (cR (ty7 S) v5.toNat) y at_ to nt) := fun y hy => ⟨_, F102, by have u := o132; rw [o43, n102, q102, ← hy] at u; first | (rw [show (1 - nt : Int) = 1 by omega] at u ⊢; exact u) | (rw [show (1 - nt : Int) = 0 by omega] at u ⊢; exact u)⟩
                  clear o132
                  have G132 := (by assumption : FR md_re_tellOne__p T18 T19)
                  have y132 : Xi T19 876 8 = 0 := (G132.x 876 8 rfl).trans x102
                  refine y_if_ne rfl rfl (by unfold rg; omega) (fun w223 => ?_) (fun w224 => ?_)
                  · refine y_iinc rfl rfl rfl rfl ?_
                    have T149 : Hid (DAC md_me_readAdjective__p S at_ to nt (cR (ty7 S) (v5 + 1).toNat) T19 ∧ TX T19 ∧ (z34 : Int) = fsO S (cR (ty7 S) (v5 + 1).toNat)) := by first | (have u := K102; rw [cR_y (by omega) B27]; exact ⟨⟨_, D6.o, O132.o 1 (by omega)⟩, x132, f74⟩) | (rw [cR_n (by omega) (V21.o.2 (by omega) (by omega))]; exact ⟨D6.o, X6, f6⟩)
                    refine y_goto rfl rfl ?_
                    have w225 : Xi T19 1 3 = Xi T1 1 3 := (show Xi T19 1 3 = Xi T18 1 3 from w222.x _ _ rfl).trans ((show Xi T18 1 3 = Xi T1 1 3 from w212.x _ _ rfl))
                    have w226 : Xi T19 876 7 = Xi T1 876 7 := (show Xi T19 876 7 = Xi T18 876 7 from w222.x _ _ rfl).trans ((show Xi T18 876 7 = Xi T1 876 7 from w212.x _ _ rfl))
                    have w227 : Xi T19 876 8 = Xi T1 876 8 := (show Xi T19 876 8 = Xi T18 876 8 from w222.x _ _ rfl).trans ((show Xi T18 876 8 = Xi T1 876 8 from w212.x _ _ rfl))
                    have w228 : Xi T19 890 3 = Xi T1 890 3 := (show Xi T19 890 3 = Xi T18 890 3 from w222.x _ _ rfl).trans ((show Xi T18 890 3 = Xi T1 890 3 from w212.x _ _ rfl))
                    exact Pl_weak (ih6 (by omega) T19 hHT19 hFT19 (z34) ((v5 + 1)) (by omega) (by omega) (by omega) (by first | exact T149.o.1 | rfl) (by first | exact T149.o.2.1 | exact hX) (by first | exact T149.o.2.2 | rfl) (by omega) (by omega) (by omega)) (by omega) (And.intro rfl (And.intro rfl (And.intro rfl (And.intro rfl (And.intro rfl (And.intro rfl (True.intro)))))))
                  · refine y_aload_n rfl rfl ?_
                    refine y_gfr rfl rfl rfl rfl rfl (hHT19.r 891 0 876 rfl) ?_
                    refine y_iconst rfl ?_
                    refine y_iload rfl rfl ?_
                    have w231 : Xi T19 876 8 = Xi T1 876 8 := (show Xi T19 876 8 = Xi T18 876 8 from w222.x _ _ rfl).trans ((show Xi T18 876 8 = Xi T1 876 8 from w212.x _ _ rfl))
                    have w232 : Xi T19 876 9 = Xi T1 876 9 := (show Xi T19 876 9 = Xi T18 876 9 from w222.x _ _ rfl).trans ((show Xi T18 876 9 = Xi T1 876 9 from w212.x _ _ rfl))
                    refine y_callV rfl rfl rfl (t_to_wrong__p hHT19 5 v5 ⟨by omega, by omega⟩ ⟨by omega, by omega⟩ _) ?_
                    rintro _ T20 ⟨hHT20, w237, z236, rfl, w236, w234, f145, w235⟩
                    have hFT20 : FR md_re_doAdjective__p S T20 := FR.tr hFT19 w237 rfl
                    show Pl _ _ _ _ _ _ [iv z236] _ _
                    have K145 : True := trivial
                    have Y145 : FTO S T20 5 (kr7 (ty7 S) (cR (ty7 S) v5.toNat)) := by have u := f145 y132; rw [pc7_FR hFT19 rfl rfl rfl] at u; rw [k27]; exact u
                    refine y_ireturn rfl (retI_z (by omega)) ?_
                    have w240 : Xi T20 890 3 = Xi T1 890 3 := (show Xi T20 890 3 = Xi T19 890 3 from w237.x _ _ rfl).trans ( (show Xi T19 890 3 = Xi T18 890 3 from w222.x _ _ rfl).trans ((show Xi T18 890 3 = Xi T1 890 3 from w212.x _ _ rfl)))
                    exact ⟨hHT20, hFT20, _, rfl, ⟨by omega, by omega⟩, (by first | (have u := K145; exact ⟨fun q => absurd q (by omega), fun _ => ⟨_, _, _, l27, D6.o, O132.o 0 (by omega), Y145⟩⟩) | exact ⟨fun _ => ⟨_, by have u := D6.o; rw [show v5 = Xi S 890 3 by omega] at u; exact u, R158, x158⟩, fun q => absurd q (by omega)⟩)⟩
                · refine y_iconst rfl ?_
                  refine y_goto rfl rfl ?_
                  have w241 : Xi T18 1 3 = Xi T1 1 3 := (show Xi T18 1 3 = Xi T1 1 3 from w212.x _ _ rfl)
                  have w242 : Xi T18 876 7 = Xi T1 876 7 := (show Xi T18 876 7 = Xi T1 876 7 from w212.x _ _ rfl)
                  have w243 : Xi T18 876 8 = Xi T1 876 8 := (show Xi T18 876 8 = Xi T1 876 8 from w212.x _ _ rfl)
                  have w244 : Xi T18 890 3 = Xi T1 890 3 := (show Xi T18 890 3 = Xi T1 890 3 from w212.x _ _ rfl)
                  refine y_callV rfl rfl rfl (t_re_tellOne__p hHT18 z34 (Xi T18 895 8) (Xi T18 895 9) 1 ⟨by omega, by omega⟩ ⟨by omega, by omega⟩ ⟨by omega, by omega⟩ ⟨by omega, by omega⟩ (by first | assumption | exact (TX_FR w212 rfl (by first | assumption | exact (by assumption : WI T1).2.1 : TX T1))) _) ?_
                  rintro _ T21 ⟨hHT21, w246, z245, rfl, w245, o132, x132⟩
                  have hFT21 : FR md_re_doAdjective__p S T21 := FR.tr hFT18 w246 rfl
                  show Pl _ _ _ _ _ _ [iv z245] _ _
                  have O132 : Hid (∀ y : Int, y = z245 → DA1 md_me_readAdjective__p S T1 T21 (cR (ty7 S) v5.toNat) y at_ to nt) := fun y hy => ⟨_, F102, by have u := o132; rw [o43, n102, q102, ← hy] at u; first | (rw [show (1 - nt : Int) = 1 by omega] at u ⊢; exact u) | (rw [show (1 - nt : Int) = 0 by omega] at u ⊢; exact u)⟩
                  clear o132
                  have G132 := (by assumption : FR md_re_tellOne__p T18 T21)
                  have y132 : Xi T21 876 8 = 0 := (G132.x 876 8 rfl).trans x102
                  refine y_if_ne rfl rfl (by unfold rg; omega) (fun w247 => ?_) (fun w248 => ?_)
                  · refine y_iinc rfl rfl rfl rfl ?_
                    have T149 : Hid (DAC md_me_readAdjective__p S at_ to nt (cR (ty7 S) (v5 + 1).toNat) T21 ∧ TX T21 ∧ (z34 : Int) = fsO S (cR (ty7 S) (v5 + 1).toNat)) := by first | (have u := K102; rw [cR_y (by omega) B27]; exact ⟨⟨_, D6.o, O132.o 1 (by omega)⟩, x132, f74⟩) | (rw [cR_n (by omega) (V21.o.2 (by omega) (by omega))]; exact ⟨D6.o, X6, f6⟩)
                    refine y_goto rfl rfl ?_
                    have w249 : Xi T21 1 3 = Xi T1 1 3 := (show Xi T21 1 3 = Xi T18 1 3 from w246.x _ _ rfl).trans ((show Xi T18 1 3 = Xi T1 1 3 from w212.x _ _ rfl))
                    have w250 : Xi T21 876 7 = Xi T1 876 7 := (show Xi T21 876 7 = Xi T18 876 7 from w246.x _ _ rfl).trans ((show Xi T18 876 7 = Xi T1 876 7 from w212.x _ _ rfl))
                    have w251 : Xi T21 876 8 = Xi T1 876 8 := (show Xi T21 876 8 = Xi T18 876 8 from w246.x _ _ rfl).trans ((show Xi T18 876 8 = Xi T1 876 8 from w212.x _ _ rfl))
                    have w252 : Xi T21 890 3 = Xi T1 890 3 := (show Xi T21 890 3 = Xi T18 890 3 from w246.x _ _ rfl).trans ((show Xi T18 890 3 = Xi T1 890 3 from w212.x _ _ rfl))
                    exact Pl_weak (ih6 (by omega) T21 hHT21 hFT21 (z34) ((v5 + 1)) (by omega) (by omega) (by omega) (by first | exact T149.o.1 | rfl) (by first | exact T149.o.2.1 | exact hX) (by first | exact T149.o.2.2 | rfl) (by omega) (by omega) (by omega)) (by omega) (And.intro rfl (And.intro rfl (And.intro rfl (And.intro rfl (And.intro rfl (And.intro rfl (True.intro)))))))
                  · refine y_aload_n rfl rfl ?_
                    refine y_gfr rfl rfl rfl rfl rfl (hHT21.r 891 0 876 rfl) ?_
                    refine y_iconst rfl ?_
                    refine y_iload rfl rfl ?_
                    have w255 : Xi T21 876 8 = Xi T1 876 8 := (show Xi T21 876 8 = Xi T18 876 8 from w246.x _ _ rfl).trans ((show Xi T18 876 8 = Xi T1 876 8 from w212.x _ _ rfl))
                    have w256 : Xi T21 876 9 = Xi T1 876 9 := (show Xi T21 876 9 = Xi T18 876 9 from w246.x _ _ rfl).trans ((show Xi T18 876 9 = Xi T1 876 9 from w212.x _ _ rfl))
                    refine y_callV rfl rfl rfl (t_to_wrong__p hHT21 5 v5 ⟨by omega, by omega⟩ ⟨by omega, by omega⟩ _) ?_
                    rintro _ T22 ⟨hHT22, w261, z260, rfl, w260, w258, f145, w259⟩
                    have hFT22 : FR md_re_doAdjective__p S T22 := FR.tr hFT21 w261 rfl
                    show Pl _ _ _ _ _ _ [iv z260] _ _
                    have K145 : True := trivial
                    have Y145 : FTO S T22 5 (kr7 (ty7 S) (cR (ty7 S) v5.toNat)) := by have u := f145 y132; rw [pc7_FR hFT21 rfl rfl rfl] at u; rw [k27]; exact u
                    refine y_ireturn rfl (retI_z (by omega)) ?_
                    have w264 : Xi T22 890 3 = Xi T1 890 3 := (show Xi T22 890 3 = Xi T21 890 3 from w261.x _ _ rfl).trans ( (show Xi T21 890 3 = Xi T18 890 3 from w246.x _ _ rfl).trans ((show Xi T18 890 3 = Xi T1 890 3 from w212.x _ _ rfl)))
                    exact ⟨hHT22, hFT22, _, rfl, ⟨by omega, by omega⟩, (by first | (have u := K145; exact ⟨fun q => absurd q (by omega), fun _ => ⟨_, _, _, l27, D6.o, O132.o 0 (by omega), Y145⟩⟩) | exact ⟨fun _ => ⟨_, by have u := D6.o; rw [show v5 = Xi S 890 3 by omega] at u; exact u, R158, x158⟩, fun q => absurd q (by omega)⟩)⟩
          · exfalso; omega
  refine y_iconst rfl ?_
  refine y_istore rfl rfl rfl ?_
  refine y_iconst rfl ?_
  refine y_istore rfl rfl rfl ?_
  exact Pl_weak (C6 fu (by omega) S hH hF ((-1)) (0) (by omega) (by omega) (by omega) (by first | exact T149.o.1 | rfl) (by first | exact T149.o.2.1 | exact hX) (by first | exact T149.o.2.2 | rfl) (by omega) (by omega) (by omega)) (by omega) (And.intro rfl (And.intro rfl (And.intro rfl (And.intro rfl (And.intro rfl (And.intro rfl (True.intro)))))))
end
section
/-! 0: a text by itself (class) -/
def TDE (S S1 : sS) (z : Int) : Prop :=
  (Xi S 891 10 = -1 → z = 0 ∧ FTO S S1 4 0) ∧
  (Xi S 891 10 ≠ -1 → ∃ (A : sS) (y : Int), TPC S A y (Xi S 891 10) 0 (pc7 S 0 + 1) (Xj S 879 0) ∧ (y = 1 → z = 1 ∧ S1 = A) ∧ (y ≠ 1 → z = 0 ∧ FTO S S1 5 0))

def md_re_describe__p : List rec := [(66, 106, 0, 100000), (107, 147, 0, 100000), (148, 188, 0, 100000), (876, 877, 8, 9), (876, 877, 9, 10)]
abbrev Q_re_describe__p (S : sS) : pst := fun r S1 => RI S1 ∧ FR md_re_describe__p S S1 ∧ (∃ z : Int, r = some (iv z) ∧ (0 ≤ z ∧ z ≤ 1) ∧ (TDE S S1 z))
set_option maxRecDepth 100000 in
theorem t_re_describe__p {S : sS} (hH : RI S) (h13 : 0 ≤ Xi S 1 3 ∧ Xi S 1 3 ≤ 200) (hCE : CEN S) (hT : TOK S) (hS : SRX S) (hr : Xi S 876 7 ≤ 5130) (hf : Xi S 876 8 = 0) (hX : TX S) (hpl : Hid (∀ j : Nat, 0 ≤ Xi S 878 j)) (h5 : Xi S 876 5 ≤ 5000) (hs : -1 ≤ Xi S 891 10 ∧ Xi S 891 10 ≤ 23) (h0 : Xi S 877 (0 : Int).toNat = 102 ∧ 0 < Xi S 876 7) (d : Nat) : Mp lay0 (d + 3) m_re_describe [.ref 891] S (Q_re_describe__p S) := by
  refine Mp_R rfl rfl (fun fu => ?_)
  have hF : FR md_re_describe__p S S := FR.rf
  have w1 : -2147483648 ≤ Xi S 1 3 ∧ Xi S 1 3 ≤ 2147483647 := Xi_rgI
  have w2 : -2147483648 ≤ Xi S 876 5 ∧ Xi S 876 5 ≤ 2147483647 := Xi_rgI
  have w3 : -2147483648 ≤ Xi S 876 7 ∧ Xi S 876 7 ≤ 2147483647 := Xi_rgI
  have w4 : -2147483648 ≤ Xi S 876 8 ∧ Xi S 876 8 ≤ 2147483647 := Xi_rgI
  have w5 : -2147483648 ≤ Xi S 891 10 ∧ Xi S 891 10 ≤ 2147483647 := Xi_rgI
  have htk := hT 0 (by omega) h0.1
  have e78 : Xi S 878 (0 : Int).toNat = Xi S 878 0 := rfl
  have e79 : Xj S 879 (0 : Int).toNat = Xj S 879 0 := rfl
  have l0 := hpl.o 0
  have p0 : pc7 S 0 = Xi S 878 0 := by unfold pc7; rw [if_pos (by omega)]; rfl
  refine y_aload_n rfl rfl ?_
  refine y_gfi rfl rfl rfl rfl rfl ?_
  refine y_iconst rfl ?_
  refine y_icmp_ne rfl rfl (by unfold rg; omega) (by unfold rg; omega) (fun w6 => ?_) (fun w7 => ?_)
  · refine y_aload_n rfl rfl ?_
    refine y_gfr rfl rfl rfl rfl rfl (hH.r 891 3 20 rfl) ?_
    refine y_aload_n rfl rfl ?_
    refine y_gfi rfl rfl rfl rfl rfl ?_
    refine y_iconst rfl ?_
    refine y_aload_n rfl rfl ?_
    refine y_gfr rfl rfl rfl rfl rfl (hH.r 891 0 876 rfl) ?_
    refine y_iconst rfl ?_
    refine y_callV rfl rfl rfl (t_to_placeAt__p hH 0 ⟨by omega, by omega⟩ _) ?_
    rintro _ _ ⟨rfl, z8, rfl, w8, q32⟩
    show Pl _ _ _ _ _ _ [iv z8, iv 0, iv (Xi S 891 10), .ref 20] _ _
    refine y_iconst rfl ?_
    refine y_iadd rfl ?_
    refine y_aload_n rfl rfl ?_
    refine y_gfr rfl rfl rfl rfl rfl (hH.r 891 0 876 rfl) ?_
    refine y_iconst rfl ?_
    refine y_callV rfl rfl rfl (t_to_valueAt__p hH 0 ⟨by omega, by omega⟩ _) ?_
    rintro _ _ ⟨rfl, z9, rfl, w9, p42⟩
    show Pl _ _ _ _ _ _ [iv z9, iv (z8 + 1), iv 0, iv (Xi S 891 10), .ref 20] _ _
    have v42 : z9 = Xj S 879 0 := p42 (by omega) (by omega) (by omega) (by omega)
    refine y_callV rfl rfl rfl (t_wo_tellProperty__p hH (Xi S 891 10) 0 (z8 + 1) z9 ⟨by omega, by omega⟩ ⟨by omega, by omega⟩ ⟨by omega, by omega⟩ ⟨by omega, by omega⟩ (by first | assumption | exact (by first | assumption | exact (by assumption : WI S).2.1 : TX S)) (tx_mk hS (by omega) (by omega)) _) ?_
    rintro _ T1 ⟨hHT1, w11, z10, rfl, w10, o45⟩
    have hFT1 : FR md_re_describe__p S T1 := FR.tr hF w11 rfl
    show Pl _ _ _ _ _ _ [iv z10] _ _
    have K45 : True := trivial
    have O45 : TPC S T1 z10 (Xi S 891 10) 0 (pc7 S 0 + 1) (Xj S 879 0) := by have u := o45; rw [q32, v42] at u; exact u
    have G45 := (by assumption : FR md_wo_tellProperty__p S T1)
    refine y_if_ne rfl rfl (by unfold rg; omega) (fun w12 => ?_) (fun w13 => ?_)
    · refine y_iconst rfl ?_
      refine y_goto rfl rfl ?_
      refine y_ireturn rfl rfl ?_
      exact ⟨hHT1, hFT1, _, rfl, ⟨by omega, by omega⟩, (by first | (have u := K57; exact ⟨fun q => absurd q (by omega), fun _ => ⟨_, _, O45, fun q => absurd q (by omega), fun _ => ⟨by omega, Y57⟩⟩⟩) | (have u := K45; exact ⟨fun q => absurd q (by omega), fun _ => ⟨_, _, O45, fun _ => ⟨by omega, rfl⟩, fun q => absurd (by omega) q⟩⟩) | exact ⟨fun _ => ⟨by omega, f14 hf⟩, fun q => absurd (by omega) q⟩)⟩
    · refine y_aload_n rfl rfl ?_
      refine y_gfr rfl rfl rfl rfl rfl (hHT1.r 891 0 876 rfl) ?_
      refine y_iconst rfl ?_
      refine y_iconst rfl ?_
      have w19 : Xi T1 876 8 = Xi S 876 8 := (show Xi T1 876 8 = Xi S 876 8 from w11.x _ _ rfl)
      have w20 : Xi T1 876 9 = Xi S 876 9 := (show Xi T1 876 9 = Xi S 876 9 from w11.x _ _ rfl)
      refine y_callV rfl rfl rfl (t_to_wrong__p hHT1 5 0 ⟨by omega, by omega⟩ ⟨by omega, by omega⟩ _) ?_
      rintro _ T2 ⟨hHT2, w24, z23, rfl, w23, w21, f57, w22⟩
      have hFT2 : FR md_re_describe__p S T2 := FR.tr hFT1 w24 rfl
      show Pl _ _ _ _ _ _ [iv z23] _ _
      have K57 : True := trivial
      have Y57 : FTO S T2 5 0 := by have u := f57 ((G45.x 876 8 rfl).trans hf); rw [pc7_FR G45 rfl rfl rfl] at u; exact u
      refine y_if_eq rfl rfl (by unfold rg; omega) (fun w25 => ?_) (fun w26 => ?_)
      · refine y_iconst rfl ?_
        refine y_ireturn rfl rfl ?_
        exact ⟨hHT2, hFT2, _, rfl, ⟨by omega, by omega⟩, (by first | (have u := K57; exact ⟨fun q => absurd q (by omega), fun _ => ⟨_, _, O45, fun q => absurd q (by omega), fun _ => ⟨by omega, Y57⟩⟩⟩) | (have u := K45; exact ⟨fun q => absurd q (by omega), fun _ => ⟨_, _, O45, fun _ => ⟨by omega, rfl⟩, fun q => absurd (by omega) q⟩⟩) | exact ⟨fun _ => ⟨by omega, f14 hf⟩, fun q => absurd (by omega) q⟩)⟩
      · refine y_iconst rfl ?_
        refine y_goto rfl rfl ?_
        refine y_ireturn rfl rfl ?_
        exact ⟨hHT2, hFT2, _, rfl, ⟨by omega, by omega⟩, (by first | (have u := K57; exact ⟨fun q => absurd q (by omega), fun _ => ⟨_, _, O45, fun q => absurd q (by omega), fun _ => ⟨by omega, Y57⟩⟩⟩) | (have u := K45; exact ⟨fun q => absurd q (by omega), fun _ => ⟨_, _, O45, fun _ => ⟨by omega, rfl⟩, fun q => absurd (by omega) q⟩⟩) | exact ⟨fun _ => ⟨by omega, f14 hf⟩, fun q => absurd (by omega) q⟩)⟩
  · refine y_aload_n rfl rfl ?_
    refine y_gfr rfl rfl rfl rfl rfl (hH.r 891 0 876 rfl) ?_
    refine y_iconst rfl ?_
    refine y_iconst rfl ?_
    refine y_callV rfl rfl rfl (t_to_wrong__p hH 4 0 ⟨by omega, by omega⟩ ⟨by omega, by omega⟩ _) ?_
    rintro _ T3 ⟨hHT3, w34, z33, rfl, w33, w31, f14, w32⟩
    have hFT3 : FR md_re_describe__p S T3 := FR.tr hF w34 rfl
    show Pl _ _ _ _ _ _ [iv z33] _ _
    refine y_ireturn rfl (retI_z (by omega)) ?_
    exact ⟨hHT3, hFT3, _, rfl, ⟨by omega, by omega⟩, (by first | (have u := K57; exact ⟨fun q => absurd q (by omega), fun _ => ⟨_, _, O45, fun q => absurd q (by omega), fun _ => ⟨by omega, Y57⟩⟩⟩) | (have u := K45; exact ⟨fun q => absurd q (by omega), fun _ => ⟨_, _, O45, fun _ => ⟨by omega, rfl⟩, fun q => absurd (by omega) q⟩⟩) | exact ⟨fun _ => ⟨by omega, f14 hf⟩, fun q => absurd (by omega) q⟩)⟩
end
