section
/-! class and reference: 10 keeps the relation -/
theorem adv_0 {U S : sS} {c : Nat} {r b : Int} (h : ∀ a : Nat, a < 24 → Xi U (25 + r.toNat) a = 0) (k : ∀ a : Nat, a < 24 → Xi S c (b + a).toNat = 0) : ADV U S c r b := fun a ha => Or.inr (Or.inr ⟨h a ha, k a ha⟩)
theorem pvr_0 {U S : sS} {c : Nat} {r p k : Int} (h : Xi U (66 + r.toNat) p.toNat = 0) (e : Xi S c k.toNat = 0) : PVR U S c r p k := ⟨⟨fun _ => e, fun _ => h⟩, fun q => absurd e q⟩
theorem st_10 {U U1 S T S1 : sS} {f : Nat} {z : Int} (h : RLW U S) (t3 : TX3 U) (sc : SCX U S f) (l : LRN U S f (Xi S 904 71) (nL U)) (n72 : (Xi S 904 72).toNat = nL U) (hs : Xi S 904 70 = 10) (k1 : tyB U = 1 ↔ Xi S 904 78 = -2) (k2 : ofB U = 1 → tyB U = 0 → Xi S 904 78 ≠ -1 ∧ RNR U S f (Xi S 904 78) (r10 U) (re7 (ty7 U) (r10 U))) (k3 : ofB U = 0 → Xi S 904 78 = -1) (hn : Xi U 891 9 = 0) (zf : z = 0 → Xi U1 876 8 ≠ 0) (tc : TKN U U1 z) (Fc : FR md_re_tellKinds__p U U1) (rc : RKD S (Xi S 904 71) (cK S) (mK S) (Xi S 904 72).toNat (wK S) (NT3 T)) (Fa : FR md_mo_asked__10f S T) (rd : (NT3 T).1 = 0 → RD10 T S1 ∧ FR md_mo_does__10f T S1) : STP U1 T S1 := by
  have c0 := h.2.2.1.1
  have c1 := h.2.2.1.2.1
  have hx := h.1.2.2.2.1
  have h15 : 0 ≤ Xi S 904 15 := by have := h.1.1.1; omega
  refine stp_1 (kn_same (scx_s sc h.1) l hx h15 n72 hs c0.1 c1.1 k1 k2 k3 tc rc) zf (fun x0 => ?_)
  obtain ⟨rd, Fd⟩ := rd x0
  refine ⟨nt_k (ks := []) (fs := [(904, 106)]) (Fd.kep rfl) (by decide) x0, fun hz => ?_⟩
  have ok := lst_dec tc.1 hz
  have na : ab10 U ≠ -1 := fun q => by have := (tc.2.1 ok q).1; omega
  obtain ⟨_, _, ⟨B, tn, tp⟩, cn, cc, kn⟩ := tc.2.2 ok na
  have hT : RLW U T := h.k t3 KEP.rf (Fa.kep rfl)
  have sT := sc.kS (Fa.kep rfl : KEP [(907, 911)] [] S T)
  have bT : KEP [(950, 952)] [] S T := Fa.kep rfl
  obtain ⟨h1, h2, h3, h4, h5, h6, h7, h8, h9, h10, h11, h12, h13, h14, h15x⟩ := hT
  have hxT := h1.2.2.2.1
  have h15T : 0 ≤ Xi T 904 15 := by have := h1.1.1; omega
  have rT := scx_s sT h1
  have l := l.kS bT
  obtain ⟨⟨B1, tl, tr⟩, kr⟩ := rd
  have f71 : Xi T 904 71 = Xi S 904 71 := Fa.x 904 71 rfl
  have f72 : Xi T 904 72 = Xi S 904 72 := Fa.x 904 72 rfl
  have f78 : Xi T 904 78 = Xi S 904 78 := Fa.x 904 78 rfl
  have ty01 : tyB U = 0 ∨ tyB U = 1 := by unfold tyB; by_cases q : ty7 U (Xi U 890 3 + 3) = 7 ∧ ty7 U (Xi U 890 3 + 4) = 20 <;> simp [q]
  have ei : iT T = tyB U := by
    unfold iT
    rw [f78]
    rcases ty01 with q | q
    · rw [if_neg (fun y => by have := k1.2 y; omega), q]
    · rw [if_pos (k1.1 q), q]
  have ec : cKR T = c10 U := by
    unfold cKR c10
    rw [f78]
    rcases ty01 with q | q
    · rw [if_neg (fun y => by have := k1.2 y; omega), q]; exact h3.1.1.symm
    · rw [if_pos (k1.1 q), q]; exact h3.2.1.1.symm
  rw [f72, n72, ei, ec, f71] at tl tr
  rw [f72, n72] at kr
  have d0 := h3.1
  have d1 := h3.2.1
  rcases ty01 with q | q
  · unfold c10 at tn tp cn ok tl tr
    rw [q] at tn tp cn cc ok tl tr
    have ok : LOK U (Xi U 5 0) 16 (nL U) := ok
    have tn : TNL U 0 (Xi U 5 0) (nL U) B := tn
    have tp : TPS U 11 (Xi U 5 0) B (nL U) U1 := tp
    have cn : Xi U1 5 0 = Xi U 5 0 + (nL U : Nat) := cn
    have cc : ∀ j, j ≠ 0 → Xi U1 5 j = Xi U 5 j := cc
    have tl : TLL T 0 (Xi U 5 0) (Xi S 904 71) (nL U) B1 := tl
    have tr : TPR T 1 (Xi U 5 0) (Xi S 904 71) B1 (nL U) S1 := tr
    have cl := cnt_le cn (by omega) cc
    have nb : Xi U 5 0 + (nL U : Nat) ≤ 16 := by
      by_cases q : nL U = 0
      · rw [q]; omega
      · have t := (ok (nL U - 1) (by omega)).2; omega
    have lf := rvo_list h1 sT l (fun i hi => (ok i hi).1) (so := 0) (rs := 0) (c := Xi U 5 0) (fun w hw => frs_s h2 (by omega) hw) (by decide) (by omega) (by omega) (nL U) B B1 (Nat.le_refl _) tn tl
    obtain ⟨f1, f2, f2b, f3, f4, f5, f6⟩ := lf
    have pf := rvo_plur f1 sT l (fun i hi => (ok i hi).1) (so := 11) (rs := 1) (c := Xi U 5 0) (fun w hw => f2b 11 w (by decide) (whc_fr h2 (show Xi U 5 0 ≤ w from hw))) (by decide) (by omega) (by omega) (by omega) (fun i hi => by obtain ⟨j, j1, j2, j3⟩ := f6 i hi; exact ⟨j, j1, j2, by omega⟩) (fun i hi lg => by
      have k := l i hi
      have n3 := (ok i hi).1.2.1
      have no := noe_run h1.2.2.1 h1.1.1.2 k sT.2 n3 (ok i hi).1.1
      refine f3 _ _ _ (fun j hj m => ?_) (fun j hj e => ?_)
      · obtain ⟨v, v1, v2, _⟩ := lw_base sT k n3 lg h1.2.2.2.2 hj m
        exact no v v1 v2
      · have kj := l j hj
        have wj := scx_w sT kj.2.2.2.2.2
        obtain ⟨q1, _, _, _, q5, _, q7⟩ := wds_p sT k n3
        have g := q7 lg
        have s0 := wrw_lt wj 0 (by omega)
        have s1 := wrw_lt wj 1 (by omega)
        have s2 := wrw_lt wj 2 (by omega)
        have hk := k.2.1
        have n : re7 (ty7 U) (kr7 (ty7 U) i) - kr7 (ty7 U) i = 1 ∨ re7 (ty7 U) (kr7 (ty7 U) i) - kr7 (ty7 U) i = 2 ∨ re7 (ty7 U) (kr7 (ty7 U) i) - kr7 (ty7 U) i = 3 := by omega
        rcases n with n | n | n
        · rw [n] at q5 g
          rw [e.1] at s0
          have q5 : wSp U (kr7 (ty7 U) i) (re7 (ty7 U) (kr7 (ty7 U) i)) 0 = wRw U 879 (kr7 (ty7 U) i) (re7 (ty7 U) (kr7 (ty7 U) i)) 0 * 27 + 19 := q5
          have g : 5559060566555523 ≤ wRw U 879 (kr7 (ty7 U) i) (re7 (ty7 U) (kr7 (ty7 U) i)) 0 := g
          omega
        · rw [n] at q5 g
          rw [e.2.1] at s1
          have q5 : wSp U (kr7 (ty7 U) i) (re7 (ty7 U) (kr7 (ty7 U) i)) 1 = wRw U 879 (kr7 (ty7 U) i) (re7 (ty7 U) (kr7 (ty7 U) i)) 1 * 27 + 19 := q5
          have g : 5559060566555523 ≤ wRw U 879 (kr7 (ty7 U) i) (re7 (ty7 U) (kr7 (ty7 U) i)) 1 := g
          omega
        · rw [n] at q5 g
          rw [e.2.2] at s2
          have q5 : wSp U (kr7 (ty7 U) i) (re7 (ty7 U) (kr7 (ty7 U) i)) 2 = wRw U 879 (kr7 (ty7 U) i) (re7 (ty7 U) (kr7 (ty7 U) i)) 2 * 27 + 19 := q5
          have g : 5559060566555523 ≤ wRw U 879 (kr7 (ty7 U) i) (re7 (ty7 U) (kr7 (ty7 U) i)) 2 := g
          omega) (nL U) U1 S1 (Nat.le_refl _) tp tr
    have c1 : wcU U1 0 = Xi U 5 0 + (nL U : Nat) := cn
    have c2 : wcU U1 11 = Xi U 5 0 + (nL U : Nat) := cn
    have wh : WHC U1 := pf.2.2.2.2 (wcU U1) (f5 (wcU U1) (whg_of h2 cl) (fun i hi => by rw [c1]; omega)) (fun i hi => by rw [c2]; omega)
    obtain ⟨a6, a7⟩ := kn.1 q
    obtain ⟨⟨r18, r0⟩, a17, z29, z33, z26⟩ := kr.2 (by rw [ei]; exact q)
    have e16 : Xi T 904 16 = Xi U 5 0 := d0.1.symm
    rw [e16] at r0 a17 z29 z33 z26
    have a6 : ARN U U1 6 (Xi U 5 0) (ab10 U) (nL U) := by unfold c10 at a6; rw [q] at a6; exact a6
    have a7 : ARN U U1 7 (Xi U 5 0) 0 (nL U) := by unfold c10 at a7; rw [q] at a7; exact a7
    have pa : pa10 T = ab10 U ∧ 0 ≤ ab10 U ∧ ab10 U < Xi U 5 0 := by
      unfold pa10
      rw [f78]
      by_cases w : ofB U = 1
      · obtain ⟨w1, w2⟩ := k2 w q
        have fk : fnd U 0 (r10 U) (re7 (ty7 U) (r10 U)) = rnR T (Xi S 904 78) 0 := rn_fnd (s := 0) rT (w2.kS bT) hxT h15T (by omega)
        have ek : ab10 U = fnd U 0 (r10 U) (re7 (ty7 U) (r10 U)) := by unfold ab10; rw [if_pos ⟨w, q⟩]
        have kl : 0 ≤ fnd U 0 (r10 U) (re7 (ty7 U) (r10 U)) ∧ fnd U 0 (r10 U) (re7 (ty7 U) (r10 U)) < Xi U 5 0 := fnd_wc (by omega) h1.2.2.1 h2 (by rw [← ek]; exact na)
        rw [if_neg (fun y => by rcases y with y | y; (have := k1.2 y; omega); exact w1 y), ← fk, ek]
        exact ⟨rfl, kl⟩
      · have ek : ab10 U = 0 := by unfold ab10; rw [if_neg (fun y => w y.1)]
        have w0 : ofB U = 0 := by unfold ofB at w ⊢; by_cases y : ty7 U (Xi U 890 3 + 3) = 7 <;> simp [y] at w ⊢
        rw [if_pos (Or.inr (k3 w0)), ek]
        exact ⟨rfl, by omega, by omega⟩
    have zk : ∀ {k m : Nat} {c : Int}, ZRO T S1 k (m * Xi U 5 0) (m * (nL U : Nat)) → ∀ x y : Nat, y < m → ((x : Int) < Xi U 5 0 → Xi S1 k (m * x + y) = Xi T k (m * x + y)) ∧ (Xi U 5 0 ≤ (x : Int) → (x : Int) < Xi U 5 0 + (nL U : Nat) → Xi S1 k (m * x + y) = 0) := fun {k m c} zz x y hy => by
      obtain ⟨za, zb⟩ := zz (m * x + y)
      obtain ⟨w, ew⟩ : ∃ w : Nat, (w : Int) = Xi U 5 0 := ⟨(Xi U 5 0).toNat, by omega⟩
      rw [← ew] at za zb ⊢
      refine ⟨fun g => zb (fun c => ?_), fun g1 g2 => za ⟨?_, ?_⟩⟩
      · have c1 := c.1
        have g : x + 1 ≤ w := by omega
        have t := Nat.mul_le_mul_left m g
        rw [Nat.mul_add, Nat.mul_one] at t
        have u : ((m * w : Nat) : Int) ≤ ((m * x + y : Nat) : Int) := by push_cast; push_cast at c1; exact c1
        omega
      · have g : w ≤ x := by omega
        have t := Nat.mul_le_mul_left m g
        have u : ((m * w : Nat) : Int) ≤ ((m * x + y : Nat) : Int) := by omega
        push_cast at u ⊢
        exact u
      · have g : x + 1 ≤ w + nL U := by omega
        have t := Nat.mul_le_mul_left m g
        rw [Nat.mul_add, Nat.mul_one, Nat.mul_add] at t
        have u : ((m * x + y : Nat) : Int) < ((m * w + m * nL U : Nat) : Int) := by omega
        push_cast at u ⊢
        exact u
    have z29 := zk (c := 0) (m := 12) z29
    have z33 := zk (c := 0) (m := 12) z33
    have z26 := zk (c := 0) (m := 24) z26
    have ix : ∀ x : Nat, Xi U 5 0 ≤ (x : Int) → (x : Int) < Xi U 5 0 + (nL U : Nat) → x - (Xi U 5 0).toNat < nL U ∧ (Xi U 5 0 + ((x - (Xi U 5 0).toNat : Nat) : Int)).toNat = x := fun x g1 g2 => ⟨by omega, by omega⟩
    refine ⟨pf.1, wh, ?_, ?_, ?_, h6.k (cc 3 (by omega)) (cl 0) (Fc.kep rfl) (Fd.kep rfl), h7.k (cc 6 (by omega)) (cl 0) (Fc.kep rfl) (Fd.kep rfl), h8.k (cl 2) (Fc.kep rfl) (Fd.kep rfl), h9.k (cc 7 (by omega)) (cc 8 (by omega)) (cl 6) (cl 0) (Fc.kep rfl) (Fd.kep rfl), h10.k (cc 2 (by omega)) (cl 0) (Fc.kep rfl) (Fd.kep rfl), h11.k (cc 2 (by omega)) (Fc.kep rfl), ?_, ?_, h14.k h3 (cl 2) (Fc.kep rfl) (Fd.kep rfl), h15x.k (cl 2) (Fc.kep rfl) (Fd.kep rfl)⟩
    · obtain ⟨d0, d1, d2, d3, d4, d5, d6, d7, d8⟩ := h3
      have s5 : ∀ j, j ∈ [19, 23, 30, 32, 41, 47, 49] → Xi S1 904 j = Xi T 904 j := fun j hj => (Fd.kep rfl : KEP [] [(904, 19), (904, 23), (904, 30), (904, 32), (904, 41), (904, 47), (904, 49)] T S1).f 904 j (by revert hj; simp)
      unfold RCT
      rw [cn, r0, r18, cc 1 (by omega), cc 2 (by omega), cc 3 (by omega), cc 4 (by omega), cc 5 (by omega), cc 6 (by omega), cc 7 (by omega), cc 8 (by omega), s5 19 (by decide), s5 23 (by decide), s5 30 (by decide), s5 32 (by decide), s5 41 (by decide), s5 47 (by decide), s5 49 (by decide)]
      exact ⟨by omega, d1, d2, d3, d4, d5, d6, d7, d8⟩
    · refine ⟨by have e := cn; omega, fun x hx => ?_⟩
      rw [cn] at hx
      by_cases g : (x : Int) < Xi U 5 0
      · obtain ⟨y1, y2, y3⟩ := h4.2 x g
        rw [a6.2 x g, a7.2 x g, a17.2 x g]
        refine ⟨y1, y2, fun p p0 p1 => ?_⟩
        have t := (z29 x p.toNat (by omega)).1 g
        rw [show (12 * (x : Int) + p).toNat = 12 * x + p.toNat by omega, t, show 12 * x + p.toNat = (12 * (x : Int) + p).toNat by omega]
        exact y3 p p0 p1
      · obtain ⟨i1, i2⟩ := ix x (by omega) hx
        have b1 := a6.1 _ i1
        have b2 := a7.1 _ i1
        have b3 := a17.1 _ i1
        rw [i2] at b1 b2 b3
        rw [b1, b2, b3, pa.1]
        refine ⟨rfl, by omega, fun p p0 p1 => ?_⟩
        have t := (z29 x p.toNat (by omega)).2 (by omega) hx
        rw [show (12 * (x : Int) + p).toNat = 12 * x + p.toNat by omega, t, gb_0]
        exact ⟨fun y => absurd y (by decide), fun y => absurd rfl y⟩
    · obtain ⟨u1, u2, u3, u4⟩ := h5
      have v8 : ∀ j, Xi U1 8 j = Xi U 8 j := (Fc.kep rfl : KEP [(8, 10)] [] U U1).x 8 rfl
      have v9 : ∀ j, Xi U1 9 j = Xi U 9 j := (Fc.kep rfl : KEP [(8, 10)] [] U U1).x 9 rfl
      have v7 : ∀ j, Xi S1 927 j = Xi T 927 j := (Fd.kep rfl : KEP [(927, 929)] [] T S1).x 927 rfl
      have v2 : ∀ j, Xi S1 928 j = Xi T 928 j := (Fd.kep rfl : KEP [(927, 929)] [] T S1).x 928 rfl
      refine ⟨?_, ?_, ?_, ?_⟩
      · rw [cc 4 (by omega), cc 1 (by omega)]; simp only [v8, v7]; exact u1
      · rw [cc 5 (by omega), cc 1 (by omega)]; simp only [v9, v2]; exact u2
      · rw [cc 5 (by omega)]
        intro x p hx hp w
        rw [cn] at hx
        by_cases g : (x : Int) < Xi U 5 0
        · rw [(z29 x p hp).1 g] at w; exact u3 x p g hp w
        · exact absurd ((z29 x p hp).2 (by omega) hx) w
      · unfold vals; rw [cc 4 (by omega)]; simp only [valn_k v8]; exact u4
    · obtain ⟨u1, u2, u3, u4⟩ := h12
      have uc : ∀ k j : Nat, k < 40 → Xi U1 (25 + k) j = Xi U (25 + k) j := fun k j hk => (Fc.kep rfl : KEP [(25, 65)] [] U U1).x (25 + k) (by unfold inK; simp; omega) j
      have s5 : ∀ j, Xi S1 925 j = Xi T 925 j := (Fd.kep rfl : KEP [(925, 926)] [] T S1).x 925 rfl
      have d2 := h3.2.2.1
      refine ⟨fun o ho => ?_, fun k hk => ?_, fun o h0 ho x hx => ?_, fun k h0 hk x hx => ?_⟩
      · rw [cc 2 (by omega)] at ho
        exact (u1 o ho).k (fun j => uc _ j (by omega)) s5
      · rw [cn] at hk
        by_cases g : (k : Int) < Xi U 5 0
        · intro a ha
          have t := u2 k g a ha
          have w := (z26 k a ha).1 g
          rw [uc _ _ (by omega), show (24 * (k : Int) + a).toNat = 24 * k + a by omega, w, show 24 * k + a = (24 * (k : Int) + a).toNat by omega]
          exact t
        · refine adv_0 (fun a ha => ?_) (fun a ha => ?_)
          · rw [uc _ _ (by omega), show 25 + (24 + (k : Int)).toNat = 49 + k by omega]
            exact u4 k (by omega) (by omega) a ha
          · rw [show (24 * (k : Int) + a).toNat = 24 * k + a by omega]
            exact (z26 k a ha).2 (by omega) hk
      · rw [cc 2 (by omega)] at ho
        rw [uc o x (by omega)]; exact u3 o h0 ho x hx
      · rw [cn] at hk
        have t := uc (24 + k) x (by omega)
        rw [show 25 + (24 + k) = 49 + k by omega] at t
        rw [t]; exact u4 k h0 (by omega) x hx
    · obtain ⟨u1, u2, u3, u4⟩ := h13
      have a : KEP [(66, 106), (107, 147), (148, 188), (245, 246), (902, 904)] [(20, 1)] U U1 := Fc.kep rfl
      have b : KEP [(906, 907), (928, 929), (930, 933), (934, 936)] [] T S1 := Fd.kep rfl
      have tx := txr_k a (by decide)
      have ta := tx_k t3 a rfl rfl rfl
      have v1 : ∀ k j : Nat, k < 40 → Xi U1 (66 + k) j = Xi U (66 + k) j := fun k j hk => a.x (66 + k) (by unfold inK; simp; omega) j
      have v2 : ∀ k j : Nat, k < 40 → Xi U1 (107 + k) j = Xi U (107 + k) j := fun k j hk => a.x (107 + k) (by unfold inK; simp; omega) j
      have v3 : ∀ k j : Nat, k < 40 → Xi U1 (148 + k) j = Xi U (148 + k) j := fun k j hk => a.x (148 + k) (by unfold inK; simp; omega) j
      have d2 := h3.2.2.1
      refine ⟨fun o p ho hp => ?_, fun k p hk hp => ?_, fun o h0 ho x hx => ?_, fun k h0 hk x hx => ?_⟩
      · rw [cc 2 (by omega)] at ho
        rw [cc 5 (by omega), b.x 930 rfl]
        exact ⟨(u1 o p ho hp).1.k tx ta (fun j => v1 _ j (by omega)) (fun j => v2 _ j (by omega)) (fun j => v3 _ j (by omega)) (b.x 906 rfl) (fun _ => b.x 928 rfl _) (b.x 930 rfl) (b.x 931 rfl) (b.x 932 rfl), (u1 o p ho hp).2⟩
      · rw [cn] at hk
        rw [cc 5 (by omega)]
        by_cases g : (k : Int) < Xi U 5 0
        · have w := (z33 k p hp).1 g
          obtain ⟨y1, y2⟩ := u2 k p g hp
          refine ⟨?_, fun y => y2 (by rw [← w]; exact y)⟩
          have e : (12 * (k : Int) + p).toNat = 12 * k + p := by omega
          unfold PVR at y1 ⊢
          rw [e] at y1 ⊢
          rw [v1 _ _ (by omega), v2 _ _ (by omega), v3 _ _ (by omega), w, b.x 934 rfl, b.x 935 rfl, b.x 928 rfl]
          exact ⟨y1.1, fun y => ⟨fun y3 => ((y1.2 y).1 y3).k tx ta (b.x 906 rfl), (y1.2 y).2⟩⟩
        · have w := (z33 k p hp).2 (by omega) hk
          refine ⟨pvr_0 ?_ ?_, fun y => absurd w y⟩
          · rw [v1 _ _ (by omega), show 66 + (24 + (k : Int)).toNat = 90 + k by omega]
            exact u4 k (by omega) (by omega) p hp
          · rw [show (12 * (k : Int) + p).toNat = 12 * k + p by omega]; exact w
      · rw [cc 2 (by omega)] at ho
        rw [v1 o x (by omega)]; exact u3 o h0 ho x hx
      · rw [cn] at hk
        have w := v1 (24 + k) x (by omega)
        rw [show 66 + (24 + k) = 90 + k by omega] at w
        rw [w]; exact u4 k h0 (by omega) x hx
  · unfold c10 at tn tp cn ok tl tr
    rw [q] at tn tp cn cc ok tl tr
    have ok : LOK U (Xi U 5 1) 8 (nL U) := ok
    have tn : TNL U 1 (Xi U 5 1) (nL U) B := tn
    have tp : TPS U 12 (Xi U 5 1) B (nL U) U1 := tp
    have cn : Xi U1 5 1 = Xi U 5 1 + (nL U : Nat) := cn
    have cc : ∀ j, j ≠ 1 → Xi U1 5 j = Xi U 5 j := cc
    have tl : TLL T 2 (Xi U 5 1) (Xi S 904 71) (nL U) B1 := tl
    have tr : TPR T 3 (Xi U 5 1) (Xi S 904 71) B1 (nL U) S1 := tr
    have cl := cnt_le cn (by omega) cc
    have nb : Xi U 5 1 + (nL U : Nat) ≤ 8 := by
      by_cases q : nL U = 0
      · rw [q]; omega
      · have t := (ok (nL U - 1) (by omega)).2; omega
    have lf := rvo_list h1 sT l (fun i hi => (ok i hi).1) (so := 1) (rs := 2) (c := Xi U 5 1) (fun w hw => frs_s h2 (by omega) hw) (by decide) (by omega) (by omega) (nL U) B B1 (Nat.le_refl _) tn tl
    obtain ⟨f1, f2, f2b, f3, f4, f5, f6⟩ := lf
    have pf := rvo_plur f1 sT l (fun i hi => (ok i hi).1) (so := 12) (rs := 3) (c := Xi U 5 1) (fun w hw => f2b 12 w (by decide) (whc_fr h2 (show Xi U 5 1 ≤ w from hw))) (by decide) (by omega) (by omega) (by omega) (fun i hi => by obtain ⟨j, j1, j2, j3⟩ := f6 i hi; exact ⟨j, j1, j2, by omega⟩) (fun i hi lg => by
      have k := l i hi
      have n3 := (ok i hi).1.2.1
      have no := noe_run h1.2.2.1 h1.1.1.2 k sT.2 n3 (ok i hi).1.1
      refine f3 _ _ _ (fun j hj m => ?_) (fun j hj e => ?_)
      · obtain ⟨v, v1, v2, _⟩ := lw_base sT k n3 lg h1.2.2.2.2 hj m
        exact no v v1 v2
      · have kj := l j hj
        have wj := scx_w sT kj.2.2.2.2.2
        obtain ⟨q1, _, _, _, q5, _, q7⟩ := wds_p sT k n3
        have g := q7 lg
        have s0 := wrw_lt wj 0 (by omega)
        have s1 := wrw_lt wj 1 (by omega)
        have s2 := wrw_lt wj 2 (by omega)
        have hk := k.2.1
        have n : re7 (ty7 U) (kr7 (ty7 U) i) - kr7 (ty7 U) i = 1 ∨ re7 (ty7 U) (kr7 (ty7 U) i) - kr7 (ty7 U) i = 2 ∨ re7 (ty7 U) (kr7 (ty7 U) i) - kr7 (ty7 U) i = 3 := by omega
        rcases n with n | n | n
        · rw [n] at q5 g
          rw [e.1] at s0
          have q5 : wSp U (kr7 (ty7 U) i) (re7 (ty7 U) (kr7 (ty7 U) i)) 0 = wRw U 879 (kr7 (ty7 U) i) (re7 (ty7 U) (kr7 (ty7 U) i)) 0 * 27 + 19 := q5
          have g : 5559060566555523 ≤ wRw U 879 (kr7 (ty7 U) i) (re7 (ty7 U) (kr7 (ty7 U) i)) 0 := g
          omega
        · rw [n] at q5 g
          rw [e.2.1] at s1
          have q5 : wSp U (kr7 (ty7 U) i) (re7 (ty7 U) (kr7 (ty7 U) i)) 1 = wRw U 879 (kr7 (ty7 U) i) (re7 (ty7 U) (kr7 (ty7 U) i)) 1 * 27 + 19 := q5
          have g : 5559060566555523 ≤ wRw U 879 (kr7 (ty7 U) i) (re7 (ty7 U) (kr7 (ty7 U) i)) 1 := g
          omega
        · rw [n] at q5 g
          rw [e.2.2] at s2
          have q5 : wSp U (kr7 (ty7 U) i) (re7 (ty7 U) (kr7 (ty7 U) i)) 2 = wRw U 879 (kr7 (ty7 U) i) (re7 (ty7 U) (kr7 (ty7 U) i)) 2 * 27 + 19 := q5
          have g : 5559060566555523 ≤ wRw U 879 (kr7 (ty7 U) i) (re7 (ty7 U) (kr7 (ty7 U) i)) 2 := g
          omega) (nL U) U1 S1 (Nat.le_refl _) tp tr
    have c1 : wcU U1 1 = Xi U 5 1 + (nL U : Nat) := cn
    have c2 : wcU U1 12 = Xi U 5 1 + (nL U : Nat) := cn
    have wh : WHC U1 := pf.2.2.2.2 (wcU U1) (f5 (wcU U1) (whg_of h2 cl) (fun i hi => by rw [c1]; omega)) (fun i hi => by rw [c2]; omega)
    obtain ⟨a6, a7⟩ := kn.2 q
    obtain ⟨⟨r16, r0⟩, s17, s29, s33, s26⟩ := kr.1 (by rw [ei]; exact q)
    have e18 : Xi T 904 18 = Xi U 5 1 := d1.1.symm
    rw [e18] at r0
    have b3 : KEP [(906, 907), (928, 929), (930, 933), (934, 936)] [] T S1 := Fd.kep rfl
    refine ⟨pf.1, wh, ?_, ?_, ?_, h6.k (cc 3 (by omega)) (cl 0) (Fc.kep rfl) (Fd.kep rfl), h7.k (cc 6 (by omega)) (cl 0) (Fc.kep rfl) (Fd.kep rfl), h8.k (cl 2) (Fc.kep rfl) (Fd.kep rfl), h9.k (cc 7 (by omega)) (cc 8 (by omega)) (cl 6) (cl 0) (Fc.kep rfl) (Fd.kep rfl), h10.k (cc 2 (by omega)) (cl 0) (Fc.kep rfl) (Fd.kep rfl), h11.k (cc 2 (by omega)) (Fc.kep rfl), ?_, ?_, h14.k h3 (cl 2) (Fc.kep rfl) (Fd.kep rfl), h15x.k (cl 2) (Fc.kep rfl) (Fd.kep rfl)⟩
    · obtain ⟨d0, d1, d2, d3, d4, d5, d6, d7, d8⟩ := h3
      have s5 : ∀ j, j ∈ [19, 23, 30, 32, 41, 47, 49] → Xi S1 904 j = Xi T 904 j := fun j hj => (Fd.kep rfl : KEP [] [(904, 19), (904, 23), (904, 30), (904, 32), (904, 41), (904, 47), (904, 49)] T S1).f 904 j (by revert hj; simp)
      unfold RCT
      rw [cn, r0, r16, cc 0 (by omega), cc 2 (by omega), cc 3 (by omega), cc 4 (by omega), cc 5 (by omega), cc 6 (by omega), cc 7 (by omega), cc 8 (by omega), s5 19 (by decide), s5 23 (by decide), s5 30 (by decide), s5 32 (by decide), s5 41 (by decide), s5 47 (by decide), s5 49 (by decide)]
      exact ⟨d0, by omega, d2, d3, d4, d5, d6, d7, d8⟩
    · unfold KND
      rw [cc 0 (by omega), r16]
      simp only [a6, a7, s17, s29]
      exact h4
    · obtain ⟨u1, u2, u3, u4⟩ := h5
      have v8 : ∀ j, Xi U1 8 j = Xi U 8 j := (Fc.kep rfl : KEP [(8, 10)] [] U U1).x 8 rfl
      have v9 : ∀ j, Xi U1 9 j = Xi U 9 j := (Fc.kep rfl : KEP [(8, 10)] [] U U1).x 9 rfl
      have v7 : ∀ j, Xi S1 927 j = Xi T 927 j := (Fd.kep rfl : KEP [(927, 929)] [] T S1).x 927 rfl
      have v2 : ∀ j, Xi S1 928 j = Xi T 928 j := (Fd.kep rfl : KEP [(927, 929)] [] T S1).x 928 rfl
      refine ⟨?_, ?_, ?_, ?_⟩
      · rw [cc 4 (by omega), cn]; simp only [v8, v7]; exact fun i hi => by have t := u1 i hi; omega
      · rw [cc 5 (by omega), cn]; simp only [v9, v2]; exact fun i hi => by have t := u2 i hi; omega
      · rw [cc 5 (by omega), cc 0 (by omega)]; simp only [s29]; exact u3
      · unfold vals; rw [cc 4 (by omega)]; simp only [valn_k v8]; exact u4
    · obtain ⟨u1, u2, u3, u4⟩ := h12
      have uc : ∀ k j : Nat, k < 40 → Xi U1 (25 + k) j = Xi U (25 + k) j := fun k j hk => (Fc.kep rfl : KEP [(25, 65)] [] U U1).x (25 + k) (by unfold inK; simp; omega) j
      have s5 : ∀ j, Xi S1 925 j = Xi T 925 j := (Fd.kep rfl : KEP [(925, 926)] [] T S1).x 925 rfl
      have d2 := h3.2.2.1
      refine ⟨fun o ho => ?_, fun k hk => ?_, fun o h0 ho x hx => ?_, fun k h0 hk x hx => ?_⟩
      · rw [cc 2 (by omega)] at ho
        exact (u1 o ho).k (fun j => uc _ j (by omega)) s5
      · rw [cc 0 (by omega)] at hk
        exact (u2 k hk).k (fun j => uc _ j (by omega)) s26
      · rw [cc 2 (by omega)] at ho
        rw [uc o x (by omega)]; exact u3 o h0 ho x hx
      · rw [cc 0 (by omega)] at hk
        have t := uc (24 + k) x (by omega)
        rw [show 25 + (24 + k) = 49 + k by omega] at t
        rw [t]; exact u4 k h0 hk x hx
    · obtain ⟨u1, u2, u3, u4⟩ := h13
      have a : KEP [(66, 106), (107, 147), (148, 188), (245, 246), (902, 904)] [(20, 1)] U U1 := Fc.kep rfl
      have tx := txr_k a (by decide)
      have ta := tx_k t3 a rfl rfl rfl
      have v1 : ∀ k j : Nat, k < 40 → Xi U1 (66 + k) j = Xi U (66 + k) j := fun k j hk => a.x (66 + k) (by unfold inK; simp; omega) j
      have v2 : ∀ k j : Nat, k < 40 → Xi U1 (107 + k) j = Xi U (107 + k) j := fun k j hk => a.x (107 + k) (by unfold inK; simp; omega) j
      have v3 : ∀ k j : Nat, k < 40 → Xi U1 (148 + k) j = Xi U (148 + k) j := fun k j hk => a.x (148 + k) (by unfold inK; simp; omega) j
      have d2 := h3.2.2.1
      refine ⟨fun o p ho hp => ?_, fun k p hk hp => ?_, fun o h0 ho x hx => ?_, fun k h0 hk x hx => ?_⟩
      · rw [cc 2 (by omega)] at ho
        rw [cc 5 (by omega), b3.x 930 rfl]
        exact ⟨(u1 o p ho hp).1.k tx ta (fun j => v1 _ j (by omega)) (fun j => v2 _ j (by omega)) (fun j => v3 _ j (by omega)) (b3.x 906 rfl) (fun _ => b3.x 928 rfl _) (b3.x 930 rfl) (b3.x 931 rfl) (b3.x 932 rfl), (u1 o p ho hp).2⟩
      · rw [cc 0 (by omega)] at hk
        rw [cc 5 (by omega), s33]
        exact ⟨(u2 k p hk hp).1.k tx ta (fun j => v1 _ j (by omega)) (fun j => v2 _ j (by omega)) (fun j => v3 _ j (by omega)) (b3.x 906 rfl) (fun _ => b3.x 928 rfl _) s33 (b3.x 934 rfl) (b3.x 935 rfl), (u2 k p hk hp).2⟩
      · rw [cc 2 (by omega)] at ho
        rw [v1 o x (by omega)]; exact u3 o h0 ho x hx
      · rw [cc 0 (by omega)] at hk
        have w := v1 (24 + k) x (by omega)
        rw [show 66 + (24 + k) = 90 + k by omega] at w
        rw [w]; exact u4 k h0 hk x hx
end
section
/-! class and reference: objects, old or new -/
/-- a cell that both write, and nothing else of it -/
theorem ad_r {U S : sS} (kd : KND U S) (ob : OBK U S) {o : Int} (h : 0 ≤ o ∧ o < Xi U 5 2) (k : Int) : isK U (Xi U 21 o.toNat) k = blR S (Xi S 918 o.toNat) k := by
  have t := ob.2 o.toNat (by omega)
  rw [t.1]
  exact isK_bl kd t.2.2
/-- an object's name: what it means, or a new object of kind k -/
def RL3 (U S : sS) : Prop := RVO U S ∧ WHC U ∧ RCT U S ∧ KND U S ∧ RTY U S ∧ RAJ U S ∧ RRE U S ∧ RBT U S ∧ RVA U S ∧ ROB U S ∧ ACY U ∧ RAQ U S ∧ RPR U S
theorem RLW.r3 {U S : sS} (h : RLW U S) : RL3 U S := by
  obtain ⟨h1, h2, h3, h4, h5, h6, h7, h8, h9, h10, h11, h12, h13, _⟩ := h
  exact ⟨h1, h2, h3, h4, h5, h6, h7, h8, h9, h10, h11, h12, h13⟩
theorem RL3.w {U S : sS} (h : RL3 U S) (a : RWY U S) (b : RSB U S) : RLW U S := by
  obtain ⟨h1, h2, h3, h4, h5, h6, h7, h8, h9, h10, h11, h12, h13⟩ := h
  exact ⟨h1, h2, h3, h4, h5, h6, h7, h8, h9, h10, h11, h12, h13, a, b⟩
def cOj : List (Nat × Nat) := [(6, 12), (13, 20), (25, 65), (66, 106), (107, 147), (148, 188), (189, 195), (245, 246), (902, 904)]
theorem SMO_rf (U : sS) : SMO U U := ⟨SMV.rf, fun _ => rfl, fun _ => ⟨rfl, rfl, rfl⟩⟩
theorem st_obx {U U1 S S1 U0 S0 : sS} {f : Nat} {r a b o p k : Int} (h : RLW U S) (t3 : TX3 U) (sc : SCX U0 S0 f) (kr : RNR U0 S0 f r a b) (sm : ∀ j, Xj U 879 j = Xj U0 879 j) (sm2 : (∀ j, Xj S 910 j = Xj S0 910 j) ∧ (∀ j, Xi S 950 j = Xi S0 950 j) ∧ ∀ j, Xi S 951 j = Xi S0 951 j) (hk : 0 ≤ k ∧ k < Xi U 5 0) (nn : fnd U 2 a b = -1 → mnV U a b = -1 ∧ b - a ≤ 3 ∧ Xi U 5 2 < 24) (ob : OBX U U1 o a b k) (F : KEP cOj [(20, 1)] U U1) (ot : OTR S S1 p r k) (G : FR lOT S S1) (fe : fnd U 2 a b = rnR S r 4) : o = p ∧ RL3 U1 S1 ∧ (0 ≤ o ∧ o < Xi U1 5 2) ∧ TX3 U1 ∧ (Xi U 5 2 ≤ Xi U1 5 2) := by
  have t3' : TX3 U1 := by unfold TX3 at t3 ⊢; unfold txr at t3 ⊢; rw [(F.2 (20, 1) (by decide)).2.2]; exact t3
  obtain ⟨h1, h2, h3, h4, h5, h6, h7, h8, h9, h10, h11, h12, h13, h14, h15x⟩ := h
  by_cases q : fnd U 2 a b = -1
  · obtain ⟨n1, n2, n3⟩ := nn q
    obtain ⟨o1, ⟨i, tn⟩, cn, cc, ob2, ob3⟩ := ob.2 q
    obtain ⟨p1, tl, ao⟩ := ot.2 (by rw [← fe]; exact q)
    have c2 := h3.2.2.1
    have e2 : Xi S 904 19 = Xi U 5 2 := c2.1.symm
    rw [e2] at p1 tl
    have d0 := h3.1
    have wr : ∀ j, wRw U 879 a b j = wRw U0 879 a b j := fun j => by unfold wRw; rw [sm]
    rw [wr, wr, wr] at tn
    have tl' : TLW S S1 S0 4 (Xi U 5 2) r := by
      unfold TLW at tl ⊢
      rw [sm2.2.1, sm2.2.2, sm2.1, sm2.1, sm2.1] at tl
      exact tl
    have f1 : FRS U 2 (Xi U 5 2) := frs_s h2 (by omega) (Int.le_refl _)
    have b30 : b ≤ 5130 := by have := kr.2.2.1; have := sc.2; omega
    have no : NOE U (wRw U0 879 a b 0) (wRw U0 879 a b 1) (wRw U0 879 a b 2) := by
      have t := new_ne h1.2.2.1 h1.1.1.2 ⟨kr.1, b30⟩ ⟨by have := kr.2.1; omega, n2⟩ n1
      rw [wr, wr, wr] at t
      exact t
    have w1 := rvo_run h1 sc kr n2 tn tl' f1 (by decide) (by omega) (by omega) no
    have cl := cnt_le cn (by omega) cc
    obtain ⟨r0, ⟨a1, a2, a3⟩, a4, z5, z0⟩ := ao
    rw [e2] at r0 a1 a2 a3 a4 z5 z0
    have u2 : ∀ k j : Nat, k < 40 → Xi U1 (66 + k) j = Xi U (66 + k) j := fun k j hk => (F.le rfl (by decide) : KEP [(66, 106)] [] U U1).x (66 + k) (by unfold inK; simp; omega) j
    have zk : ∀ {k m : Nat}, ZRO S S1 k (m * Xi U 5 2) m → ∀ x y : Nat, y < m → ((x : Int) < Xi U 5 2 → Xi S1 k (m * x + y) = Xi S k (m * x + y)) ∧ ((x : Int) = Xi U 5 2 → Xi S1 k (m * x + y) = 0) := fun {k m} zz x y hy => by
      obtain ⟨za, zb⟩ := zz (m * x + y)
      obtain ⟨w, ew⟩ : ∃ w : Nat, (w : Int) = Xi U 5 2 := ⟨(Xi U 5 2).toNat, by omega⟩
      rw [← ew] at za zb ⊢
      refine ⟨fun g => zb (fun c => ?_), fun g1 => za ⟨?_, ?_⟩⟩
      · have c1 := c.1
        have g : x + 1 ≤ w := by omega
        have t := Nat.mul_le_mul_left m g
        rw [Nat.mul_add, Nat.mul_one] at t
        have u : ((m * w : Nat) : Int) ≤ ((m * x + y : Nat) : Int) := by push_cast; push_cast at c1; exact c1
        omega
      · rw [show w = x by omega]; push_cast; omega
      · rw [show w = x by omega]; push_cast; omega
    have z5 := zk (m := 24) z5
    have z0 := zk (m := 12) z0
    refine ⟨by omega, ?_, by omega, t3', by omega⟩
    have Fd := G
    refine ⟨w1.1, ?_, ?_, h4.k (cc 0 (by omega)) (F.le rfl (by decide)) (Fd.kep rfl), h5.k (cc 0 (by omega)) (cc 4 (by omega)) (cc 5 (by omega)) (cl 1) (F.le rfl (by decide)) (Fd.kep rfl), h6.k (cc 3 (by omega)) (cl 0) (F.le rfl (by decide)) (Fd.kep rfl), h7.k (cc 6 (by omega)) (cl 0) (F.le rfl (by decide)) (Fd.kep rfl), h8.k (cl 2) (F.le rfl (by decide)) (Fd.kep rfl), h9.k (cc 7 (by omega)) (cc 8 (by omega)) (cl 6) (cl 0) (F.le rfl (by decide)) (Fd.kep rfl), ?_, ?_, ?_, ?_⟩
    · have c1 : wcU U1 2 = Xi U 5 2 + 1 := by rw [wc_s (by omega)]; exact cn
      exact whg_add (whg_of h2 cl) tn f1 (by rw [c1]; omega)
    · obtain ⟨d0, d1, d2, d3, d4, d5, d6, d7, d8⟩ := h3
      have s5 : ∀ j, j ∈ [16, 18, 23, 30, 32, 41, 47, 49] → Xi S1 904 j = Xi S 904 j := fun j hj => (Fd.kep rfl : KEP [] [(904, 16), (904, 18), (904, 23), (904, 30), (904, 32), (904, 41), (904, 47), (904, 49)] S S1).f 904 j (by revert hj; simp)
      unfold RCT
      rw [cn, r0, cc 0 (by omega), cc 1 (by omega), cc 3 (by omega), cc 4 (by omega), cc 5 (by omega), cc 6 (by omega), cc 7 (by omega), cc 8 (by omega), s5 16 (by decide), s5 18 (by decide), s5 23 (by decide), s5 30 (by decide), s5 32 (by decide), s5 41 (by decide), s5 47 (by decide), s5 49 (by decide)]
      exact ⟨d0, d1, by omega, d3, d4, d5, d6, d7, d8⟩
    · refine ⟨⟨by omega, fun x hx => ?_⟩, fun x hx => ?_⟩
      · rw [cn] at hx
        rw [cc 0 (by omega)]
        by_cases g : x = (Xi U 5 2).toNat
        · subst g; rw [ob2.1, a1]; exact ⟨rfl, hk⟩
        · rw [(ob3 x g).1, (a4 x g).1]; exact h10.1.2 x (by omega)
      · rw [cn] at hx ⊢
        by_cases g : x = (Xi U 5 2).toNat
        · subst g; rw [ob2.2.1, ob2.2.2, a2, a3]; exact ⟨⟨rfl, rfl⟩, by omega, by omega, by omega, by omega⟩
        · obtain ⟨y1, y2, y3, y4, y5⟩ := h10.2 x (by omega)
          rw [(ob3 x g).2.1, (ob3 x g).2.2, (a4 x g).2.1, (a4 x g).2.2]; exact ⟨y1, y2, y3, y4, by omega⟩
    · obtain ⟨rk, hr⟩ := h11
      refine ⟨rk, fun x hx hp => ?_⟩
      rw [cn] at hx
      by_cases g : x = (Xi U 5 2).toNat
      · subst g; rw [ob2.2.2] at hp; omega
      · rw [(ob3 x g).2.2] at hp ⊢; exact hr x (by omega) hp
    · obtain ⟨v1, v2, v3, v4⟩ := h12
      have uc : ∀ k j : Nat, k < 40 → Xi U1 (25 + k) j = Xi U (25 + k) j := fun k j hk => (F.le rfl (by decide) : KEP [(25, 65)] [] U U1).x (25 + k) (by unfold inK; simp; omega) j
      have s6 : ∀ j, Xi S1 926 j = Xi S 926 j := (G.kep rfl : KEP [(926, 927)] [] S S1).x 926 rfl
      refine ⟨fun x hx => ?_, fun x hx => ?_, fun x g0 hx y hy => ?_, fun x g0 hx y hy => ?_⟩
      · rw [cn] at hx
        by_cases g : (x : Int) < Xi U 5 2
        · intro y hy
          have t := v1 x g y hy
          have w := (z5 x y hy).1 g
          rw [uc _ _ (by omega), show (24 * (x : Int) + y).toNat = 24 * x + y by omega, w, show 24 * x + y = (24 * (x : Int) + y).toNat by omega]
          exact t
        · refine adv_0 (fun y hy => ?_) (fun y hy => ?_)
          · rw [uc _ _ (by omega), show 25 + (x : Int).toNat = 25 + x by omega]
            exact v3 x (by omega) (by omega) y hy
          · rw [show (24 * (x : Int) + y).toNat = 24 * x + y by omega]
            exact (z5 x y hy).2 (by omega)
      · rw [cc 0 (by omega)] at hx
        exact (v2 x hx).k (fun j => uc _ j (by omega)) s6
      · rw [cn] at hx
        rw [uc x y (by omega)]; exact v3 x g0 (by omega) y hy
      · rw [cc 0 (by omega)] at hx
        have t := uc (24 + x) y (by omega)
        rw [show 25 + (24 + x) = 49 + x by omega] at t
        rw [t]; exact v4 x g0 hx y hy
    · obtain ⟨v1, v2, v3, v4⟩ := h13
      have A : KEP [(66, 106), (107, 147), (148, 188), (245, 246), (902, 904)] [(20, 1)] U U1 := F.le rfl (by decide)
      have B : KEP [(906, 907), (928, 929), (931, 936)] [] S S1 := G.kep rfl
      have tx := txr_k A (by decide)
      have ta := tx_k t3 A rfl rfl rfl
      have y2 : ∀ k j : Nat, k < 40 → Xi U1 (107 + k) j = Xi U (107 + k) j := fun k j hk => A.x (107 + k) (by unfold inK; simp; omega) j
      have y3 : ∀ k j : Nat, k < 40 → Xi U1 (148 + k) j = Xi U (148 + k) j := fun k j hk => A.x (148 + k) (by unfold inK; simp; omega) j
      refine ⟨fun x y hx hy => ?_, fun x y hx hy => ?_, fun x g0 hx y hy => ?_, fun x g0 hx y hy => ?_⟩
      · rw [cn] at hx
        rw [cc 5 (by omega)]
        by_cases g : (x : Int) < Xi U 5 2
        · have w := (z0 x y hy).1 g
          obtain ⟨g1, g2⟩ := v1 x y g hy
          refine ⟨?_, fun c => g2 (by rw [← w]; exact c)⟩
          have e : (12 * (x : Int) + y).toNat = 12 * x + y := by omega
          unfold PVR at g1 ⊢
          rw [e] at g1 ⊢
          rw [u2 _ _ (by omega), y2 _ _ (by omega), y3 _ _ (by omega), w, B.x 931 rfl, B.x 932 rfl, B.x 928 rfl]
          exact ⟨g1.1, fun c => ⟨fun d => ((g1.2 c).1 d).k tx ta (B.x 906 rfl), (g1.2 c).2⟩⟩
        · have w := (z0 x y hy).2 (by omega)
          refine ⟨pvr_0 ?_ ?_, fun c => absurd w c⟩
          · rw [u2 _ _ (by omega), show 66 + (x : Int).toNat = 66 + x by omega]
            exact v3 x (by omega) (by omega) y hy
          · rw [show (12 * (x : Int) + y).toNat = 12 * x + y by omega]; exact w
      · rw [cc 0 (by omega)] at hx
        rw [cc 5 (by omega), B.x 933 rfl]
        exact ⟨(v2 x y hx hy).1.k tx ta (fun j => u2 _ j (by omega)) (fun j => y2 _ j (by omega)) (fun j => y3 _ j (by omega)) (B.x 906 rfl) (fun _ => B.x 928 rfl _) (B.x 933 rfl) (B.x 934 rfl) (B.x 935 rfl), (v2 x y hx hy).2⟩
      · rw [cn] at hx
        rw [u2 x y (by omega)]; exact v3 x g0 (by omega) y hy
      · rw [cc 0 (by omega)] at hx
        have w := u2 (24 + x) y (by omega)
        rw [show 66 + (24 + x) = 90 + x by omega] at w
        rw [w]; exact v4 x g0 hx y hy
  · obtain ⟨o1, o2⟩ := ob.1 q
    obtain ⟨p1, p2⟩ := ot.1 (by rw [← fe]; exact q)
    subst p2
    obtain ⟨sv, cx, oo⟩ := o2
    have t : 0 ≤ fnd U 2 a b ∧ fnd U 2 a b < Xi U 5 2 := fnd_wc (by omega) h1.2.2.1 h2 q
    have cc : ∀ j, j ≠ 99 → Xi U1 5 j = Xi U 5 j := fun j _ => cx j
    have cl : ∀ j, Xi U 5 j ≤ Xi U1 5 j := fun j => by rw [cx]; exact Int.le_refl _
    have Fd : KEP cSk cSf S1 S1 := KEP.rf
    refine ⟨by omega, ?_, by rw [cx]; omega, t3', cl 2⟩
    refine ⟨h1.s sv SMR.rf, ?_, ?_, h4.k (cc 0 (by omega)) (F.le rfl (by decide)) (Fd.le rfl (by decide)), h5.k (cc 0 (by omega)) (cc 4 (by omega)) (cc 5 (by omega)) (cl 1) (F.le rfl (by decide)) (Fd.le rfl (by decide)), h6.k (cc 3 (by omega)) (cl 0) (F.le rfl (by decide)) (Fd.le rfl (by decide)), h7.k (cc 6 (by omega)) (cl 0) (F.le rfl (by decide)) (Fd.le rfl (by decide)), h8.k (cl 2) (F.le rfl (by decide)) (Fd.le rfl (by decide)), h9.k (cc 7 (by omega)) (cc 8 (by omega)) (cl 6) (cl 0) (F.le rfl (by decide)) (Fd.le rfl (by decide)), ?_, ?_, h12.k h3 (cc 2 (by omega)) (cc 0 (by omega)) (F.le rfl (by decide)) (Fd.le rfl (by decide)), h13.k h3 t3 (cx 2) (cx 0) (cl 5) (F.le rfl (by decide)) (Fd.le rfl (by decide)) (fun p _ => rfl)⟩
    · intro j hj
      rw [sv.1] at hj
      rw [sv.2.2.1, sv.2.2.2.1]
      have u := h2 j hj
      have v := wcU_k cl (Xi U 3 j)
      omega
    · unfold RCT; simp only [cx]; exact h3
    · unfold ROB OBK; simp only [cx, (oo _).1, (oo _).2.1, (oo _).2.2]; exact h10
    · unfold ACY; simp only [cx, (oo _).2.2]; exact h11
end
section
/-! class and reference: a property, an adjective is told to both -/
theorem fr_stP {U : sS} {r p v l : Int} (hr : 0 ≤ r ∧ r < 40) (hp : 0 ≤ p ∧ p < 12) : FR [(66, 106, 0, 100000), (107, 147, 0, 100000), (148, 188, 0, 100000)] U (stP U r p v l) := by
  unfold stP
  refine FR.wI (FR.wI (FR.wI FR.rf ?_) ?_) ?_ <;> (unfold mdf inR; simp; omega)
theorem fr_stA {U : sS} {r a h : Int} (hr : 0 ≤ r ∧ r < 40) (ha : 0 ≤ a ∧ a < 24) (hc : -1 ≤ Xi U 11 a.toNat ∧ Xi U 11 a.toNat < 24) : FR [(25, 65, 0, 100000)] U (stAd U r a h) := by
  unfold stAd stA0
  split
  · refine FR.wI FR.rf ?_
    unfold mdf inR; simp; omega
  · refine FR.wI (FR.wI FR.rf ?_) ?_ <;> (unfold mdf inR; simp; omega)
theorem fr_tP0 {S : sS} {k v l : Int} (hk : 0 ≤ k ∧ k < 1000) : FR [(930, 933, 0, 100000)] S (tPR S 930 k v l) := by
  unfold tPR
  refine FR.wI (FR.wI (FR.wI FR.rf ?_) ?_) ?_ <;> (unfold mdf inR; simp; omega)
theorem fr_tP3 {S : sS} {k v l : Int} (hk : 0 ≤ k ∧ k < 1000) : FR [(933, 936, 0, 100000)] S (tPR S 933 k v l) := by
  unfold tPR
  refine FR.wI (FR.wI (FR.wI FR.rf ?_) ?_) ?_ <;> (unfold mdf inR; simp; omega)
theorem fr_rI5 {S : sS} {b a i : Int} (hb : 0 ≤ b ∧ b < 1000) (ha : 0 ≤ a ∧ a < 24) (hc : -1 ≤ Xi S 922 a.toNat ∧ Xi S 922 a.toNat < 24) : FR [(925, 926, 0, 100000)] S (rIs S 925 b a i) := by
  unfold rIs
  split
  · refine FR.wI FR.rf ?_
    unfold mdf inR; simp; omega
  · refine FR.wI (FR.wI FR.rf ?_) ?_ <;> (unfold mdf inR; simp; omega)
theorem fr_rI6 {S : sS} {b a i : Int} (hb : 0 ≤ b ∧ b < 1000) (ha : 0 ≤ a ∧ a < 24) (hc : -1 ≤ Xi S 922 a.toNat ∧ Xi S 922 a.toNat < 24) : FR [(926, 927, 0, 100000)] S (rIs S 926 b a i) := by
  unfold rIs
  split
  · refine FR.wI FR.rf ?_
    unfold mdf inR; simp; omega
  · refine FR.wI (FR.wI FR.rf ?_) ?_ <;> (unfold mdf inR; simp; omega)
/-- all but what was told of properties -/
theorem RLW.p {U A S B : sS} {l m : List rec} (h : RLW U S) (F : FR l U A) (G : FR m S B) (e1 : kepC l [(2, 12), (13, 20), (21, 24), (25, 65), (189, 195), (196, 220), (221, 245)] [(1, 3), (20, 12), (891, 10)] = true) (e2 : kepC m [(912, 923), (924, 930), (936, 946)] cSf = true) (r : RPR A B) : RLW A B := by
  have a := F.kep e1
  have b := G.kep e2
  obtain ⟨h1, h2, h3, h4, h5, h6, h7, h8, h9, h10, h11, h12, h13, h14, h15⟩ := h
  have c : ∀ j, Xi A 5 j = Xi U 5 j := a.x 5 rfl
  have d : ∀ j, Xi U 5 j ≤ Xi A 5 j := fun j => by rw [c]; exact Int.le_refl _
  exact ⟨h1.k (a.le rfl (by decide)) (b.le rfl (by decide)), h2.k (a.le rfl (by decide)), h3.k (a.le rfl (by decide)) (b.le rfl (by decide)), h4.k (c 0) (a.le rfl (by decide)) (b.le rfl (by decide)), h5.k (c 0) (c 4) (c 5) (d 1) (a.le rfl (by decide)) (b.le rfl (by decide)), h6.k (c 3) (d 0) (a.le rfl (by decide)) (b.le rfl (by decide)), h7.k (c 6) (d 0) (a.le rfl (by decide)) (b.le rfl (by decide)), h8.k (d 2) (a.le rfl (by decide)) (b.le rfl (by decide)), h9.k (c 7) (c 8) (d 6) (d 0) (a.le rfl (by decide)) (b.le rfl (by decide)), h10.k (c 2) (d 0) (a.le rfl (by decide)) (b.le rfl (by decide)), h11.k (c 2) (a.le rfl (by decide)), h12.k h3 (c 2) (c 0) (a.le rfl (by decide)) (b.le rfl (by decide)), r, h14.k h3 (d 2) (a.le rfl (by decide)) (b.le rfl (by decide)), h15.k (d 2) (a.le rfl (by decide)) (b.le rfl (by decide))⟩
/-- all but what was told of adjectives -/
theorem RLW.a {U A S B : sS} {l m : List rec} (h : RLW U S) (t3 : TX3 U) (F : FR l U A) (G : FR m S B) (e1 : kepC l [(2, 12), (13, 20), (21, 24), (66, 106), (107, 147), (148, 188), (189, 195), (196, 220), (221, 245), (245, 246), (902, 904)] cUf = true) (e2 : kepC m [(906, 907), (912, 923), (924, 925), (927, 946)] cSf = true) (r : RAQ A B) : RLW A B := by
  have a := F.kep e1
  have b := G.kep e2
  obtain ⟨h1, h2, h3, h4, h5, h6, h7, h8, h9, h10, h11, h12, h13, h14, h15⟩ := h
  have c : ∀ j, Xi A 5 j = Xi U 5 j := a.x 5 rfl
  have d : ∀ j, Xi U 5 j ≤ Xi A 5 j := fun j => by rw [c]; exact Int.le_refl _
  exact ⟨h1.k (a.le rfl (by decide)) (b.le rfl (by decide)), h2.k (a.le rfl (by decide)), h3.k (a.le rfl (by decide)) (b.le rfl (by decide)), h4.k (c 0) (a.le rfl (by decide)) (b.le rfl (by decide)), h5.k (c 0) (c 4) (c 5) (d 1) (a.le rfl (by decide)) (b.le rfl (by decide)), h6.k (c 3) (d 0) (a.le rfl (by decide)) (b.le rfl (by decide)), h7.k (c 6) (d 0) (a.le rfl (by decide)) (b.le rfl (by decide)), h8.k (d 2) (a.le rfl (by decide)) (b.le rfl (by decide)), h9.k (c 7) (c 8) (d 6) (d 0) (a.le rfl (by decide)) (b.le rfl (by decide)), h10.k (c 2) (d 0) (a.le rfl (by decide)) (b.le rfl (by decide)), h11.k (c 2) (a.le rfl (by decide)), r, h13.k h3 t3 (c 2) (c 0) (d 5) (a.le rfl (by decide)) (b.le rfl (by decide)) (fun p _ => b.x 928 rfl p), h14.k h3 (d 2) (a.le rfl (by decide)) (b.le rfl (by decide)), h15.k (d 2) (a.le rfl (by decide)) (b.le rfl (by decide))⟩
theorem smR_y {S : sS} {t : Nat} {a b N : Int} : ∀ (n : Nat) (i : Int), smR S t a b n i ≠ 0 → ∀ j : Int, i ≤ j → j < i + n → Xi S t (a + j).toNat = Xi S t (b + j).toNat
  | 0, i, _, j, h1, h2 => absurd h2 (by omega)
  | n + 1, i, h, j, h1, h2 => by
    unfold smR at h
    by_cases q : Xi S t (a + i).toNat = Xi S t (b + i).toNat
    · rw [if_pos q] at h
      by_cases e : j = i
      · rw [e]; exact q
      · exact smR_y (N := N) n (i + 1) h j (by omega) (by omega)
    · rw [if_neg q] at h; exact absurd rfl h
/-- the same text again: it stays the class's text -/
theorem txq_s {U S : sS} {a n b m b2 m2 : Int} (h : TXQ U S a n b m) (s : sameR S b m b2 m2 ≠ 0) : TXQ U S a n b2 m2 := by
  obtain ⟨e, h⟩ := h
  unfold sameR at s
  by_cases q : m = m2
  · rw [if_pos q] at s
    refine ⟨by omega, fun i h0 h1 => ?_⟩
    rw [h i h0 h1]
    exact smR_y (N := 0) _ 0 s i h0 (by omega)
  · rw [if_neg q] at s; exact absurd rfl s
/-- what both know of a property when it was told to both -/
theorem pvr_t {U A S B : sS} {c : Nat} {r k p v l v2 l2 : Int} (hr : 0 ≤ r ∧ r < 40) (hp : 0 ≤ p ∧ p < 12) (hk : 0 ≤ k) (h : PVR U S c r p (12 * k + p)) (hv : VLQ U S p v l v2 l2) (rv : rg v ∧ rg l ∧ rg v2 ∧ rg l2) (hc : c = 930 ∨ c = 933) (t3 : TX3 U) (t : TPC U A 1 r p v l) (u : TPR1 S B 1 c k p v2 l2) (h9 : Xi U 9 p.toNat = Xi S 928 p.toNat) : PVR A B c r p (12 * k + p) ∧ Xi B c (12 * k + p).toNat = 1 ∧ (A = U ∨ A = stP U r p v l) ∧ B = tPR S c (12 * k + p) v2 l2 := by
  have eB : B = tPR S c (12 * k + p) v2 l2 := by
    by_cases q : Xi S c (12 * k + p).toNat ≠ 0 ∧ otwR S p (Xi S (c + 1) (12 * k + p).toNat) (Xi S (c + 2) (12 * k + p).toNat) v2 l2
    · have := (u.1 q).1; omega
    · exact (u.2 q).2
  have b8 : Xi B 928 p.toNat = Xi S 928 p.toNat := by rw [eB]; unfold tPR; rw [Xi_ne (by omega), Xi_ne (by omega), Xi_ne (by omega)]
  have b0 : Xi B c (12 * k + p).toNat = 1 := by rw [eB]; unfold tPR; rw [Xi_ne (by omega), Xi_ne (by omega)]; exact Xi_same (by unfold rg; omega)
  have b1 : Xi B (c + 1) (12 * k + p).toNat = v2 := by rw [eB]; unfold tPR; rw [Xi_ne (by omega)]; exact Xi_same rv.2.2.1
  have b2 : Xi B (c + 2) (12 * k + p).toNat = l2 := by rw [eB]; unfold tPR; exact Xi_same rv.2.2.2
  have b6 : ∀ j, Xi B 906 j = Xi S 906 j := fun j => by rw [eB]; unfold tPR; rw [Xi_ne (by omega), Xi_ne (by omega), Xi_ne (by omega)]
  by_cases q : Xi U (66 + r.toNat) p.toNat = 0
  · have eA := (t.1 q).2
    have F : FR [(66, 106, 0, 100000), (107, 147, 0, 100000), (148, 188, 0, 100000)] U A := by rw [eA]; exact fr_stP (v := v) (l := l) hr hp
    have K : KEP [(245, 246), (902, 904)] [(20, 1)] U A := F.kep rfl
    have tx := txr_k K (by decide)
    have ta := tx_k t3 K rfl rfl rfl
    have a0 : Xi A (66 + r.toNat) p.toNat = 1 := by rw [eA]; unfold stP; rw [Xi_ne (by omega), Xi_ne (by omega)]; exact Xi_same (by unfold rg; omega)
    have a1 : Xi A (107 + r.toNat) p.toNat = v := by rw [eA]; unfold stP; rw [Xi_ne (by omega)]; exact Xi_same rv.1
    have a2 : Xi A (148 + r.toNat) p.toNat = l := by rw [eA]; unfold stP; exact Xi_same rv.2.1
    refine ⟨?_, b0, Or.inr eA, eB⟩
    unfold PVR
    rw [a0, a1, a2, b0, b1, b2, b8]
    exact ⟨by omega, fun _ => ⟨fun g => (hv.1 g).k tx ta b6, hv.2⟩⟩
  · have q' : Xi S c (12 * k + p).toNat ≠ 0 := fun w => q (h.1.2 w)
    have eA : A = U := by
      by_cases g : Xi U 9 p.toNat = 1
      · exact (t.2.1 q g).2
      · exact (t.2.2 q g).2
    subst eA
    refine ⟨?_, b0, Or.inl rfl, eB⟩
    unfold PVR
    rw [b0, b1, b2, b8]
    refine ⟨⟨fun w => absurd w q, fun w => absurd w (by decide)⟩, fun _ => ⟨fun g => ?_, fun g => ?_⟩⟩
    · have o := (h.2 q').1 g
      have s : sameR S (Xi S (c + 1) (12 * k + p).toNat) (Xi S (c + 2) (12 * k + p).toNat) v2 l2 ≠ 0 := fun w => by
        have := (u.1 ⟨q', fun _ => w, fun y => absurd g y⟩).1; omega
      exact (txq_s o s).k rfl (fun _ => rfl) b6
    · have o := (h.2 q').2 g
      by_cases s : Xi S (c + 1) (12 * k + p).toNat = v2
      · rw [o, s]
      · have := (u.1 ⟨q', fun y => absurd y g, fun _ => s⟩).1; omega
/-- a property of an object, told to both -/
theorem rpr_o {U A S B : sS} {o p v l v2 l2 : Int} (h : RLW U S) (t3 : TX3 U) (ho : 0 ≤ o ∧ o < Xi U 5 2) (hp : 0 ≤ p ∧ p < Xi U 5 5) (hv : VLQ U S p v l v2 l2) (rv : rg v ∧ rg l ∧ rg v2 ∧ rg l2) (t : TPC U A 1 o p v l) (u : TPR1 S B 1 930 o p v2 l2) : RLW A B ∧ TX3 A ∧ ∀ j, Xi A 5 j = Xi U 5 j := by
  have c := h.2.2.1
  have c2 := c.2.2.1
  have c5 := c.2.2.2.2.2.1
  have c0 := c.1
  obtain ⟨r1, r2, r3, r4⟩ := h.2.2.2.2.2.2.2.2.2.2.2.2.1
  have ty := h.2.2.2.2.1.2.1 p.toNat (by omega)
  have w := pvr_t (by omega) (by omega) ho.1 (by have t := (r1 o.toNat p.toNat (by omega) (by omega)).1; rw [show ((o.toNat : Nat) : Int) = o by omega, show ((p.toNat : Nat) : Int) = p by omega] at t; exact t) hv rv (Or.inl rfl) t3 t u ty.1
  obtain ⟨w1, w2, w3, w4⟩ := w
  have G : FR [(930, 933, 0, 100000)] S B := by rw [w4]; exact fr_tP0 (by omega)
  have F : FR [(66, 106, 0, 100000), (107, 147, 0, 100000), (148, 188, 0, 100000)] U A := by
    rcases w3 with w3 | w3
    · rw [w3]; exact FR.rf
    · rw [w3]; exact fr_stP (by omega) (by omega)
  have K : KEP [(5, 6), (245, 246), (902, 904)] [(20, 1)] U A := F.kep rfl
  have tx := txr_k K (by decide)
  have ta := tx_k t3 K rfl rfl rfl
  have cx : ∀ j, Xi A 5 j = Xi U 5 j := K.x 5 rfl
  have B8 : KEP [(906, 907), (928, 929), (933, 936)] [] S B := G.kep rfl
  have ne : ∀ (m : Nat) (x y : Nat), (m = 66 ∨ m = 107 ∨ m = 148) → x < 40 → y < 12 → ¬ ((x : Int) = o ∧ (y : Int) = p) → Xi A (m + x) y = Xi U (m + x) y := fun m x y hm hx hy q => by
    rcases w3 with w3 | w3
    · rw [w3]
    · rw [w3]; unfold stP; rw [Xi_ne (by omega), Xi_ne (by omega), Xi_ne (by omega)]
  have nB : ∀ (m x y : Nat), (m = 930 ∨ m = 931 ∨ m = 932) → y < 12 → ¬ ((x : Int) = o ∧ (y : Int) = p) → Xi B m (12 * x + y) = Xi S m (12 * x + y) := fun m x y hm hy q => by
    rw [w4]; unfold tPR; rw [Xi_ne (by omega), Xi_ne (by omega), Xi_ne (by omega)]
  refine ⟨h.p F G rfl rfl ⟨fun x y hx hy => ?_, fun x y hx hy => ?_, fun x g0 hx y hy => ?_, fun x g0 hx y hy => ?_⟩, ?_, cx⟩
  · rw [cx] at hx ⊢
    by_cases q : (x : Int) = o ∧ (y : Int) = p
    · rw [q.1, q.2]
      exact ⟨w1, fun _ => hp.2⟩
    · obtain ⟨g1, g2⟩ := r1 x y hx hy
      have e : (12 * (x : Int) + y).toNat = 12 * x + y := by omega
      have n1 := nB 930 x y (by omega) hy q
      refine ⟨?_, fun z => g2 (by rw [← n1]; exact z)⟩
      unfold PVR at g1 ⊢
      rw [e] at g1 ⊢
      rw [show 66 + (x : Int).toNat = 66 + x by omega, show 107 + (x : Int).toNat = 107 + x by omega, show 148 + (x : Int).toNat = 148 + x by omega, show (y : Int).toNat = y by omega] at g1 ⊢
      rw [ne 66 x y (by omega) (by omega) hy q, ne 107 x y (by omega) (by omega) hy q, ne 148 x y (by omega) (by omega) hy q, n1, nB 931 x y (by omega) hy q, nB 932 x y (by omega) hy q, B8.x 928 rfl]
      exact ⟨g1.1, fun z => ⟨fun d => ((g1.2 z).1 d).k tx ta (B8.x 906 rfl), (g1.2 z).2⟩⟩
  · rw [cx] at hx ⊢
    rw [B8.x 933 rfl]
    have q : ¬ (((24 + x : Nat) : Int) = o ∧ (y : Int) = p) := by omega
    obtain ⟨g1, g2⟩ := r2 x y hx hy
    refine ⟨?_, g2⟩
    have e : (24 + (x : Int)).toNat = 24 + x := by omega
    unfold PVR at g1 ⊢
    rw [e, show (y : Int).toNat = y by omega] at g1 ⊢
    rw [ne 66 (24 + x) y (by omega) (by omega) hy q, ne 107 (24 + x) y (by omega) (by omega) hy q, ne 148 (24 + x) y (by omega) (by omega) hy q, B8.x 933 rfl, B8.x 934 rfl, B8.x 935 rfl, B8.x 928 rfl]
    exact ⟨g1.1, fun z => ⟨fun d => ((g1.2 z).1 d).k tx ta (B8.x 906 rfl), (g1.2 z).2⟩⟩
  · rw [cx] at hx
    rw [ne 66 x y (by omega) (by omega) hy (by omega)]; exact r3 x g0 hx y hy
  · rw [cx] at hx
    have t := ne 66 (24 + x) y (by omega) (by omega) hy (by omega)
    rw [show 66 + (24 + x) = 90 + x by omega] at t
    rw [t]; exact r4 x g0 hx y hy
  · unfold TX3 at t3 ⊢; rw [tx]; exact t3
/-- a property of a kind, told to both -/
theorem rpr_k {U A S B : sS} {k p v l v2 l2 : Int} (h : RLW U S) (t3 : TX3 U) (hk : 0 ≤ k ∧ k < Xi U 5 0) (hp : 0 ≤ p ∧ p < Xi U 5 5) (hv : VLQ U S p v l v2 l2) (rv : rg v ∧ rg l ∧ rg v2 ∧ rg l2) (t : TPC U A 1 (24 + k) p v l) (u : TPR1 S B 1 933 k p v2 l2) : RLW A B ∧ TX3 A ∧ ∀ j, Xi A 5 j = Xi U 5 j := by
  have c := h.2.2.1
  have c2 := c.2.2.1
  have c5 := c.2.2.2.2.2.1
  have c0 := c.1
  obtain ⟨r1, r2, r3, r4⟩ := h.2.2.2.2.2.2.2.2.2.2.2.2.1
  have ty := h.2.2.2.2.1.2.1 p.toNat (by omega)
  have w := pvr_t (by omega) (by omega) hk.1 (by have t := (r2 k.toNat p.toNat (by omega) (by omega)).1; rw [show ((k.toNat : Nat) : Int) = k by omega, show ((p.toNat : Nat) : Int) = p by omega] at t; exact t) hv rv (Or.inr rfl) t3 t u ty.1
  obtain ⟨w1, w2, w3, w4⟩ := w
  have G : FR [(933, 936, 0, 100000)] S B := by rw [w4]; exact fr_tP3 (by omega)
  have F : FR [(66, 106, 0, 100000), (107, 147, 0, 100000), (148, 188, 0, 100000)] U A := by
    rcases w3 with w3 | w3
    · rw [w3]; exact FR.rf
    · rw [w3]; exact fr_stP (by omega) (by omega)
  have K : KEP [(5, 6), (245, 246), (902, 904)] [(20, 1)] U A := F.kep rfl
  have tx := txr_k K (by decide)
  have ta := tx_k t3 K rfl rfl rfl
  have cx : ∀ j, Xi A 5 j = Xi U 5 j := K.x 5 rfl
  have B8 : KEP [(906, 907), (928, 929), (930, 933)] [] S B := G.kep rfl
  have ne : ∀ (m : Nat) (x y : Nat), (m = 66 ∨ m = 107 ∨ m = 148) → x < 40 → y < 12 → ¬ ((x : Int) = 24 + k ∧ (y : Int) = p) → Xi A (m + x) y = Xi U (m + x) y := fun m x y hm hx hy q => by
    rcases w3 with w3 | w3
    · rw [w3]
    · rw [w3]; unfold stP; rw [Xi_ne (by omega), Xi_ne (by omega), Xi_ne (by omega)]
  have nB : ∀ (m x y : Nat), (m = 933 ∨ m = 934 ∨ m = 935) → y < 12 → ¬ ((x : Int) = k ∧ (y : Int) = p) → Xi B m (12 * x + y) = Xi S m (12 * x + y) := fun m x y hm hy q => by
    rw [w4]; unfold tPR; rw [Xi_ne (by omega), Xi_ne (by omega), Xi_ne (by omega)]
  refine ⟨h.p F G rfl rfl ⟨fun x y hx hy => ?_, fun x y hx hy => ?_, fun x g0 hx y hy => ?_, fun x g0 hx y hy => ?_⟩, ?_, cx⟩
  · rw [cx] at hx ⊢
    rw [B8.x 930 rfl]
    have q : ¬ ((x : Int) = 24 + k ∧ (y : Int) = p) := by omega
    obtain ⟨g1, g2⟩ := r1 x y hx hy
    refine ⟨?_, g2⟩
    have e : (x : Int).toNat = x := by omega
    unfold PVR at g1 ⊢
    rw [e, show (y : Int).toNat = y by omega] at g1 ⊢
    rw [ne 66 x y (by omega) (by omega) hy q, ne 107 x y (by omega) (by omega) hy q, ne 148 x y (by omega) (by omega) hy q, B8.x 930 rfl, B8.x 931 rfl, B8.x 932 rfl, B8.x 928 rfl]
    exact ⟨g1.1, fun z => ⟨fun d => ((g1.2 z).1 d).k tx ta (B8.x 906 rfl), (g1.2 z).2⟩⟩
  · rw [cx] at hx ⊢
    by_cases q : (x : Int) = k ∧ (y : Int) = p
    · rw [q.1, q.2]
      exact ⟨w1, fun _ => hp.2⟩
    · obtain ⟨g1, g2⟩ := r2 x y hx hy
      have e : (12 * (x : Int) + y).toNat = 12 * x + y := by omega
      have n1 := nB 933 x y (by omega) hy q
      refine ⟨?_, fun z => g2 (by rw [← n1]; exact z)⟩
      have q2 : ¬ (((24 + x : Nat) : Int) = 24 + k ∧ (y : Int) = p) := by omega
      unfold PVR at g1 ⊢
      rw [e] at g1 ⊢
      rw [show (24 + (x : Int)).toNat = 24 + x by omega, show (y : Int).toNat = y by omega] at g1 ⊢
      rw [ne 66 (24 + x) y (by omega) (by omega) hy q2, ne 107 (24 + x) y (by omega) (by omega) hy q2, ne 148 (24 + x) y (by omega) (by omega) hy q2, n1, nB 934 x y (by omega) hy q, nB 935 x y (by omega) hy q, B8.x 928 rfl]
      exact ⟨g1.1, fun z => ⟨fun d => ((g1.2 z).1 d).k tx ta (B8.x 906 rfl), (g1.2 z).2⟩⟩
  · rw [cx] at hx
    rw [ne 66 x y (by omega) (by omega) hy (by omega)]; exact r3 x g0 hx y hy
  · rw [cx] at hx
    have t := ne 66 (24 + x) y (by omega) (by omega) hy (by omega)
    rw [show 66 + (24 + x) = 90 + x by omega] at t
    rw [t]; exact r4 x g0 hx y hy
  · unfold TX3 at t3 ⊢; rw [tx]; exact t3
/-- an adjective's row that both change -/
theorem adv_s2 {U S : sS} {r b a h i : Int} {c : Nat} (v : ADV U S c r b) (k : Xi U 11 a.toNat = Xi S 922 a.toNat ∧ -1 ≤ Xi S 922 a.toNat ∧ Xi S 922 a.toNat < 24) (hb : 0 ≤ b) (ha : 0 ≤ a ∧ a < 24) (hi : h = 0 ↔ i = 0) : ADV (stAd U r a h) (rIs S c b a i) c r b := by
  have m1 : AV3 (if h = 0 then -1 else 1) (if i = 0 then 2 else 1) := by
    unfold AV3
    by_cases q : h = 0
    · rw [if_pos q, if_pos (hi.1 q)]; omega
    · rw [if_neg q, if_neg (fun x => q (hi.2 x))]; omega
  have m2 : AV3 (if h = 0 then 1 else -1) (if i = 0 then 1 else 2) := by
    unfold AV3
    by_cases q : h = 0
    · rw [if_pos q, if_pos (hi.1 q)]; omega
    · rw [if_neg q, if_neg (fun x => q (hi.2 x))]; omega
  have s1 := adv_1 v hb ha m1
  unfold stAd rIs stA0
  by_cases q : Xi S 922 a.toNat = -1
  · rw [if_pos (k.1.trans q), if_pos q]
    exact s1
  · rw [if_neg (by rw [k.1]; exact q), if_neg q, k.1]
    exact adv_1 s1 hb (by omega) m2
theorem stA_ne {U : sS} {r a h : Int} {x y : Nat} (hx : (x : Int) ≠ r) (h0 : 0 ≤ r) : Xi (stAd U r a h) (25 + x) y = Xi U (25 + x) y := by
  unfold stAd stA0
  split
  · rw [Xi_ne (by omega)]
  · rw [Xi_ne (by omega), Xi_ne (by omega)]
theorem rIs_ne {S : sS} {c : Nat} {b a i : Int} {x : Nat} (h1 : (x : Int) < b ∨ b + 24 ≤ (x : Int)) (hb : 0 ≤ b) (ha : 0 ≤ a ∧ a < 24) (hc : -1 ≤ Xi S 922 a.toNat ∧ Xi S 922 a.toNat < 24) : Xi (rIs S c b a i) c x = Xi S c x := by
  unfold rIs
  split
  · rw [Xi_ne (by omega)]
  · rw [Xi_ne (by omega), Xi_ne (by omega)]
/-- an adjective of a kind, told to both -/
theorem raq_k {U A S B : sS} {z y k a h i : Int} (hR : RLW U S) (t3 : TX3 U) (hk : 0 ≤ k ∧ k < Xi U 5 0) (ha : 0 ≤ a ∧ a < Xi U 5 3) (hi : h = 0 ↔ i = 0) (t : TADC U A z (24 + k) a h) (u : TISR S B y 926 (24 * k) a i) : z = y ∧ (z = 0 ∨ z = 1) ∧ (z = 1 → RLW A B ∧ TX3 A ∧ ∀ j, Xi A 5 j = Xi U 5 j) := by
  have c := hR.2.2.1
  have c2 := c.2.2.1
  have c3 := c.2.2.2.1
  have c0 := c.1
  have aj := hR.2.2.2.2.2.1 a.toNat (by omega)
  obtain ⟨r1, r2, r3, r4⟩ := hR.2.2.2.2.2.2.2.2.2.2.2.1
  have v := r2 k.toNat (by omega)
  rw [show ((k.toNat : Nat) : Int) = k by omega] at v
  obtain ⟨e, w⟩ := tad_r v (by omega) hi t u
  refine ⟨e, by omega, fun z1 => ?_⟩
  rcases w with ⟨w, _⟩ | ⟨_, wA, wB⟩
  · omega
  have kk : Xi U 11 a.toNat = Xi S 922 a.toNat ∧ -1 ≤ Xi S 922 a.toNat ∧ Xi S 922 a.toNat < 24 := ⟨aj.2.1.1, by omega, by omega⟩
  have F : FR [(25, 65, 0, 100000)] U A := by rw [wA]; exact fr_stA (by omega) (by omega) (by omega)
  have G : FR [(926, 927, 0, 100000)] S B := by rw [wB]; exact fr_rI6 (by omega) (by omega) (by omega)
  have cx : ∀ j, Xi A 5 j = Xi U 5 j := (F.kep rfl : KEP [(5, 6)] [] U A).x 5 rfl
  have g5 : ∀ j, Xi B 925 j = Xi S 925 j := (G.kep rfl : KEP [(925, 926)] [] S B).x 925 rfl
  have nU : ∀ x y : Nat, (x : Int) ≠ 24 + k → Xi A (25 + x) y = Xi U (25 + x) y := fun x y q => by rw [wA]; exact stA_ne q (by omega)
  refine ⟨hR.a t3 F G rfl rfl ⟨fun x hx => ?_, fun x hx => ?_, fun x g0 hx y hy => ?_, fun x g0 hx y hy => ?_⟩, ?_, cx⟩
  · rw [cx] at hx
    refine (r1 x hx).k (fun j => ?_) g5
    rw [show (x : Int).toNat = x by omega]; exact nU x j (by omega)
  · rw [cx] at hx
    by_cases q : (x : Int) = k
    · rw [q, wA, wB]
      exact adv_s2 v kk (by omega) (by omega) hi
    · intro y hy
      have t := r2 x hx y hy
      rw [show 25 + (24 + (x : Int)).toNat = 25 + (24 + x) by omega, show (24 * (x : Int) + y).toNat = 24 * x + y by omega] at t ⊢
      rw [nU (24 + x) y (by omega), wB, rIs_ne (by omega) (by omega) (by omega) (by omega)]
      exact t
  · rw [cx] at hx
    rw [nU x y (by omega)]; exact r3 x g0 hx y hy
  · rw [cx] at hx
    have t := nU (24 + x) y (by omega)
    rw [show 25 + (24 + x) = 49 + x by omega] at t
    rw [t]; exact r4 x g0 hx y hy
  · unfold TX3 at t3 ⊢; rw [txr_k (F.kep rfl : KEP [] [(20, 1)] U A) (by decide)]; exact t3
end
section
/-! class and reference: 14 keeps the relation -/
theorem RL3.kS {U S S1 : sS} (h : RL3 U S) (b : KEP [(906, 907), (912, 923), (924, 943)] [(904, 15), (904, 16), (904, 18), (904, 19), (904, 23), (904, 30), (904, 32), (904, 41), (904, 47), (904, 49)] S S1) (t3 : TX3 U) : RL3 U S1 := by
  obtain ⟨h1, h2, h3, h4, h5, h6, h7, h8, h9, h10, h11, h12, h13⟩ := h
  have d : ∀ j, Xi U 5 j ≤ Xi U 5 j := fun j => Int.le_refl _
  exact ⟨h1.k KEP.rf (b.le rfl (by decide)), h2, h3.k KEP.rf (b.le rfl (by decide)), h4.k rfl KEP.rf (b.le rfl (by decide)), h5.k rfl rfl rfl (d 1) KEP.rf (b.le rfl (by decide)), h6.k rfl (d 0) KEP.rf (b.le rfl (by decide)), h7.k rfl (d 0) KEP.rf (b.le rfl (by decide)), h8.k (d 2) KEP.rf (b.le rfl (by decide)), h9.k rfl rfl (d 6) (d 0) KEP.rf (b.le rfl (by decide)), h10.k rfl (d 0) KEP.rf (b.le rfl (by decide)), h11, h12.k h3 rfl rfl KEP.rf (b.le rfl (by decide)), h13.k h3 t3 rfl rfl (d 5) KEP.rf (b.le rfl (by decide)) (fun p _ => b.x 928 rfl p)⟩
theorem RWY.e {U U1 S S1 : sS} (h : RWY U S) (c : RCT U S) (c2 : Xi U 5 2 ≤ Xi U1 5 2) (u : SWY U U1) (s0 : Xi S1 904 51 = Xi S 904 51) (s1 : ∀ j, Xi S1 943 j = Xi S 943 j) (s2 : ∀ j, Xi S1 944 j = Xi S 944 j) (s3 : ∀ j, Xi S1 945 j = Xi S 945 j) : RWY U1 S1 := by
  obtain ⟨h1, h2, h3⟩ := h
  have d2 := c.2.2.1
  refine ⟨by rw [u.1, s0]; exact h1, fun k hk => ?_, fun r d hr hd q => ?_⟩
  · rw [s0] at hk
    have w := h2 k hk
    rw [s1, s2, s3, u.2 (196 + (Xi S 943 k).toNat) _ (by omega) (by omega), u.2 (221 + (Xi S 943 k).toNat) _ (by omega) (by omega)]
    exact ⟨by omega, w.2.1, by omega, w.2.2.2⟩
  · rw [u.2 (196 + r) d (by omega) (by omega)] at q
    obtain ⟨k, x, y, z⟩ := h3 r d hr hd q
    exact ⟨k, by rw [s0]; exact x, by rw [s1]; exact y, by rw [s2]; exact z⟩
/-- there is room for a way more -/
theorem way_n {U S : sS} {s d : Int} (h : RWY U S) (c : RCT U S) (hs : 0 ≤ s ∧ s < 24) (hd : 0 ≤ d ∧ d < 6) (no : NWY S s d (Xi S 904 51)) : Xi S 904 51 ≤ 143 := by
  obtain ⟨h1, h2, _⟩ := h
  have d2 := c.2.2.1
  have t := php 144 ((Xi S 904 51).toNat + 1) (fun k => if (k : Int) < Xi S 904 51 then (6 * Xi S 943 k + Xi S 944 k).toNat else (6 * s + d).toNat) (fun k hk => by
    show (if (k : Int) < Xi S 904 51 then (6 * Xi S 943 k + Xi S 944 k).toNat else (6 * s + d).toNat) < 144
    by_cases q : (k : Int) < Xi S 904 51
    · rw [if_pos q]; have w := h2 k q; omega
    · rw [if_neg q]; omega) (fun i j hij hj e => by
    have e : (if (i : Int) < Xi S 904 51 then (6 * Xi S 943 i + Xi S 944 i).toNat else (6 * s + d).toNat) = (if (j : Int) < Xi S 904 51 then (6 * Xi S 943 j + Xi S 944 j).toNat else (6 * s + d).toNat) := e
    have qi : (i : Int) < Xi S 904 51 := by omega
    have wi := h2 i qi
    rw [if_pos qi] at e
    by_cases q : (j : Int) < Xi S 904 51
    · rw [if_pos q] at e
      have wj := h2 j q
      have e1 : Xi S 943 i = Xi S 943 j := by omega
      have e2 : Xi S 944 i = Xi S 944 j := by omega
      have a := wi.2.2.2.2
      rw [e1, e2] at a
      have b := wj.2.2.2.2
      omega
    · rw [if_neg q] at e
      exact no i qi ⟨by omega, by omega⟩)
  omega
theorem obm_of {U : sS} (h : WHC U) : OBM U := fun i hi q => by
  have t := h i hi
  rw [q] at t
  exact t
theorem st_14 {U U1 S T S1 : sS} {f : Nat} {z : Int} (h : RLW U S) (t3 : TX3 U) (sc : SCX U S f) (k0 : RNR U S f (Xi S 904 71) (n14 U) (e14 U)) (s1 : 1 < Xi S 904 72 → sn2 U ≠ -1 ∧ pc7 U (sn2 U) = pR S (Xi S 904 71 + 1)) (s2 : Xi S 904 72 ≤ 1 → sn2 U = -1) (k1 : RNR U S f (Xi S 904 78) (Xi U 890 3 + 1) (o14 U)) (k2 : RNR U S f (Xi S 904 74) (l14 U) (re7 (ty7 U) (l14 U))) (hn : Xi U 891 9 = 0) (zf : z = 0 → Xi U1 876 8 ≠ 0) (tc : TW14 U U1 z) (Fc : FR md_re_tellWay__p U U1) (rc : RW14 S (NT3 T)) (Fa : FR md_mo_asked__14f S T) (rd : (NT3 T).1 = 0 → RD14 T S1 ∧ FR md_mo_does__14f T S1) : STP U1 T S1 := by
  have hx := h.1.2.2.2.1
  have h15 : 0 ≤ Xi S 904 15 := by have := h.1.1.1; omega
  rcases way_ask (scx_s sc h.1) hx h15 hn h.1.2.2.1 (obm_of h.2.1) h.2.2.2.1 h.2.2.2.2.2.2.2.2.2.1.1 k0 s1 s2 k1 k2 tc rc with ⟨x0, sf⟩ | ⟨x0, w, e, d, os⟩
  · rcases sf with ⟨a, b⟩ | ⟨a, b, c⟩
    · exact Or.inl ⟨zf a, Or.inl b⟩
    · exact absurd b x0
  obtain ⟨⟨A, p, ot, G, cs⟩, Fd⟩ := rd x0
  obtain ⟨o, oa, ob, good, bad⟩ := tc.2.2.2.2.2.2 w e d os
  have hT : RLW U T := h.k t3 KEP.rf (Fa.kep rfl)
  have sT := sc.kS (Fa.kep rfl : KEP [(907, 911)] [] S T)
  have bT : KEP [(950, 952)] [] S T := Fa.kep rfl
  have hR := hT
  obtain ⟨h1, h2, h3, h4, h5, h6, h7, h8, h9, h10, h11, h12, h13, h14, h15x⟩ := hT
  have hxT := h1.2.2.2.1
  have h15T : 0 ≤ Xi T 904 15 := by have := h1.1.1; omega
  have rT := scx_s sT h1
  have k0 := k0.kS bT
  have k1 := k1.kS bT
  have k2 := k2.kS bT
  have f71 : Xi T 904 71 = Xi S 904 71 := Fa.x 904 71 rfl
  have f74 : Xi T 904 74 = Xi S 904 74 := Fa.x 904 74 rfl
  have f78 : Xi T 904 78 = Xi S 904 78 := Fa.x 904 78 rfl
  rw [f71] at ot
  rw [f71, f74, f78] at cs
  have fe : fnd U 2 (n14 U) (e14 U) = rnR T (Xi S 904 71) 4 := rn_fnd (s := 4) rT k0 hxT h15T (by omega)
  have de : d14 U = rnR T (Xi S 904 78) 12 := rn_fnd (s := 12) rT k1 hxT h15T (by omega)
  have se : s14 U = rnR T (Xi S 904 74) 4 := rn_fnd (s := 4) rT k2 hxT h15T (by omega)
  rw [← de, ← se] at cs
  have db : 0 ≤ d14 U ∧ d14 U < 6 := fnd_wc (by omega) h1.2.2.1 h2 d
  have sb : 0 ≤ s14 U ∧ s14 U < Xi U 5 2 := fnd_wc (by omega) h1.2.2.1 h2 os.1
  have c2 := h3.2.2.1
  have d0 := h3.1
  have op : o = p := by
    by_cases q : fnd U 2 (n14 U) (e14 U) = -1
    · rw [ob q, (ot.2 (by rw [← fe]; exact q)).1]; exact c2.1
    · rw [oa q, (ot.1 (by rw [← fe]; exact q)).1]; exact fe
  subst op
  have nn : fnd U 2 (n14 U) (e14 U) = -1 → mnV U (n14 U) (e14 U) = -1 ∧ e14 U - n14 U ≤ 3 ∧ Xi U 5 2 < 24 := fun q => by
    rcases w with w | w
    · exact ⟨w.1, w.2.1.2.1, w.2.2⟩
    · exact absurd q w.2.1
  have mk : OBX U U1 o (n14 U) (e14 U) 1 → RL3 U1 A ∧ (0 ≤ o ∧ o < Xi U1 5 2) ∧ TX3 U1 ∧ Xi U 5 2 ≤ Xi U1 5 2 := fun ox => by
    have g := st_obx hR t3 sT k0 (fun _ => rfl) ⟨fun _ => rfl, fun _ => rfl, fun _ => rfl⟩ (by omega) nn ox (Fc.kep rfl) ot G fe
    exact ⟨g.2.1, g.2.2⟩
  have gA : KEP [(943, 946)] [(904, 51), (904, 106)] T A := G.kep rfl
  rcases cs with ⟨k, hk, e3, e4, g1, g2⟩ | ⟨no, eS⟩
  · obtain ⟨q1, q2, q3, q4, q5⟩ := h14.2.1 k hk
    rw [e3, e4] at q4
    by_cases g : Xi T 945 k = o
    · have eS := g1 g
      obtain ⟨z1, z2, ox, tw, su⟩ := good (Or.inr (q4.trans g))
      obtain ⟨m1, m2, m3, m4⟩ := mk ox
      have FS : FR [(904, 905, 60, 61)] A S1 := by rw [eS]; exact FR.wI FR.rf rfl
      have kS : KEP [(943, 946)] [(904, 51), (904, 106)] A S1 := FS.kep rfl
      have x60 : Xi S1 904 60 = o := by rw [eS]; exact Xi_same (by unfold rg; omega)
      refine Or.inr ⟨z2, x0, ?_, (m1.kS (FS.kep rfl) m3).w (h14.e h3 m4 (tw.2 (by rw [q4]; omega)) ?_ ?_ ?_ ?_) ?_⟩
      · show Xi S1 904 106 = 0; rw [kS.f 904 106 (by decide), gA.f 904 106 (by decide)]; exact x0
      · rw [kS.f 904 51 (by decide), gA.f 904 51 (by decide)]
      · intro j; rw [kS.x 943 rfl, gA.x 943 rfl]
      · intro j; rw [kS.x 944 rfl, gA.x 944 rfl]
      · intro j; rw [kS.x 945 rfl, gA.x 945 rfl]
      · exact ⟨by rw [su, x60], by omega, by omega⟩
    · obtain ⟨z1, z2, z3⟩ := bad (fun y => by rcases y with y | y; omega; exact g (q4.symm.trans y))
      have nt := g2 g
      refine Or.inl ⟨by rw [z2]; decide, Or.inr ⟨x0, ?_⟩⟩
      rw [z2, z3, rn_pc rT k0]
      exact nt
  · have cU : Xi U (196 + (s14 U).toNat) (d14 U).toNat = -1 := by
      apply Classical.byContradiction
      intro y
      obtain ⟨k, x1, x2, x3⟩ := h14.2.2 (s14 U).toNat (d14 U).toNat (by omega) (by omega) y
      exact no k x1 ⟨by omega, by omega⟩
    obtain ⟨z1, z2, ox, tw, su⟩ := good (Or.inl cU)
    obtain ⟨m1, m2, m3, m4⟩ := mk ox
    obtain ⟨w1, w2, w3, w4⟩ := tw.1 cU
    have mo := m1.2.2.1.2.2.1
    have wn := way_n h14 h3 (by omega) db no
    have w51 := h14.1
    have FS : FR [(904, 905, 60, 61), (904, 905, 51, 52), (943, 944, 0, 100000), (944, 945, 0, 100000), (945, 946, 0, 100000)] A S1 := by
      rw [eS]
      refine FR.wI (FR.wI (FR.wI (FR.wI (FR.wI FR.rf ?_) ?_) ?_) ?_) ?_ <;> (unfold mdf inR; simp) <;> omega
    have x60 : Xi S1 904 60 = o := by rw [eS, Xi_ne (by omega), Xi_ne (by omega), Xi_ne (by omega), Xi_ne (by omega)]; exact Xi_same (by unfold rg; omega)
    have x51 : Xi S1 904 51 = Xi T 904 51 + 1 := by rw [eS]; exact Xi_same (by unfold rg; omega)
    have x43 : Xi S1 943 (Xi T 904 51).toNat = s14 U := by rw [eS, Xi_ne (by omega), Xi_ne (by omega), Xi_ne (by omega)]; exact Xi_same (by unfold rg; omega)
    have x44 : Xi S1 944 (Xi T 904 51).toNat = d14 U := by rw [eS, Xi_ne (by omega), Xi_ne (by omega)]; exact Xi_same (by unfold rg; omega)
    have x45 : Xi S1 945 (Xi T 904 51).toNat = o := by rw [eS, Xi_ne (by omega)]; exact Xi_same (by unfold rg; omega)
    have n43 : ∀ j : Nat, j ≠ (Xi T 904 51).toNat → Xi S1 943 j = Xi T 943 j ∧ Xi S1 944 j = Xi T 944 j ∧ Xi S1 945 j = Xi T 945 j := fun j hj => by
      refine ⟨?_, ?_, ?_⟩ <;> (rw [eS, Xi_ne (by omega), Xi_ne (by omega), Xi_ne (by omega), Xi_ne (by omega), Xi_ne (by omega)])
      · exact gA.x 943 rfl j
      · exact gA.x 944 rfl j
      · exact gA.x 945 rfl j
    refine Or.inr ⟨z2, x0, ?_, (m1.kS (FS.kep rfl) m3).w ⟨by rw [w3, x51]; omega, fun k hk => ?_, fun r y hr hy q => ?_⟩ ⟨by rw [su, x60], by omega, by omega⟩⟩
    · show Xi S1 904 106 = 0; rw [FS.x 904 106 rfl, gA.f 904 106 (by decide)]; exact x0
    · rw [x51] at hk
      by_cases q : k = (Xi T 904 51).toNat
      · subst q
        rw [x43, x44, x45, w1, w2]
        exact ⟨by omega, db, by omega, rfl, by omega⟩
      · obtain ⟨n1, n2, n3⟩ := n43 k q
        obtain ⟨q1, q2, q3, q4, q5⟩ := h14.2.1 k (by omega)
        have ne : ¬ (Xi T 943 k = s14 U ∧ Xi T 944 k = d14 U) := no k (by omega)
        rw [n1, n2, n3, w4 (196 + (Xi T 943 k).toNat) _ (by omega) (by omega) (by omega) (by omega), w4 (221 + (Xi T 943 k).toNat) _ (by omega) (by omega) (by omega) (by omega)]
        exact ⟨by omega, q2, by omega, q4, q5⟩
    · by_cases g : r = (s14 U).toNat ∧ y = (d14 U).toNat
      · exact ⟨(Xi T 904 51).toNat, by omega, by rw [x43]; omega, by rw [x44]; omega⟩
      · rw [w4 (196 + r) y (by omega) (by omega) (by omega) (by omega)] at q
        obtain ⟨k, y1, y2, y3⟩ := h14.2.2 r y hr hy q
        obtain ⟨n1, n2, n3⟩ := n43 k (by omega)
        exact ⟨k, by omega, by rw [n1]; exact y2, by rw [n2]; exact y3⟩
end
section
/-! class and reference: 0, 9 keep the relation -/
theorem ren_min {S : sS} {lim : Int} : ∀ (n : Nat) (r : Int), r ≤ lim → ren S lim n r = if reF (ty7 S) n r ≤ lim then reF (ty7 S) n r else lim
  | 0, r, h => by
    show r = if r ≤ lim then r else lim
    rw [if_pos h]
  | n + 1, r, h => by
    show (if 0 ≤ r ∧ r < lim ∧ r < Xi S 876 7 ∧ Xi S 877 r.toNat = 100 then ren S lim n (r + 1) else r) = if (if ty7 S r = 100 then reF (ty7 S) n (r + 1) else r) ≤ lim then (if ty7 S r = 100 then reF (ty7 S) n (r + 1) else r) else lim
    by_cases q : ty7 S r = 100
    · obtain ⟨a, b, c⟩ := ty_row q
      rw [if_pos q]
      by_cases g : r < lim
      · rw [if_pos ⟨a, g, b, c⟩]
        exact ren_min n (r + 1) (by omega)
      · rw [if_neg (fun y => g y.2.1)]
        have t := reF_le (T := ty7 S) n (r + 1)
        rw [if_neg (by omega)]
        omega
    · rw [if_neg q, if_pos h, if_neg (fun y => q (by rw [ty7_i y.1 y.2.2.1]; exact y.2.2.2))]
/-- a value's name: at most three words count -/
theorem mn_4 {U : sS} {w : Int} : mnV U w (ruF U w (w + 4)) = mnV U w (re7 (ty7 U) w) := by
  have t : ruF U w (w + 4) = if re7 (ty7 U) w ≤ w + 4 then re7 (ty7 U) w else w + 4 := ren_min 5131 w (by omega)
  by_cases q : re7 (ty7 U) w ≤ w + 4
  · rw [t, if_pos q]
  · rw [t, if_neg q]
    unfold mnV
    rw [if_neg (by omega), if_neg (by omega)]
theorem tr_101 {t : Int} (h : 0 ≤ t ∧ t ≤ 108) : (tr7 t = 4 ↔ t = 101) ∧ (tr7 t = 5 ↔ t = 102) := by
  unfold tr7
  by_cases a : t < 100
  · rw [if_pos a]; omega
  rw [if_neg a]
  by_cases b : t = 100
  · rw [if_pos b]; omega
  rw [if_neg b]
  by_cases c : t = 101
  · rw [if_pos c]; omega
  rw [if_neg c]
  by_cases d : t = 102
  · rw [if_pos d]; omega
  rw [if_neg d]
  refine ⟨⟨fun e => ?_, fun e => absurd e c⟩, ⟨fun e => ?_, fun e => absurd e d⟩⟩ <;> (exfalso; revert e; split <;> try omega) <;> (split <;> try omega) <;> (split <;> try omega) <;> (split <;> try omega) <;> (split <;> try omega)
/-- the WHAT at a row, in both -/
theorem whr_r {U S : sS} {f : Nat} {w tp : Int} (sc : SCX U S f) (v : RVO U S) (wh : WHC U) (ty : RTY U S) (hw : 0 ≤ w ∧ w < Xi U 876 7) (tb : 0 ≤ ty7 U w ∧ ty7 U w ≤ 108) (g : ty7 U w = 101 ∨ ty7 U w = 102 ∨ ty7 U w = 100) (k : ty7 U w = 100 → RNR U S f 2 w (re7 (ty7 U) w)) : (∀ x l : Int, WHR U w tp x l → wOKR S (f + w) 2 tp ∧ x = wvR S (f + w) 2 ∧ l = wlR S (f + w) ∧ (tp = 1 → ty7 U w = 102)) ∧ (wOKR S (f + w) 2 tp → ∃ x l : Int, WHR U w tp x l) := by
  have e : ((f : Int) + w).toNat = f + w.toNat := by omega
  obtain ⟨k1, k2, k3, k4, k5⟩ := sc.1 w.toNat (by omega)
  have et : ty7 U w = Xi U 877 w.toNat := ty7_i hw.1 hw.2
  rw [← et] at k2 k3 k4 k5
  have tr := tr_101 tb
  have pc : pc7 U w = Xi U 878 w.toNat := by unfold pc7; rw [if_pos hw]
  have hx := v.2.2.2.1
  have h15 : 0 ≤ Xi S 904 15 := by have := v.1.1; omega
  unfold WHR wOKR wvR wlR
  rw [e, k2]
  have fk : ty7 U w = 100 → fnd U 4 w (re7 (ty7 U) w) = rnR S 2 6 := fun q => rn_fnd (s := 6) (scx_s sc v) (k q) hx h15 (by omega)
  have fv : ∀ {x : Int}, mnV U w (re7 (ty7 U) w) / 256 = 4 → fnd U 4 w (re7 (ty7 U) w) = mnV U w (re7 (ty7 U) w) % 256 := fun q => by unfold fnd; rw [if_pos q]
  refine ⟨fun x l q => ?_, fun q => ?_⟩
  · rcases q with ⟨a, b, c, d⟩ | ⟨a, b, c, d⟩ | ⟨a1, a2, a, b, c, d, d2⟩
    · have t4 := tr.1.2 b
      refine ⟨Or.inl ⟨t4, a⟩, ?_, ?_, by omega⟩
      · rw [if_pos t4, c, k4 b]
      · rw [if_neg (by omega), d]
    · have t5 := tr.2.2 b
      refine ⟨Or.inr (Or.inl ⟨t5, a⟩), ?_, ?_, fun _ => b⟩
      · rw [if_neg (by omega), if_pos t5, c, pc, k1]
      · rw [if_pos t5, d, k5 b]
    · rw [mn_4] at b c d
      have n4 : tr7 (ty7 U w) ≠ 4 := fun y => by have := tr.1.1 y; omega
      have n5 : tr7 (ty7 U w) ≠ 5 := fun y => by have := tr.2.1 y; omega
      have f1 := fk a
      have f2 := fv (x := 0) b
      have ne : rnR S 2 6 ≠ -1 := by rw [← f1, f2]; omega
      have lt : 0 ≤ fnd U 4 w (re7 (ty7 U) w) ∧ fnd U 4 w (re7 (ty7 U) w) < Xi U 5 4 := fnd_wc (by omega) v.2.2.1 wh (by rw [f1]; exact ne)
      have tv := ty.1 (fnd U 4 w (re7 (ty7 U) w)).toNat (by omega)
      rw [← f2] at c d
      refine ⟨Or.inr (Or.inr ⟨n4, n5, ne, by rw [← f1, ← tv.1]; exact c⟩), ?_, ?_, by omega⟩
      · rw [if_neg n4, if_neg n5, d, f1]
      · rw [if_neg n5, d2]
  · rcases q with ⟨a, b⟩ | ⟨a, b⟩ | ⟨a1, a2, a, b⟩
    · exact ⟨_, _, Or.inl ⟨b, tr.1.1 a, rfl, rfl⟩⟩
    · exact ⟨_, _, Or.inr (Or.inl ⟨b, tr.2.1 a, rfl, rfl⟩)⟩
    · have t100 : ty7 U w = 100 := by
        rcases g with g | g | g
        · exact absurd (tr.1.2 g) a1
        · exact absurd (tr.2.2 g) a2
        · exact g
      have f1 := fk t100
      have ne : fnd U 4 w (re7 (ty7 U) w) ≠ -1 := by rw [f1]; exact a
      have m4 : mnV U w (re7 (ty7 U) w) / 256 = 4 := by
        apply Classical.byContradiction
        intro y
        unfold fnd at ne
        rw [if_neg y] at ne
        exact ne rfl
      have f2 := fv (x := 0) m4
      have lt : 0 ≤ fnd U 4 w (re7 (ty7 U) w) ∧ fnd U 4 w (re7 (ty7 U) w) < Xi U 5 4 := fnd_wc (by omega) v.2.2.1 wh ne
      have tv := ty.1 (fnd U 4 w (re7 (ty7 U) w)).toNat (by omega)
      refine ⟨_, _, Or.inr (Or.inr ⟨fun y => by omega, fun y => by omega, t100, by rw [mn_4]; exact m4, ?_, rfl, rfl⟩)⟩
      rw [mn_4, ← f2, tv.1, f1]; exact b
/-- a TEXT at a row is the same bytes in both -/
theorem txt_r {U S : sS} {f : Nat} {w : Int} (sc : SCX U S f) (st : RST U S) (tok : TOK U) (hpl : 0 ≤ Xi U 878 w.toNat) (hw : 0 ≤ w ∧ w < Xi U 876 7) (t : ty7 U w = 102) : TXQ U S (pc7 U w + 1) (Xj U 879 w.toNat) (Xi S 908 (f + w.toNat) + 1) (Xi S 909 (f + w.toNat)) := by
  obtain ⟨k1, k2, k3, k4, k5⟩ := sc.1 w.toNat (by omega)
  have et : ty7 U w = Xi U 877 w.toNat := ty7_i hw.1 hw.2
  rw [← et] at k5
  have pc : pc7 U w = Xi U 878 w.toNat := by unfold pc7; rw [if_pos hw]
  have tk := tok w.toNat (by omega) (by rw [← et]; exact t)
  refine ⟨(k5 t).symm, fun i h0 h1 => ?_⟩
  rw [k1, ← pc, st.2 _ (by omega)]
theorem st_0 {U U1 S T S1 : sS} {f : Nat} {z : Int} (h : RLW U S) (t3 : TX3 U) (sc : SCX U S f) (st : RST U S) (tok : TOK U) (hpl : 0 ≤ Xi U 878 0) (r0 : 0 < Xi U 876 7) (ty0 : ty7 U 0 = 102) (e81 : Xi S 904 81 = f) (f0 : Xi U 876 8 = 0) (zf : z = 0 → Xi U1 876 8 ≠ 0) (tc : TDE U U1 z) (ra : RA0 S T) (Fa : FR md_mo_asked__0f S T) (rd : (NT3 T).1 = 0 → RD0 T S1 f) : STP U1 T S1 := by
  have hT : RLW U T := h.k t3 KEP.rf (Fa.kep rfl)
  have sT := sc.kS (Fa.kep rfl : KEP [(907, 911)] [] S T)
  have stT : RST U T := ⟨st.1, fun j hj => by rw [(Fa.kep rfl : KEP [(906, 907)] [] S T).x 906 rfl]; exact st.2 j hj⟩
  have sb := h.2.2.2.2.2.2.2.2.2.2.2.2.2.2
  have sbT := hT.2.2.2.2.2.2.2.2.2.2.2.2.2.2
  have sb2 := sb.2.1
  have sb3 := sb.2.2
  have c2 := h.2.2.1.2.2.1
  have c5 := hT.2.2.1.2.2.2.2.2.1
  have f81 : Xi T 904 81 = f := by rw [Fa.x 904 81 rfl]; exact e81
  have pc : pc7 U 0 = Xi U 878 0 := by unfold pc7; rw [if_pos ⟨by omega, r0⟩]; rfl
  have e8 : Xi S 908 f = Xi U 878 0 := (sc.1 0 (by omega)).1
  have tx := txt_r sT stT tok (w := 0) hpl ⟨by omega, r0⟩ ty0
  have tx : TXQ U T (pc7 U 0 + 1) (Xj U 879 0) (Xi T 908 f + 1) (Xi T 909 f) := tx
  have e8T : Xi T 908 f = Xi U 878 0 := (sT.1 0 (by omega)).1
  have hv : VLQ U T 0 (pc7 U 0 + 1) (Xj U 879 0) (Xi T 908 (Xi T 904 81).toNat + 1) (Xi T 909 (Xi T 904 81).toNat) := by
    rw [f81, show ((f : Int)).toNat = f by omega]
    exact ⟨fun _ => tx, fun _ => by rw [pc, e8T]⟩
  have ob : Xi U 891 10 ≠ -1 → PVR U T 930 (Xi U 891 10) 0 (12 * Xi T 904 60 + 0) := fun q => by
    have t := (hT.2.2.2.2.2.2.2.2.2.2.2.2.1.1 (Xi U 891 10).toNat 0 (by omega) (by omega)).1
    rw [show (((Xi U 891 10).toNat : Nat) : Int) = Xi U 891 10 by omega] at t
    rw [← sbT.1]; exact t
  have h9 := hT.2.2.2.2.1.2.1 0 (by omega)
  refine stp_2 (de_same (first := (f : Int)) sb.1 tc ra ⟨Fa.x 904 60 rfl, Fa.x 904 81 rfl, (Fa.kep rfl : KEP [(908, 909)] [] S T).x 908 rfl⟩ ⟨by rw [e81, show ((f : Int)).toNat = f by omega, pc, e8], by rw [show ((f : Int)).toNat = f by omega, pc, e8]⟩ ob hv h9.1 f0 (by omega) rd) zf (fun x0 y0 hz => ?_)
  by_cases q : Xi U 891 10 = -1
  · have := (tc.1 q).1; omega
  obtain ⟨A, y, a1, a2, a3⟩ := tc.2 q
  obtain ⟨B, w, b1, b2⟩ := rd x0
  have y1 : y = 1 := by
    apply Classical.byContradiction
    intro g
    have := (a3 g).1; omega
  have w1 : w = 1 ∧ S1 = B := by
    rcases b2 with b2 | ⟨_, b2⟩
    · exact b2
    · exact absurd (b2.1.symm.trans y0) (by decide)
  have eA := (a2 y1).2
  subst y1
  rw [w1.1] at b1
  rw [eA, w1.2]
  rw [← sbT.1] at b1
  have rv : rg (Xi T 908 (Xi T 904 81).toNat + 1) := by
    rw [f81, show ((f : Int)).toNat = f by omega, e8T]
    have tk := tok 0 (by omega) (by have t := ty7_i (S := U) (i := 0) (by omega) r0; rw [ty0] at t; exact t.symm)
    have u : -2147483648 ≤ Xi U 876 5 ∧ Xi U 876 5 ≤ 2147483647 := Xi_rgI
    have z0 : Xi U 878 0 = Xi U 878 (0 : Int).toNat := rfl
    unfold rg; omega
  have l2 : Xj U 879 0 = Xi T 909 (Xi T 904 81).toNat := by rw [f81, show ((f : Int)).toNat = f by omega]; exact tx.1
  have rl : rg (Xi T 909 (Xi T 904 81).toNat) := by
    have u : -2147483648 ≤ Xi T 909 (Xi T 904 81).toNat ∧ Xi T 909 (Xi T 904 81).toNat ≤ 2147483647 := Xi_rgI
    unfold rg; omega
  have v2 : pc7 U 0 + 1 = Xi T 908 (Xi T 904 81).toNat + 1 := by rw [f81, show ((f : Int)).toNat = f by omega, pc, e8T]
  exact (rpr_o hT t3 (by omega) (by omega) hv ⟨by rw [v2]; exact rv, by rw [l2]; exact rl, rv, rl⟩ a1 b1).1
/-- 9 -/
theorem st_9 {U U1 S T S1 : sS} {f : Nat} {z e1 b e2 : Int} {g : List rec} (h : RLW U S) (t3 : TX3 U) (sc : SCX U S f) (st : RST U S) (tok : TOK U) (hpl : ∀ j : Nat, 0 ≤ Xi U 878 j) (k0 : RNR U S f 0 1 e1) (k1 : RNR U S f 1 b e2) (hw : 0 ≤ Xi U 890 3 + 1 ∧ Xi U 890 3 + 1 < Xi U 876 7) (tb : 0 ≤ ty7 U (Xi U 890 3 + 1) ∧ ty7 U (Xi U 890 3 + 1) ≤ 108) (tg : ty7 U (Xi U 890 3 + 1) = 101 ∨ ty7 U (Xi U 890 3 + 1) = 102 ∨ ty7 U (Xi U 890 3 + 1) = 100) (k2 : ty7 U (Xi U 890 3 + 1) = 100 → RNR U S f 2 (Xi U 890 3 + 1) (re7 (ty7 U) (Xi U 890 3 + 1))) (e78 : Xi S 904 78 = f + (Xi U 890 3 + 1)) (zf : z = 0 → Xi U1 876 8 ≠ 0) (hg : kepC g cUk cUf = true) (tc : TPY g U U1 z e1 b e2 (Xi U 890 3 + 1)) (rc : RPY S T) (Fa : FR md_mo_asked__9f S T) (rd : (NT3 T).1 = 0 → RD9 T S1) : STP U1 T S1 := by
  have hT : RLW U T := h.k t3 KEP.rf (Fa.kep rfl)
  have sT := sc.kS (Fa.kep rfl : KEP [(907, 911)] [] S T)
  have stT : RST U T := ⟨st.1, fun j hj => by rw [(Fa.kep rfl : KEP [(906, 907)] [] S T).x 906 rfl]; exact st.2 j hj⟩
  have sm : SMR S T := SMR_FR Fa rfl rfl
  have hx := h.1.2.2.2.1
  have hC := h.1.2.2.1
  have h15 : 0 ≤ Xi S 904 15 := by have := h.1.1.1; omega
  have rS := scx_s sc h.1
  have pk : fnd U 5 1 e1 = rnR S 0 7 := rn_fnd (s := 7) rS k0 hx h15 (by omega)
  have ok : fnd U 2 b e2 = rnR S 1 4 := rn_fnd (s := 4) rS k1 hx h15 (by omega)
  have kk : fnd U 0 b e2 = rnR S 1 0 := rn_fnd (s := 0) rS k1 hx h15 (by omega)
  have f5 : ∀ {s a b : Int}, fnd U s a b ≠ -1 → mnV U a b / 256 = s ∧ fnd U s a b = mnV U a b % 256 := fun {s a b} q => by
    unfold fnd at q ⊢
    by_cases y : mnV U a b / 256 = s
    · exact ⟨y, if_pos y⟩
    · rw [if_neg y] at q; exact absurd rfl q
  have f5n : ∀ {s a b : Int}, fnd U s a b = -1 → mnV U a b / 256 ≠ s := fun {s a b} q y => by
    unfold fnd at q; rw [if_pos y] at q; omega
  have c0 := h.2.2.1.1
  have c2 := h.2.2.1.2.2.1
  have c5 := h.2.2.1.2.2.2.2.2.1
  have c4 := h.2.2.1.2.2.2.2.1
  have kd := h.2.2.2.1
  have ob := h.2.2.2.2.2.2.2.2.2.1.1
  have kq : k9 U b e2 = kp9 S ∧ k9 U b e2 < Xi U 5 0 ∧ (o9 U b e2 = -1 ↔ kp9 S = -1) ∧ (rnR S 1 4 ≠ -1 → o9 U b e2 = rnR S 1 4) ∧ (rnR S 1 4 = -1 → rnR S 1 0 ≠ -1 → o9 U b e2 = 24 + rnR S 1 0) := by
    unfold k9 kp9 o9
    by_cases q : fnd U 2 b e2 = -1
    · have q1 := f5n q
      rw [if_neg q1, if_neg q1, if_neg (show ¬ (rnR S 1 4 ≠ -1) from fun y => y (by rw [← ok]; exact q)), ← kk]
      by_cases w : fnd U 0 b e2 = -1
      · have w1 := f5n w
        rw [if_neg w1, if_neg w1, w]
        exact ⟨rfl, by omega, ⟨fun _ => rfl, fun _ => rfl⟩, fun y => absurd (by rw [← ok]; exact q) y, fun _ y => absurd rfl y⟩
      · obtain ⟨w1, w2⟩ := f5 w
        have lt : 0 ≤ fnd U 0 b e2 ∧ fnd U 0 b e2 < Xi U 5 0 := fnd_wc (by omega) hC h.2.1 w
        rw [if_pos w1, if_pos w1, ← w2]
        exact ⟨rfl, by omega, ⟨fun y => by omega, fun y => absurd y w⟩, fun y => absurd (by rw [← ok]; exact q) y, fun _ _ => rfl⟩
    · obtain ⟨q1, q2⟩ := f5 q
      have lt : 0 ≤ fnd U 2 b e2 ∧ fnd U 2 b e2 < Xi U 5 2 := fnd_wc (by omega) hC h.2.1 q
      have o := ob.2 (fnd U 2 b e2).toNat (by omega)
      rw [if_pos q1, if_pos q1, ← q2, if_pos (show rnR S 1 4 ≠ -1 by rw [← ok]; exact q), ← ok, o.1]
      exact ⟨rfl, by omega, ⟨fun y => by omega, fun y => by omega⟩, fun _ => rfl, fun y => absurd y q⟩
  obtain ⟨kq1, kq2, kq3, kq4, kq5⟩ := kq
  have pp : pOK U 1 e1 (k9 U b e2) 0 ↔ okp9 S := by
    unfold pOK okp9
    rw [← kq1, ← pk]
    constructor
    · rintro ⟨a1, _, a3⟩
      have ne : fnd U 5 1 e1 ≠ -1 := by unfold fnd; rw [if_pos a1]; omega
      obtain ⟨_, w2⟩ := f5 ne
      have lt : 0 ≤ fnd U 5 1 e1 ∧ fnd U 5 1 e1 < Xi U 5 5 := fnd_wc (by omega) hC h.2.1 ne
      rw [← w2] at a3
      exact ⟨ne, a3.imp id (fun y => (pps_hs kd kq2 (by omega)).1 y)⟩
    · rintro ⟨ne, a3⟩
      obtain ⟨w1, w2⟩ := f5 ne
      have lt : 0 ≤ fnd U 5 1 e1 ∧ fnd U 5 1 e1 < Xi U 5 5 := fnd_wc (by omega) hC h.2.1 ne
      rw [← w2]
      exact ⟨w1, Or.inl rfl, a3.imp id (fun y => (pps_hs kd kq2 (by omega)).2 y)⟩
  have pv : okp9 S → mnV U 1 e1 % 256 = rnR S 0 7 ∧ (0 ≤ rnR S 0 7 ∧ rnR S 0 7 < Xi U 5 5) ∧ Xi U 9 (mnV U 1 e1 % 256).toNat = Xi S 928 (rnR S 0 7).toNat := fun y => by
    have ne : fnd U 5 1 e1 ≠ -1 := by rw [pk]; exact y.1
    obtain ⟨_, w2⟩ := f5 ne
    have lt : 0 ≤ fnd U 5 1 e1 ∧ fnd U 5 1 e1 < Xi U 5 5 := fnd_wc (by omega) hC h.2.1 ne
    rw [← w2, pk]
    rw [pk] at lt
    exact ⟨rfl, lt, (h.2.2.2.2.1.2.1 _ (by omega)).1⟩
  obtain ⟨t1, t2, t3', t4⟩ := tc
  obtain ⟨r1, r2, r3, r4⟩ := rc
  have wp : pc7 U (Xi U 890 3 + 1) = Xi S 908 (Xi S 904 78).toNat := by
    unfold pc7
    rw [if_pos hw, e78, show ((f : Int) + (Xi U 890 3 + 1)).toNat = f + (Xi U 890 3 + 1).toNat by omega]
    exact (sc.1 (Xi U 890 3 + 1).toNat (by omega)).1.symm
  have ff : ∀ {c r p : Int}, (z = 0 ∧ FTO U U1 c r) → pc7 U r = p → NTB (NT3 T) c p → c ≠ 0 → STP U1 T S1 := fun a b c d => by
    refine Or.inl ⟨by rw [a.2.1]; exact d, Or.inl ?_⟩
    rw [a.2.1, a.2.2, b]; exact c
  by_cases q : okp9 S
  · obtain ⟨pv1, pv2, pv3⟩ := pv q
    by_cases w : kp9 S = -1
    · exact ff (t2 (pp.2 q) (kq3.2 w)) (rn_pc rS k1) (r2 q w) (by decide)
    · have on : o9 U b e2 ≠ -1 := fun y => w (kq3.1 y)
      have wr := whr_r (tp := Xi S 928 (rnR S 0 7).toNat) sc h.1 h.2.1 h.2.2.2.2.1 hw tb tg k2
      rw [← e78] at wr
      rw [pv3] at t3' t4
      by_cases v : wOKR S (Xi S 904 78) 2 (Xi S 928 (rnR S 0 7).toNat)
      · obtain ⟨x0, x3, x4⟩ := r4 q w v
        obtain ⟨A, B, x, l, y, w1, w2, w3, w4, w5⟩ := t4 (pp.2 q) on (wr.2 v)
        obtain ⟨D, y2, d1, d2, d3⟩ := rd x0
        obtain ⟨_, v1, v2, v3⟩ := wr.1 x l w1
        have e117 : Xi T 904 117 = Xi S 904 117 := Fa.x 904 117 rfl
        have e8 : Xi T 928 (rnR S 0 7).toNat = Xi S 928 (rnR S 0 7).toNat := (Fa.kep rfl : KEP [(928, 929)] [] S T).x 928 rfl _
        rw [rnR_sm sm, rnR_sm sm, e117, x3, x4, ← v1, ← v2] at d1
        rw [rnR_sm sm, rnR_sm sm, rnR_sm sm, e117, x3, x4, ← v1, ← v2] at d2
        have hA : RLW A T := hT.k t3 (w2.kep hg) KEP.rf
        have kA : KEP cUk cUf U A := w2.kep hg
        have tA : TX3 A := by unfold TX3 at t3 ⊢; rw [txr_k kA (by decide)]; exact t3
        have txA := txr_k kA (by decide)
        have taA := tx_k t3 kA rfl rfl rfl
        have cA : ∀ j, Xi A 5 j = Xi U 5 j := kA.x 5 rfl
        have hv : VLQ A T (rnR S 0 7) x l x l := by
          refine ⟨fun y => ?_, fun _ => rfl⟩
          rw [e8] at y
          have t := txt_r sT stT tok (hpl _) hw (v3 y)
          have t2 : tr7 (ty7 U (Xi U 890 3 + 1)) = 5 := (tr_101 tb).2.2 (v3 y)
          have k7 : Xi S 907 (Xi S 904 78).toNat = 5 := by
            rw [e78, show ((f : Int) + (Xi U 890 3 + 1)).toNat = f + (Xi U 890 3 + 1).toNat by omega, (sc.1 (Xi U 890 3 + 1).toNat (by omega)).2.1, ← ty7_i hw.1 hw.2]; exact t2
          have a8 := (Fa.kep rfl : KEP [(908, 910)] [] S T).x 908 rfl
          have a9 := (Fa.kep rfl : KEP [(908, 910)] [] S T).x 909 rfl
          have xx : x = Xi S 908 (Xi S 904 78).toNat + 1 := by rw [v1]; unfold wvR; rw [if_neg (by omega), if_pos k7]
          have ll : l = Xi S 909 (Xi S 904 78).toNat := by rw [v2]; unfold wlR; rw [if_pos k7]
          rw [a8, a9] at t
          have e := (show ((f : Int) + (Xi U 890 3 + 1)).toNat = f + (Xi U 890 3 + 1).toNat by omega)
          rw [← e, ← e78] at t
          have lx : Xj U 879 (Xi U 890 3 + 1).toNat = l := t.1.trans ll.symm
          rw [lx, ← ll, ← xx, wp, ← xx] at t
          exact t.k txA taA (fun _ => rfl)
        have rx : rg x ∧ rg l := by
          have u1 : -2147483648 ≤ Xi T 973 (Xi S 904 117).toNat ∧ Xi T 973 (Xi S 904 117).toNat ≤ 2147483647 := Xi_rgI
          have u2 : -2147483648 ≤ Xi T 974 (Xi S 904 117).toNat ∧ Xi T 974 (Xi S 904 117).toNat ≤ 2147483647 := Xi_rgI
          unfold rg; omega
        rw [pv1] at w3
        by_cases o4 : rnR S 1 4 = -1
        · have k4 : rnR S 1 0 ≠ -1 := fun y => w (by unfold kp9; rw [if_neg (fun z => z o4)]; exact y)
          have lt : 0 ≤ rnR S 1 0 ∧ rnR S 1 0 < Xi U 5 0 := by rw [← kk]; exact fnd_wc (by omega) hC h.2.1 (by rw [kk]; exact k4)
          have u := d2 o4
          rw [kq5 o4 k4] at w3
          have pr := (hA.2.2.2.2.2.2.2.2.2.2.2.2.1.2.1 (rnR S 1 0).toNat (rnR S 0 7).toNat (by rw [cA]; omega) (by omega)).1
          rw [show (((rnR S 1 0).toNat : Nat) : Int) = rnR S 1 0 by omega, show (((rnR S 0 7).toNat : Nat) : Int) = rnR S 0 7 by omega] at pr
          have e9 := (hA.2.2.2.2.1.2.1 (rnR S 0 7).toNat (by rw [cA]; omega)).1
          have tr := tpc_r pr hv e9 w3 u
          rcases d3 with ⟨d3, d4⟩ | ⟨d3, d4⟩
          · obtain ⟨g1, g2, g3⟩ := w4 (by omega)
            rw [show y = 1 by omega] at w3
            rw [d3] at u
            refine Or.inr ⟨g3, x0, ?_, ?_⟩
            · show Xi S1 904 106 = 0
              rw [d4, (pvr_t (by omega) (by omega) lt.1 pr hv ⟨rx.1, rx.2, rx.1, rx.2⟩ (Or.inr rfl) tA w3 u e9).2.2.2]
              unfold tPR
              rw [Xi_ne (by omega), Xi_ne (by omega), Xi_ne (by omega)]; exact x0
            · rw [g2, d4]
              exact (rpr_k hA tA (by rw [cA]; exact lt) (by rw [cA]; exact pv2) hv ⟨rx.1, rx.2, rx.1, rx.2⟩ w3 u).1
          · obtain ⟨g1, g2, g3⟩ := w5 (by omega)
            refine Or.inl ⟨by rw [g2]; decide, Or.inr ⟨x0, ?_⟩⟩
            rw [g2, g3, rn_pc rS k1, ← pR_sm sm]; exact d4
        · have lt : 0 ≤ rnR S 1 4 ∧ rnR S 1 4 < Xi U 5 2 := by rw [← ok]; exact fnd_wc (by omega) hC h.2.1 (by rw [ok]; exact o4)
          have u := d1 o4
          rw [kq4 o4] at w3
          have pr := (hA.2.2.2.2.2.2.2.2.2.2.2.2.1.1 (rnR S 1 4).toNat (rnR S 0 7).toNat (by rw [cA]; omega) (by omega)).1
          rw [show (((rnR S 1 4).toNat : Nat) : Int) = rnR S 1 4 by omega, show (((rnR S 0 7).toNat : Nat) : Int) = rnR S 0 7 by omega] at pr
          have e9 := (hA.2.2.2.2.1.2.1 (rnR S 0 7).toNat (by rw [cA]; omega)).1
          have tr := tpc_r pr hv e9 w3 u
          rcases d3 with ⟨d3, d4⟩ | ⟨d3, d4⟩
          · obtain ⟨g1, g2, g3⟩ := w4 (by omega)
            rw [show y = 1 by omega] at w3
            rw [d3] at u
            refine Or.inr ⟨g3, x0, ?_, ?_⟩
            · show Xi S1 904 106 = 0
              rw [d4, (pvr_t (by omega) (by omega) lt.1 pr hv ⟨rx.1, rx.2, rx.1, rx.2⟩ (Or.inl rfl) tA w3 u e9).2.2.2]
              unfold tPR
              rw [Xi_ne (by omega), Xi_ne (by omega), Xi_ne (by omega)]; exact x0
            · rw [g2, d4]
              exact (rpr_o hA tA (by rw [cA]; exact lt) (by rw [cA]; exact pv2) hv ⟨rx.1, rx.2, rx.1, rx.2⟩ w3 u).1
          · obtain ⟨g1, g2, g3⟩ := w5 (by omega)
            refine Or.inl ⟨by rw [g2]; decide, Or.inr ⟨x0, ?_⟩⟩
            rw [g2, g3, rn_pc rS k1, ← pR_sm sm]; exact d4
      · exact ff (t3' (pp.2 q) on (fun x l y => v (wr.1 x l y).1)) wp (r3 q w v) (by decide)
  · exact ff (t1 (fun y => q (pp.1 y))) (rn_pc rS k0) (r1 q) (by decide)
end
section
/-! class and reference: ADJECTIVES, DESCRIPTIONS -/
theorem hs_01 {S : sS} {p : Int} : ∀ (f : Nat) (k : Int), hsN S p f k = 0 ∨ hsN S p f k = 1
  | 0, _ => Or.inl rfl
  | f + 1, k => by
    unfold hsN
    by_cases q : k < 0
    · rw [if_pos q]; exact Or.inl rfl
    · rw [if_neg q]
      by_cases w : Xi S 929 (12 * k + p).toNat ≠ 0
      · rw [if_pos w]; exact Or.inr rfl
      · rw [if_neg w]; exact hs_01 f _
theorem hs_lt {U S : sS} {p : Int} (kd : KND U S) (ty : RTY U S) (hp : 0 ≤ p ∧ p < 12) : ∀ (f : Nat) (k : Int), k < Xi U 5 0 → hsN S p f k ≠ 0 → p < Xi U 5 5
  | 0, _, _, h => absurd rfl h
  | f + 1, k, hk, h => by
    unfold hsN at h
    by_cases q : k < 0
    · rw [if_pos q] at h; exact absurd rfl h
    · rw [if_neg q] at h
      by_cases w : Xi S 929 (12 * k + p).toNat ≠ 0
      · have t := ty.2.2.1 k.toNat p.toNat (by omega) (by omega) (by rw [show 12 * k.toNat + p.toNat = (12 * k + p).toNat by omega]; exact w)
        omega
      · rw [if_neg w] at h
        have t := kd.2 k.toNat (by omega)
        exact hs_lt kd ty hp f _ (by omega) h
theorem bl_01 {S : sS} {o : Int} : ∀ (f : Nat) (k : Int), blN S o f k = 0 ∨ blN S o f k = 1
  | 0, _ => Or.inl rfl
  | f + 1, k => by
    unfold blN
    by_cases q : k < 0
    · rw [if_pos q]; exact Or.inl rfl
    · rw [if_neg q]
      by_cases w : k = o
      · rw [if_pos w]; exact Or.inr rfl
      · rw [if_neg w]; exact bl_01 f _
/-- how often -/
def cqn (b : Nat → Bool) : Nat → Int
  | 0 => 0
  | m + 1 => cqn b m + (if b m then 1 else 0)
theorem cqn_nn {b : Nat → Bool} : ∀ m : Nat, 0 ≤ cqn b m
  | 0 => Int.le_refl _
  | m + 1 => by
    have t := cqn_nn (b := b) m
    unfold cqn
    split <;> omega
theorem cqn_f {b : Nat → Bool} {m : Nat} : ∀ n : Nat, (∀ i, m ≤ i → i < m + n → b i = false) → cqn b (m + n) = cqn b m
  | 0, _ => rfl
  | n + 1, h => by
    show cqn b (m + n) + (if b (m + n) then 1 else 0) = cqn b m
    rw [cqn_f n (fun i a c => h i a (by omega)), h (m + n) (by omega) (by omega)]
    simp
theorem cqn_1 {b : Nat → Bool} : ∀ m : Nat, cqn b m = 1 → ∃ p : Nat, p < m ∧ b p = true ∧ ∀ i, i < m → b i = true → i = p
  | 0, h => absurd (show (0 : Int) = 1 from h) (by decide)
  | m + 1, h => by
    have h : cqn b m + (if b m then 1 else 0) = 1 := h
    by_cases q : b m = true
    · rw [if_pos q] at h
      have z : cqn b m = 0 := by omega
      refine ⟨m, by omega, q, fun i hi e => ?_⟩
      apply Classical.byContradiction
      intro ne
      have no : ∀ n : Nat, cqn b n = 0 → ∀ j, j < n → b j = false := fun n => by
        induction n with
        | zero => intro _ j hj; omega
        | succ n ih =>
          intro c j hj
          have c : cqn b n + (if b n then 1 else 0) = 0 := c
          have t := cqn_nn (b := b) n
          by_cases w : b n = true
          · rw [if_pos w] at c; omega
          · rw [if_neg w] at c
            by_cases e : j = n
            · subst e; exact Bool.eq_false_iff.mpr w
            · exact ih (by omega) j (by omega)
      have t := no m z i (by omega)
      rw [e] at t; cases t
    · rw [if_neg q] at h
      obtain ⟨p, a, c, d⟩ := cqn_1 (b := b) m (by omega)
      exact ⟨p, by omega, c, fun i hi e => d i (by
        apply Classical.byContradiction
        intro w
        rw [show i = m by omega] at e
        exact q e) e⟩
theorem mtN_c {S : sS} {k t : Int} {b : Nat → Bool} : ∀ m : Nat, (∀ i, i < m → (b i = true ↔ Xi S 928 i = t ∧ hsR S k i = 1)) → mtN S k t m = cqn b m
  | 0, _ => rfl
  | m + 1, h => by
    unfold mtN cqn
    rw [mtN_c m (fun i hi => h i (by omega))]
    have t := h m (by omega)
    by_cases q : b m = true
    · rw [if_pos q, if_pos (t.1 q)]
    · rw [if_neg q, if_neg (fun y => q (t.2 y))]
theorem rvn_c {U : sS} {hs t : Int} {b : Nat → Bool} : ∀ (n : Nat) (p : Nat) (c : Int), (∀ i, p ≤ i → i < p + n → (b i = true ↔ iandF (ishrF hs i) 1 = 1 ∧ Xi U 9 i = t)) → rvn U hs t n p c = c + cqn b (p + n) - cqn b p
  | 0, p, c, _ => by show c = c + cqn b p - cqn b p; omega
  | n + 1, p, c, h => by
    show rvn U hs t n ((p : Int) + 1) (if iandF (ishrF hs p) 1 = 1 ∧ Xi U 9 ((p : Int)).toNat = t then c + 1 else c) = _
    rw [show (p : Int) + 1 = ((p + 1 : Nat) : Int) by omega, rvn_c n (p + 1) _ (fun i a d => h i (by omega) (by omega)), show p + 1 + n = p + (n + 1) by omega, show ((p : Int)).toNat = p by omega]
    have e : cqn b (p + 1) = cqn b p + (if b p then 1 else 0) := rfl
    have u := h p (by omega) (by omega)
    rw [e]
    by_cases q : b p = true
    · rw [if_pos q, if_pos (u.1 q)]; omega
    · rw [if_neg q, if_neg (fun y => q (u.2 y))]; omega
theorem rln_o {U : sS} {hs t : Int} {b : Nat → Bool} : ∀ (n : Nat) (p : Nat) (l : Int), (∀ i, p ≤ i → i < p + n → (b i = true ↔ iandF (ishrF hs i) 1 = 1 ∧ Xi U 9 i = t)) → (∀ i, p ≤ i → i < p + n → b i = false) → rln U hs t n p l = l
  | 0, _, _, _, _ => rfl
  | n + 1, p, l, h, g => by
    show rln U hs t n ((p : Int) + 1) (if iandF (ishrF hs p) 1 = 1 ∧ Xi U 9 ((p : Int)).toNat = t then (p : Int) else l) = l
    have u := h p (by omega) (by omega)
    rw [show (p : Int) + 1 = ((p + 1 : Nat) : Int) by omega, show ((p : Int)).toNat = p by omega, if_neg (fun y => by have := u.2 y; rw [g p (by omega) (by omega)] at this; cases this)]
    exact rln_o n (p + 1) l (fun i a d => h i (by omega) (by omega)) (fun i a d => g i (by omega) (by omega))
theorem rln_1 {U : sS} {hs t : Int} {b : Nat → Bool} {q : Nat} (hq : b q = true) : ∀ (n : Nat) (p : Nat) (l : Int), (∀ i, p ≤ i → i < p + n → (b i = true ↔ iandF (ishrF hs i) 1 = 1 ∧ Xi U 9 i = t)) → (∀ i, p ≤ i → i < p + n → b i = true → i = q) → p ≤ q → q < p + n → rln U hs t n p l = q
  | 0, _, _, _, _, a, b => absurd b (by omega)
  | n + 1, p, l, h, g, a, d => by
    show rln U hs t n ((p : Int) + 1) (if iandF (ishrF hs p) 1 = 1 ∧ Xi U 9 ((p : Int)).toNat = t then (p : Int) else l) = q
    have u := h p (by omega) (by omega)
    rw [show (p : Int) + 1 = ((p + 1 : Nat) : Int) by omega, show ((p : Int)).toNat = p by omega]
    by_cases e : p = q
    · subst e
      rw [if_pos (u.1 hq)]
      exact rln_o n (p + 1) _ (fun i x y => h i (by omega) (by omega)) (fun i x y => Bool.eq_false_iff.mpr (fun z => by have := g i (by omega) (by omega) z; omega))
    · rw [if_neg (fun y => e (g p (by omega) (by omega) (u.2 y)))]
      exact rln_1 hq n (p + 1) l (fun i x y => h i (by omega) (by omega)) (fun i x y z => g i (by omega) (by omega) z) (by omega) (by omega)
theorem fpN_n {S : sS} {k t : Int} {b : Nat → Bool} : ∀ m : Nat, (∀ i, i < m → (b i = true ↔ Xi S 928 i = t ∧ hsR S k i = 1)) → (∀ i, i < m → b i = false) → fpN S k t m = -1
  | 0, _, _ => rfl
  | m + 1, h, g => by
    unfold fpN
    have u := h m (by omega)
    rw [fpN_n m (fun i hi => h i (by omega)) (fun i hi => g i (by omega)), if_neg (fun y => y rfl), if_neg (fun y => by have := u.2 y; rw [g m (by omega)] at this; cases this)]
theorem fpN_1 {S : sS} {k t : Int} {b : Nat → Bool} {q : Nat} (hq : b q = true) : ∀ m : Nat, (∀ i, i < m → (b i = true ↔ Xi S 928 i = t ∧ hsR S k i = 1)) → (∀ i, i < m → b i = true → i = q) → q < m → fpN S k t m = q
  | 0, _, _, a => absurd a (by omega)
  | m + 1, h, g, a => by
    unfold fpN
    have u := h m (by omega)
    by_cases e : q = m
    · subst e
      rw [fpN_n q (fun i hi => h i (by omega)) (fun i hi => Bool.eq_false_iff.mpr (fun z => by have := g i (by omega) z; omega)), if_neg (fun y => y rfl), if_pos (u.1 hq)]
    · rw [fpN_1 hq m (fun i hi => h i (by omega)) (fun i hi z => g i (by omega) z) (by omega), if_pos (by omega)]
/-- a value of a kind: how many properties, and which -/
theorem val_r {U S : sS} {k t : Int} (kd : KND U S) (ty : RTY U S) (c : RCT U S) (hk : 0 ≤ k ∧ k < Xi U 5 0) : rvn U (pps U k) t 12 0 0 = mtR S k t ∧ (mtR S k t = 1 → rln U (pps U k) t 12 0 (-1) = pyR S k t ∧ 0 ≤ pyR S k t ∧ pyR S k t < Xi U 5 5) ∧ 0 ≤ mtR S k t := by
  have c5 := c.2.2.2.2.2.1
  have b : ∃ b : Nat → Bool, ∀ i, b i = true ↔ Xi S 928 i = t ∧ hsR S k i = 1 := ⟨fun i => decide (Xi S 928 i = t ∧ hsR S k i = 1), fun i => by simp⟩
  obtain ⟨b, hb⟩ := b
  have cl : ∀ i : Nat, i < 12 → (b i = true ∧ (i : Int) < Xi U 5 5 ↔ iandF (ishrF (pps U k) i) 1 = 1 ∧ Xi U 9 i = t) := fun i hi => by
    have p := pps_hs (p := (i : Int)) kd hk.2 (by omega)
    have o := hs_01 (S := S) (p := (i : Int)) 17 k
    have w : iandF (ishrF (pps U k) i) 1 = 0 ∨ iandF (ishrF (pps U k) i) 1 = 1 := by
      rw [bt_gb (by omega)]; split
      · exact Or.inr rfl
      · exact Or.inl rfl
    have pe : iandF (ishrF (pps U k) i) 1 = 1 ↔ hsR S k i = 1 := by
      unfold hsR at p ⊢
      constructor
      · intro y; rcases o with o | o
        · exact absurd o (p.1 (by omega))
        · exact o
      · intro y; rcases w with w | w
        · exact absurd w (p.2 (by omega))
        · exact w
    rw [hb, pe]
    constructor
    · rintro ⟨⟨a1, a2⟩, a3⟩
      exact ⟨a2, by rw [(ty.2.1 i a3).1]; exact a1⟩
    · rintro ⟨a1, a2⟩
      have lt : (i : Int) < Xi U 5 5 := hs_lt kd ty (by omega) 17 k hk.2 (by have : hsR S k i = 1 := a1; unfold hsR at this; omega)
      exact ⟨⟨by rw [← (ty.2.1 i lt).1]; exact a2, a1⟩, lt⟩
  have cb : ∃ d : Nat → Bool, ∀ i, d i = true ↔ (b i = true ∧ (i : Int) < Xi U 5 5) := ⟨fun i => decide (b i = true ∧ (i : Int) < Xi U 5 5), fun i => by simp⟩
  obtain ⟨d, hd⟩ := cb
  have dU : ∀ i, 0 ≤ i → i < 0 + 12 → (d i = true ↔ iandF (ishrF (pps U k) i) 1 = 1 ∧ Xi U 9 i = t) := fun i _ h => by rw [hd]; exact cl i (by omega)
  have dS : ∀ i, i < (Xi S 904 32).toNat → (d i = true ↔ Xi S 928 i = t ∧ hsR S k i = 1) := fun i h => by
    rw [hd, hb]; exact ⟨fun y => y.1, fun y => ⟨y, by omega⟩⟩
  have e1 := rvn_c (U := U) (hs := pps U k) (t := t) 12 0 0 dU
  have e2 : mtR S k t = cqn d (Xi S 904 32).toNat := by unfold mtR; rw [if_neg (by omega)]; exact mtN_c _ dS
  have e3 : cqn d 12 = cqn d (Xi S 904 32).toNat := by
    have t := cqn_f (b := d) (m := (Xi S 904 32).toNat) (12 - (Xi S 904 32).toNat) (fun i a _ => Bool.eq_false_iff.mpr (fun z => by have := (hd i).1 z; omega))
    rw [show (Xi S 904 32).toNat + (12 - (Xi S 904 32).toNat) = 12 by omega] at t
    exact t
  have e1 : rvn U (pps U k) t 12 0 0 = cqn d 12 := by
    have z : cqn d 0 = 0 := rfl
    have u : ((0 : Nat) : Int) = 0 := rfl
    rw [u] at e1
    rw [e1, z, show 0 + 12 = 12 from rfl]; omega
  refine ⟨by rw [e1, e3, e2], fun h1 => ?_, by rw [e2]; exact cqn_nn _⟩
  rw [e2] at h1
  obtain ⟨p, p1, p2, p3⟩ := cqn_1 _ h1
  have pl := ((hd p).1 p2).2
  have r1 := rln_1 (U := U) (hs := pps U k) (t := t) p2 12 0 (-1) dU (fun i _ _ y => p3 i (by have := (hd i).1 y; omega) y) (by omega) (by omega)
  have r2 := fpN_1 (S := S) (k := k) (t := t) p2 (Xi S 904 32).toNat dS (fun i h y => p3 i h y) p1
  have r3 : pyR S k t = p := by unfold pyR; rw [if_neg (by omega)]; exact r2
  rw [r3]
  exact ⟨r1, by omega, pl⟩
/-- an ADJECTIVE, in the class's and in the reference's numbers -/
def COD (m p c : Int) : Prop := (p = -1 ∧ c = m ∧ 0 ≤ m ∧ m < 24) ∨ ((0 ≤ p ∧ p < 12) ∧ c = 100 + 100 * m + p ∧ 0 ≤ m ∧ m < 64)
theorem adj_r {U S : sS} {a b t n k d v : Int} (h : RLW U S) (m : mnV U a b = mR S t n) (hk : 0 ≤ k ∧ k < Xi U 5 0) : raF U k a b v d = adR S t n k d v ∧ (adR S t n k d v = 1 → COD (mnV U a b % 256) (rlF U k a b v) (acR S t n k d v) ∧ (rlF U k a b v = -1 → mnV U a b % 256 < Xi U 5 3) ∧ (rlF U k a b v ≠ -1 → rlF U k a b v < Xi U 5 5 ∧ mnV U a b % 256 < Xi U 5 4 ∧ Xi U 8 (mnV U a b % 256).toNat ≠ 1 ∧ Xi U 9 (rlF U k a b v).toNat = Xi U 8 (mnV U a b % 256).toNat)) := by
  have hx := h.1.2.2.2.1
  have hC := h.1.2.2.1
  have h15 : 0 ≤ Xi S 904 15 := by have := h.1.1.1; omega
  have kd := h.2.2.2.1
  have c := h.2.2.1
  have c3 := c.2.2.2.1
  have c4 := c.2.2.2.2.1
  have c5 := c.2.2.2.2.2.1
  have ty := h.2.2.2.2.1
  rcases mR_cs (t := t) (n := n) hx h15 with ⟨q, e⟩ | ⟨q, e1, e2, e3, e4, e5⟩
  · have z : raF U k a b v d = 0 := by unfold raF; rw [m, e, if_neg (by decide), if_pos (Or.inl (by decide))]
    have y : adR S t n k d v = 0 := by unfold adR; rw [if_pos q]
    rw [z, y]
    exact ⟨rfl, fun w => absurd w (by decide)⟩
  · rw [← m] at e1 e2 e5
    have fnd_of : ∀ s : Int, mnV U a b / 256 = s → 0 ≤ s → 0 ≤ mnV U a b % 256 ∧ mnV U a b % 256 < wcU U s := fun s hs h0 => by
      have f : fnd U s a b = mnV U a b % 256 := by unfold fnd; rw [if_pos hs]
      have t := fnd_wc (a := a) (b := b) h0 hC h.2.1 (by rw [f]; omega)
      rw [f] at t; exact t
    by_cases w3 : mnV U a b / 256 = 3
    · have s5 : Xi S 914 (nmR S t n).toNat = 5 := sg_inj ⟨e3, e4⟩ (by omega) (by rw [← e1]; exact w3)
      have lt : 0 ≤ mnV U a b % 256 ∧ mnV U a b % 256 < Xi U 5 3 := fnd_of 3 w3 (by omega)
      have aj := h.2.2.2.2.2.1 (mnV U a b % 256).toNat (by omega)
      have ik : isK U k (Xi U 10 (mnV U a b % 256).toNat) = blR S k (Xi S 921 (mnV U a b % 256).toNat) := by rw [aj.1.1]; exact isK_bl kd hk.2
      have o1 := bl_01 (S := S) (o := Xi S 921 (mnV U a b % 256).toNat) 17 k
      have l1 : rlF U k a b v = -1 := by unfold rlF; rw [if_pos (Or.inl (by omega))]
      unfold raF adR acR
      rw [if_pos w3, if_neg q, if_neg q, ← e2, s5, ik, l1]
      have ct : (d ≠ 0 ∨ Xi U 11 (mnV U a b % 256).toNat ≠ -1) ↔ (d ≠ 0 ∨ Xi S 924 (mnV U a b % 256).toNat = 0) := by
        have := aj.2.2.1
        constructor
        · rintro (y | y)
          · exact Or.inl y
          · exact Or.inr (Classical.byContradiction (fun z => y (this.2 z)))
        · rintro (y | y)
          · exact Or.inl y
          · exact Or.inr (fun z => (this.1 z) y)
      by_cases g : blR S k (Xi S 921 (mnV U a b % 256).toNat) ≠ 0 ∧ (d ≠ 0 ∨ Xi U 11 (mnV U a b % 256).toNat ≠ -1)
      · have g2 : (5 : Int) = 5 ∧ blR S k (Xi S 921 (mnV U a b % 256).toNat) = 1 ∧ (d ≠ 0 ∨ Xi S 924 (mnV U a b % 256).toNat = 0) := ⟨rfl, by unfold blR at g ⊢; omega, ct.1 g.2⟩
        rw [if_pos g, if_pos g2, if_pos g2]
        exact ⟨rfl, fun _ => ⟨Or.inl ⟨rfl, rfl, by omega, by omega⟩, fun _ => lt.2, fun y => absurd rfl y⟩⟩
      · have g2 : ¬ ((5 : Int) = 5 ∧ blR S k (Xi S 921 (mnV U a b % 256).toNat) = 1 ∧ (d ≠ 0 ∨ Xi S 924 (mnV U a b % 256).toNat = 0)) := fun y => g ⟨by omega, ct.2 y.2.2⟩
        rw [if_neg g, if_neg g2, if_neg g2, if_neg (by omega), if_neg (by omega)]
        exact ⟨rfl, fun y => absurd y (by decide)⟩
    · have n5 : Xi S 914 (nmR S t n).toNat ≠ 5 := fun y => w3 (by rw [e1, y]; rfl)
      by_cases w4 : mnV U a b / 256 = 4 ∧ v ≠ 0
      · have s6 : Xi S 914 (nmR S t n).toNat = 6 := sg_inj ⟨e3, e4⟩ (by omega) (by rw [← e1]; exact w4.1)
        have lt : 0 ≤ mnV U a b % 256 ∧ mnV U a b % 256 < Xi U 5 4 := fnd_of 4 w4.1 (by omega)
        have tv := ty.1 (mnV U a b % 256).toNat (by omega)
        obtain ⟨v1, v2, v3⟩ := val_r (t := Xi S 927 (mnV U a b % 256).toNat) kd ty c hk
        have l1 : rlF U k a b v = rln U (pps U k) (Xi S 927 (mnV U a b % 256).toNat) 12 0 (-1) := by unfold rlF; rw [if_neg (by omega), tv.1]
        unfold raF adR acR
        rw [if_neg w3, if_neg (show ¬ (mnV U a b / 256 ≠ 4 ∨ v = 0) by omega), if_neg q, if_neg q, if_neg (show ¬ (Xi S 914 (nmR S t n).toNat = 5 ∧ blR S k (Xi S 921 (Xi S 915 (nmR S t n).toNat).toNat) = 1 ∧ (d ≠ 0 ∨ Xi S 924 (Xi S 915 (nmR S t n).toNat).toNat = 0)) from fun y => n5 y.1), if_neg (show ¬ (Xi S 914 (nmR S t n).toNat = 5 ∧ blR S k (Xi S 921 (Xi S 915 (nmR S t n).toNat).toNat) = 1 ∧ (d ≠ 0 ∨ Xi S 924 (Xi S 915 (nmR S t n).toNat).toNat = 0)) from fun y => n5 y.1), if_pos (show Xi S 914 (nmR S t n).toNat = 6 ∧ v ≠ 0 from ⟨s6, w4.2⟩), if_pos (show Xi S 914 (nmR S t n).toNat = 6 ∧ v ≠ 0 from ⟨s6, w4.2⟩), ← e2, tv.1, l1]
        refine ⟨v1, fun y => ?_⟩
        obtain ⟨r1, r2, r3⟩ := v2 y
        rw [r1, if_neg (by omega)]
        refine ⟨Or.inr ⟨by omega, rfl, by omega, by omega⟩, fun z => by omega, fun _ => ⟨r3, lt.2, by rw [← tv.1]; omega, ?_⟩⟩
        have tp := ty.2.1 (pyR S k (Xi S 927 (mnV U a b % 256).toNat)).toNat (by omega)
        rw [tp.1]
        have pe : pyR S k (Xi S 927 (mnV U a b % 256).toNat) ≠ -1 := by omega
        unfold pyR at pe ⊢
        rw [if_neg (by omega)] at pe ⊢
        have fp : ∀ m : Nat, fpN S k (Xi S 927 (mnV U a b % 256).toNat) m ≠ -1 → Xi S 928 (fpN S k (Xi S 927 (mnV U a b % 256).toNat) m).toNat = Xi S 927 (mnV U a b % 256).toNat := fun m => by
          induction m with
          | zero => intro z; exact absurd rfl z
          | succ m ih =>
            intro z
            unfold fpN at z ⊢
            by_cases g : fpN S k (Xi S 927 (mnV U a b % 256).toNat) m ≠ -1
            · rw [if_pos g]; exact ih g
            · rw [if_neg g] at z ⊢
              by_cases g2 : Xi S 928 m = Xi S 927 (mnV U a b % 256).toNat ∧ hsR S k m = 1
              · rw [if_pos g2, show ((m : Int)).toNat = m by omega]; exact g2.1
              · rw [if_neg g2] at z; exact absurd rfl z
        exact fp _ pe
      · have n6 : ¬ (Xi S 914 (nmR S t n).toNat = 6 ∧ v ≠ 0) := fun y => w4 ⟨by rw [e1, y.1]; rfl, y.2⟩
        unfold raF adR
        rw [if_neg w3, if_pos (show mnV U a b / 256 ≠ 4 ∨ v = 0 by omega), if_neg q, if_neg (show ¬ (Xi S 914 (nmR S t n).toNat = 5 ∧ blR S k (Xi S 921 (Xi S 915 (nmR S t n).toNat).toNat) = 1 ∧ (d ≠ 0 ∨ Xi S 924 (Xi S 915 (nmR S t n).toNat).toNat = 0)) from fun y => n5 y.1), if_neg n6]
        exact ⟨rfl, fun y => absurd y (by decide)⟩
/-- the same readings, counted from another place on -/
theorem cpf_sh {f g : Int → Int → Int} {z s : Int} (h : ∀ x y : Int, 0 ≤ x → x < y → y ≤ z → f x y = g (x + s) (y + s)) : ∀ m : Nat, (m : Int) ≤ z → cpf f z m = cpf g (z + s) m
  | 0, _ => rfl
  | 1, hm => by
    unfold cpf
    rw [cpf_sh h 0 (by omega), h (z - 1) z (by omega) (by omega) (by omega), show z - 1 + s = z + s - 1 by omega]
  | 2, hm => by
    unfold cpf
    rw [cpf_sh h 1 (by omega), cpf_sh h 0 (by omega), h (z - 2) (z - 1) (by omega) (by omega) (by omega), h (z - 2) z (by omega) (by omega) (by omega), show z - 2 + s = z + s - 2 by omega, show z - 1 + s = z + s - 1 by omega]
  | m + 3, hm => by
    unfold cpf
    rw [cpf_sh h (m + 2) (by omega), cpf_sh h (m + 1) (by omega), cpf_sh h m (by omega), h (z - (m + 3)) (z - (m + 2)) (by omega) (by omega) (by omega), h (z - (m + 3)) (z - (m + 1)) (by omega) (by omega) (by omega), h (z - (m + 3)) (z - m) (by omega) (by omega) (by omega)]
    rw [show z - ((m : Int) + 3) + s = z + s - (m + 3) by omega, show z - ((m : Int) + 2) + s = z + s - (m + 2) by omega, show z - ((m : Int) + 1) + s = z + s - (m + 1) by omega, show z - (m : Int) + s = z + s - m by omega]
theorem nxt_sh {f g : Int → Int → Int} {z s p : Int} (h : ∀ x y : Int, 0 ≤ x → x < y → y ≤ z → f x y = g (x + s) (y + s)) (hp : 0 ≤ p) : nxt f z p = nxt g (z + s) (p + s) := by
  unfold nxt
  have e : ∀ i : Int, 1 ≤ i → ((p + i ≤ z ∧ 0 < f p (p + i) ∧ 0 < cpf f z (z - (p + i)).toNat) ↔ (p + s + i ≤ z + s ∧ 0 < g (p + s) (p + s + i) ∧ 0 < cpf g (z + s) (z + s - (p + s + i)).toNat)) := fun i hi => by
    constructor
    · rintro ⟨a, b, c⟩
      rw [h p (p + i) hp (by omega) a] at b
      rw [cpf_sh h _ (by omega)] at c
      exact ⟨by omega, by rw [show p + s + i = p + i + s by omega]; exact b, by rw [show z + s - (p + s + i) = z - (p + i) by omega]; exact c⟩
    · rintro ⟨a, b, c⟩
      have a' : p + i ≤ z := by omega
      rw [show p + s + i = p + i + s by omega, ← h p (p + i) hp (by omega) a'] at b
      rw [show z + s - (p + s + i) = z - (p + i) by omega, ← cpf_sh h _ (by omega)] at c
      exact ⟨a', b, c⟩
  have e1 := e 1 (by omega)
  have e2 := e 2 (by omega)
  by_cases q : p + 1 ≤ z ∧ 0 < f p (p + 1) ∧ 0 < cpf f z (z - (p + 1)).toNat
  · rw [if_pos q, if_pos (e1.1 q)]
  · rw [if_neg q, if_neg (fun y => q (e1.2 y))]
    by_cases w : p + 2 ≤ z ∧ 0 < f p (p + 2) ∧ 0 < cpf f z (z - (p + 2)).toNat
    · rw [if_pos w, if_pos (e2.1 w)]
    · rw [if_neg w, if_neg (fun y => w (e2.2 y))]
theorem mul_1 {a b : Int} (ha : 0 ≤ a) (hb : 0 ≤ b) (h : a * b = 1) : a = 1 ∧ b = 1 := by
  have b0 : b ≠ 0 := fun e => by rw [e, Int.mul_zero] at h; exact absurd h (by decide)
  have a0 : a ≠ 0 := fun e => by rw [e, Int.zero_mul] at h; exact absurd h (by decide)
  have t := Int.mul_nonneg (show 0 ≤ a - 1 by omega) (show 0 ≤ b - 1 by omega)
  rw [Int.sub_mul, Int.mul_sub, Int.one_mul, Int.mul_one, h] at t
  omega
/-- where there is one reading, each part has one -/
theorem one_p {f : Int → Int → Int} {z p : Int} (nn : ∀ a b, 0 ≤ f a b) (hp : p < z) (h : cpf f z (z - p).toNat = 1) : p + nxt f z p ≤ z ∧ f p (p + nxt f z p) = 1 ∧ cpf f z (z - (p + nxt f z p)).toNat = 1 := by
  have e := cpf_3 (f := f) hp
  rw [h] at e
  have c : ∀ m : Nat, 0 ≤ cpf f z m := fun m => (cpf_nn nn m).1
  have t1 := Int.mul_nonneg (c (z - (p + 1)).toNat) (nn p (p + 1))
  have t2 := Int.mul_nonneg (c (z - (p + 2)).toNat) (nn p (p + 2))
  have t3 := Int.mul_nonneg (c (z - (p + 3)).toNat) (nn p (p + 3))
  have z1 : ∀ {x y : Int}, 0 ≤ x → 0 ≤ y → ¬ (0 < y ∧ 0 < x) → x * y = 0 := fun {x y} hx hy q => by
    by_cases a : x = 0
    · rw [a, Int.zero_mul]
    · have : y = 0 := by
        apply Classical.byContradiction
        intro b
        exact q ⟨by omega, by omega⟩
      rw [this, Int.mul_zero]
  unfold nxt
  by_cases q1 : p + 1 ≤ z ∧ 0 < f p (p + 1) ∧ 0 < cpf f z (z - (p + 1)).toNat
  · rw [if_pos q1]
    rw [if_pos q1.1] at e
    have w := Int.mul_pos q1.2.2 q1.2.1
    have s2 : 0 ≤ (if p + 2 ≤ z then cpf f z (z - (p + 2)).toNat * f p (p + 2) else 0) := by split <;> omega
    have s3 : 0 ≤ (if p + 3 ≤ z then cpf f z (z - (p + 3)).toNat * f p (p + 3) else 0) := by split <;> omega
    have u := mul_1 (c _) (nn _ _) (show cpf f z (z - (p + 1)).toNat * f p (p + 1) = 1 by omega)
    exact ⟨q1.1, u.2, u.1⟩
  · rw [if_neg q1]
    have e1 : (if p + 1 ≤ z then cpf f z (z - (p + 1)).toNat * f p (p + 1) else 0) = 0 := by
      by_cases g : p + 1 ≤ z
      · rw [if_pos g]; exact z1 (c _) (nn _ _) (fun y => q1 ⟨g, y⟩)
      · rw [if_neg g]
    rw [e1] at e
    by_cases q2 : p + 2 ≤ z ∧ 0 < f p (p + 2) ∧ 0 < cpf f z (z - (p + 2)).toNat
    · rw [if_pos q2]
      rw [if_pos q2.1] at e
      have w := Int.mul_pos q2.2.2 q2.2.1
      have s3 : 0 ≤ (if p + 3 ≤ z then cpf f z (z - (p + 3)).toNat * f p (p + 3) else 0) := by split <;> omega
      have u := mul_1 (c _) (nn _ _) (show cpf f z (z - (p + 2)).toNat * f p (p + 2) = 1 by omega)
      exact ⟨q2.1, u.2, u.1⟩
    · rw [if_neg q2]
      have e2 : (if p + 2 ≤ z then cpf f z (z - (p + 2)).toNat * f p (p + 2) else 0) = 0 := by
        by_cases g : p + 2 ≤ z
        · rw [if_pos g]; exact z1 (c _) (nn _ _) (fun y => q2 ⟨g, y⟩)
        · rw [if_neg g]
      rw [e2] at e
      by_cases g : p + 3 ≤ z
      · rw [if_pos g] at e
        have u := mul_1 (c _) (nn _ _) (show cpf f z (z - (p + 3)).toNat * f p (p + 3) = 1 by omega)
        exact ⟨g, u.2, u.1⟩
      · rw [if_neg g] at e; omega
/-- the parts of the one reading, in both -/
theorem prs_sh {f g u v w : Int → Int → Int} {z s : Int} {P : Int → Int → Int → Prop} (nn : ∀ a b, 0 ≤ f a b) (h : ∀ x y : Int, 0 ≤ x → x < y → y ≤ z → f x y = g (x + s) (y + s)) (k : ∀ x y : Int, 0 ≤ x → x < y → y ≤ z → f x y = 1 → P (u x y) (v x y) (w (x + s) (y + s))) : ∀ (n : Nat) (p : Int), 0 ≤ p → (p < z → cpf f z (z - p).toNat = 1) → (prs f u z n p).length = (prs g w (z + s) n (p + s)).length ∧ ∀ i : Nat, i < (prs f u z n p).length → P ((prs f u z n p).getD i 0) ((prs f v z n p).getD i 0) ((prs g w (z + s) n (p + s)).getD i 0)
  | 0, p, _, _ => ⟨rfl, fun i hi => absurd hi (by simp [prs])⟩
  | n + 1, p, hp, hc => by
    unfold prs
    by_cases q : z ≤ p
    · rw [if_pos q, if_pos (show z + s ≤ p + s by omega)]
      exact ⟨rfl, fun i hi => absurd hi (by simp)⟩
    · rw [if_neg q, if_neg (show ¬ (z + s ≤ p + s) by omega), if_neg q]
      obtain ⟨o1, o2, o3⟩ := one_p nn (by omega) (hc (by omega))
      have r := nxt_rg (f := f) (z := z) (p := p)
      have en := nxt_sh (s := s) h hp
      rw [← en, show p + s + nxt f z p = p + nxt f z p + s by omega]
      obtain ⟨i1, i2⟩ := prs_sh nn h k n (p + nxt f z p) (by omega) (fun _ => o3)
      refine ⟨by simp [i1], fun i hi => ?_⟩
      cases i with
      | zero => exact k p (p + nxt f z p) hp (by omega) o1 o2
      | succ i =>
        have t := i2 i (by simpa using hi)
        simpa using t
end
section
/-! class and reference: DESCRIPTIONS, LISTS of objects, places -/
theorem fa_r {U S : sS} {f : Nat} {r a t k d : Int} (h : RLW U S) (sc : SCX U S f) (kr : RNR U S f r a t) (hk : 0 ≤ k ∧ k < Xi U 5 0) {x y : Int} (h0 : 0 ≤ x) (h1 : x < y) (h2 : y ≤ t - a) : fA U k a d x y = fRa S k d (x + (f + a)) (y + (f + a)) ∧ mnV U (a + x) (a + y) = mR S (x + (f + a)) (y - x) := by
  have m : mnV U (a + x) (a + y) = mR S (x + (f + a)) (y - x) := by
    have u := (scx_s sc h.1).1 (a + x) (a + y) (by have := kr.1; omega) (by have := kr.2.2.1; omega) (fun i i1 i2 => kr.2.2.2.2.2 i (by omega) (by omega))
    rw [show (f : Int) + (a + x) = x + (f + a) by omega, show a + y - (a + x) = y - x by omega] at u
    exact u
  refine ⟨?_, m⟩
  unfold fA fRa
  rw [show y + ((f : Int) + a) - (x + (f + a)) = y - x by omega]
  exact (adj_r (v := 1) (d := d) h m hk).1
theorem ck_r {U S : sS} {f : Nat} {r a t pl m : Int} (h : RLW U S) (sc : SCX U S f) (kr : RNR U S f r a t) (hm : 1 ≤ m ∧ m ≤ 3 ∧ m ≤ t - a) : ckC U t pl m = dkR S (f + a) (t - a) pl m ∧ (ckC U t pl m ≠ -1 → 0 ≤ ckC U t pl m ∧ ckC U t pl m < Xi U 5 0) := by
  have hx := h.1.2.2.2.1
  have h15 : 0 ≤ Xi S 904 15 := by have := h.1.1.1; omega
  have u := (scx_s sc h.1).1 (t - m) t (by have := kr.1; omega) kr.2.2.1 (fun i i1 i2 => kr.2.2.2.2.2 i (by omega) i2)
  rw [show t - (t - m) = m by omega, show (f : Int) + (t - m) = f + a + (t - a) - m by omega] at u
  unfold ckC dkR
  by_cases q : pl = 0
  · rw [if_pos q, if_pos q]
    have e : fnd U 0 (t - m) t = msR S (f + a + (t - a) - m) m 0 := fnd_ms (s := 0) u hx h15 (by omega)
    exact ⟨e, fun y => fnd_wc (by omega) h.1.2.2.1 h.2.1 y⟩
  · rw [if_neg q, if_neg q]
    have e : fnd U 11 (t - m) t = msR S (f + a + (t - a) - m) m 1 := fnd_ms (s := 1) u hx h15 (by omega)
    exact ⟨e, fun y => fnd_wc (by omega) h.1.2.2.1 h.2.1 y⟩
theorem cc_r {U S : sS} {f : Nat} {r a t pl d al m : Int} (h : RLW U S) (sc : SCX U S f) (kr : RNR U S f r a t) (h6 : t - a ≤ 6) (hm : 1 ≤ m ∧ m ≤ 3 ∧ m ≤ t - a) : ccC U a t pl d al m = dcR S (f + a) (t - a) pl d al m := by
  obtain ⟨e, b⟩ := ck_r (pl := pl) h sc kr hm
  unfold ccC dcR
  by_cases q : ckC U t pl m = -1
  · rw [if_neg (fun y => y.1 q), if_neg (fun y => y.1 (by rw [← e]; exact q))]
  · have bb := b q
    have ik : isK U (ckC U t pl m) al = blR S (dkR S (f + a) (t - a) pl m) al := by rw [← e]; exact isK_bl h.2.2.2.1 bb.2
    by_cases w : al = -1 ∨ isK U (ckC U t pl m) al = 1
    · rw [if_pos ⟨q, w⟩, if_pos ⟨by rw [← e]; exact q, by rw [← ik]; exact w⟩]
      unfold cpF
      rw [if_neg (by omega), ← e]
      have s := cpf_sh (f := fA U (ckC U t pl m) a d) (g := fRa S (ckC U t pl m) d) (z := t - m - a) (s := f + a) (fun x y x0 x1 x2 => (fa_r h sc kr bb x0 x1 (by omega)).1) (t - m - a).toNat (by omega)
      rw [s, show t - m - a + ((f : Int) + a) = f + a + (t - a) - m by omega, show t - m - a = t - a - m by omega]
    · rw [if_neg (fun y => w y.2), if_neg (fun y => w (by rw [ik]; exact y.2))]
theorem ct_r {U S : sS} {f : Nat} {r a t pl d al : Int} (h : RLW U S) (sc : SCX U S f) (kr : RNR U S f r a t) (h6 : t - a ≤ 6) : ccT U a t pl d al 4 = dcT S (f + a) (t - a) pl d al 4 := by
  unfold ccT dcT
  have e : ∀ m : Int, 1 ≤ m → m ≤ 3 → (if m < 4 ∧ m ≤ t - a then ccC U a t pl d al m else 0) = (if m < 4 ∧ m ≤ t - a then dcR S (f + a) (t - a) pl d al m else 0) := fun m h1 h3 => by
    by_cases q : m < 4 ∧ m ≤ t - a
    · rw [if_pos q, if_pos q, cc_r h sc kr h6 ⟨h1, h3, q.2⟩]
    · rw [if_neg q, if_neg q]
  rw [e 1 (by omega) (by omega), e 2 (by omega) (by omega), e 3 (by omega) (by omega)]
theorem d1_u {S : sS} {f n pl d al m k : Int} (h32 : 0 ≤ Xi S 904 32 ∧ Xi S 904 32 ≤ 12) (h : dcT S f n pl d al 4 = 1) (hm : 1 ≤ m ∧ m ≤ 3 ∧ m ≤ n) (hk : 1 ≤ k ∧ k ≤ 3 ∧ k ≤ n) (em : dcR S f n pl d al m = 1) (ek : dcR S f n pl d al k = 1) : m = k := by
  unfold dcT at h
  have n1 := dcR_nn (f := f) (n := n) (pl := pl) (d := d) (al := al) (m := 1) h32
  have n2 := dcR_nn (f := f) (n := n) (pl := pl) (d := d) (al := al) (m := 2) h32
  have n3 := dcR_nn (f := f) (n := n) (pl := pl) (d := d) (al := al) (m := 3) h32
  have nn : ∀ (c : Prop) [Decidable c] (x : Int), 0 ≤ x → 0 ≤ (if c then x else 0) := fun c _ x hx => by split <;> omega
  have s1 := nn ((1 : Int) < 4 ∧ 1 ≤ n) _ n1
  have s2 := nn ((2 : Int) < 4 ∧ 2 ≤ n) _ n2
  have s3 := nn ((3 : Int) < 4 ∧ 3 ≤ n) _ n3
  have one : ∀ m : Int, 1 ≤ m ∧ m ≤ 3 ∧ m ≤ n → dcR S f n pl d al m = 1 → (m = 1 ∧ (if (1 : Int) < 4 ∧ 1 ≤ n then dcR S f n pl d al 1 else 0) = 1) ∨ (m = 2 ∧ (if (2 : Int) < 4 ∧ 2 ≤ n then dcR S f n pl d al 2 else 0) = 1) ∨ (m = 3 ∧ (if (3 : Int) < 4 ∧ 3 ≤ n then dcR S f n pl d al 3 else 0) = 1) := fun m hm e => by
    have z : m = 1 ∨ m = 2 ∨ m = 3 := by omega
    rcases z with z | z | z <;> subst z
    · exact Or.inl ⟨rfl, by rw [if_pos ⟨by omega, by omega⟩]; exact e⟩
    · exact Or.inr (Or.inl ⟨rfl, by rw [if_pos ⟨by omega, by omega⟩]; exact e⟩)
    · exact Or.inr (Or.inr ⟨rfl, by rw [if_pos ⟨by omega, by omega⟩]; exact e⟩)
  have a := one m hm em
  have b := one k hk ek
  omega
/-- what is kept of a DESCRIPTION -/
def DSK (U V : sS) (c3 c4 c5 : Int) (U0 : sS) : Prop := Xi U 895 12 = Xi V 904 110 ∧ (0 ≤ Xi U 895 12 ∧ Xi U 895 12 < Xi U0 5 0) ∧ Xi U 895 14 = Xi V 904 112 ∧ ∀ i : Nat, (i : Int) < Xi U 895 14 → COD (Xi U 896 i) (Xi U 897 i) (Xi V 967 i) ∧ (Xi U 897 i = -1 → Xi U 896 i < c3) ∧ (Xi U 897 i ≠ -1 → Xi U 897 i < c5 ∧ Xi U 896 i < c4 ∧ Xi U0 8 (Xi U 896 i).toNat ≠ 1 ∧ Xi U0 9 (Xi U 897 i).toNat = Xi U0 8 (Xi U 896 i).toNat)
theorem dsk_of {U U1 S V : sS} {f : Nat} {r a t pl d al m k : Int} (h : RLW U S) (sc : SCX U S f) (kr : RNR U S f r a t) (h6 : t - a ≤ 6) (hm : 1 ≤ m ∧ m ≤ 3 ∧ m ≤ t - a) (hk : 1 ≤ k ∧ k ≤ 3 ∧ k ≤ t - a) (c1 : ccT U a t pl d al 4 = 1) (em : ccC U a t pl d al m = 1) (ek : dcR S (f + a) (t - a) pl d al k = 1) (e12 : Xi U1 895 12 = ckC U t pl m) (kp : KPC U1 (fA U (ckC U t pl m) a d) (g1C U a) (g2C U (ckC U t pl m) a) (t - m - a)) (kd : KRD S V (f + a) (t - a) pl d k) : DSK U1 V (Xi U 5 3) (Xi U 5 4) (Xi U 5 5) U := by
  have c5 := h.2.2.1.2.2.2.2.2.1
  have h32 : 0 ≤ Xi S 904 32 ∧ Xi S 904 32 ≤ 12 := by omega
  have em2 := em
  rw [cc_r h sc kr h6 hm] at em2
  rw [ct_r h sc kr h6] at c1
  have mk := d1_u h32 c1 hm hk em2 ek
  subst mk
  obtain ⟨e, b⟩ := ck_r (pl := pl) h sc kr hm
  have q : ckC U t pl m ≠ -1 := fun y => by unfold ccC at em; rw [if_neg (fun z => z.1 y)] at em; exact absurd em (by decide)
  have bb := b q
  obtain ⟨k1, k2, k3⟩ := kd
  rw [← e] at k1 k2 k3
  obtain ⟨p1, p2, p3⟩ := kp
  have z1 : t - m - a + ((f : Int) + a) = f + a + (t - a) - m := by omega
  have cp : cpf (fA U (ckC U t pl m) a d) (t - m - a) (t - m - a).toNat = 1 := by
    unfold ccC at em
    by_cases w : cokC U t pl al m
    · rw [if_pos w] at em
      unfold cpF at em
      rw [if_neg (by omega)] at em
      exact em
    · rw [if_neg w] at em; exact absurd em (by decide)
  have nn : ∀ x y, 0 ≤ fA U (ckC U t pl m) a d x y := fun x y => (fA_b x y).1
  have s := prs_sh (f := fA U (ckC U t pl m) a d) (g := fRa S (ckC U t pl m) d) (u := g1C U a) (v := g2C U (ckC U t pl m) a) (w := gRa S (ckC U t pl m) d) (z := t - m - a) (s := f + a) (P := fun x y c => COD x y c ∧ (y = -1 → x < Xi U 5 3) ∧ (y ≠ -1 → y < Xi U 5 5 ∧ x < Xi U 5 4 ∧ Xi U 8 x.toNat ≠ 1 ∧ Xi U 9 y.toNat = Xi U 8 x.toNat)) nn (fun x y x0 x1 x2 => (fa_r h sc kr bb x0 x1 (by omega)).1) (fun x y x0 x1 x2 f1 => by
    obtain ⟨g1, g2⟩ := fa_r (d := d) h sc kr bb x0 x1 (by omega)
    have j := adj_r (v := 1) (d := d) h g2 bb
    have f1 : raF U (ckC U t pl m) (a + x) (a + y) 1 d = 1 := f1
    rw [j.1] at f1
    have w := j.2 f1
    unfold g1C g2C gRa
    rw [show y + ((f : Int) + a) - (x + (f + a)) = y - x by omega]
    exact w) 6 0 (by omega) (fun _ => by rw [Int.sub_zero]; exact cp)
  rw [z1, Int.zero_add] at s
  refine ⟨by rw [e12, k1], by rw [e12]; exact bb, by rw [p1, k2, s.1], fun i hi => ?_⟩
  rw [p1] at hi
  have i1 : i < (prs (fA U (ckC U t pl m) a d) (g1C U a) (t - m - a) 6 0).length := by omega
  rw [(p3 i i1).1, (p3 i i1).2, k3 i (by rw [← s.1]; exact i1)]
  exact s.2 i i1
/-! lists of objects -/
theorem mi_r {U S : sS} {f N i : Nat} {F : Int} (h : RVO U S) (sc : SCX U S f) (l : LRN U S f F N) (hi : i < N) : (mI U i = -1 ↔ rmR S (F + i) = -1) ∧ fI U i = rnR S (F + i) 4 := by
  have hx := h.2.2.2.1
  have h15 : 0 ≤ Xi S 904 15 := by have := h.1.1; omega
  exact ⟨rn_mn (scx_s sc h) (l i hi) hx h15, rn_fnd (s := 4) (scx_s sc h) (l i hi) hx h15 (by omega)⟩
theorem nw_nm {U S : sS} {f N : Nat} {F : Int} (h : RVO U S) (sc : SCX U S f) (l : LRN U S f F N) : ∀ n : Nat, n ≤ N → nwn U n = nwm S F n
  | 0, _ => rfl
  | n + 1, hn => by
    unfold nwn nwm
    rw [nw_nm h sc l n (by omega)]
    have t := (mi_r h sc l (by omega : n < N)).1
    by_cases q : mI U n = -1
    · rw [if_pos q, if_pos (t.1 q)]
    · rw [if_neg q, if_neg (fun y => q (t.2 y))]
theorem nwi_r {U S : sS} {f N i : Nat} {F : Int} (h : RVO U S) (sc : SCX U S f) (l : LRN U S f F N) (hi : i < N) : NWI U i ↔ NWQ S F i := by
  have t := (mi_r h sc l hi).1
  have e : Xi S 951 (F + i).toNat = re7 (ty7 U) (kr7 (ty7 U) i) - kr7 (ty7 U) i := (l i hi).2.2.2.2.1
  unfold NWI NWQ nwR0
  rw [t, e]
  constructor
  · rintro ⟨a, b, c⟩
    exact ⟨⟨b, a⟩, fun j hj y w => c j hj ((mi_r h sc l (by omega : j < N)).1.2 y) ((rn_al (scx_s sc h) (l j (by omega)) (l i hi)).2 w)⟩
  · rintro ⟨⟨b, a⟩, c⟩
    exact ⟨a, b, fun j hj y w => c j hj ((mi_r h sc l (by omega : j < N)).1.1 y) ((rn_al (scx_s sc h) (l j (by omega)) (l i hi)).1 w)⟩
theorem fi_mi {U : sS} {i : Nat} (h : fI U i ≠ -1) : mI U i ≠ -1 := fun q => h (fnd_m1 (by omega) q)
theorem oki_r {U S : sS} {f N i : Nat} {F : Int} (h : RVO U S) (c : Xi U 5 2 = Xi S 904 19) (sc : SCX U S f) (l : LRN U S f F N) (hi : i < N) : OKI U i ↔ OKQ S F i := by
  obtain ⟨t1, t2⟩ := mi_r h sc l hi
  unfold OKI OKQ
  rw [nwi_r h sc l hi, nw_nm h sc l i (by omega), ← t2, c]
  exact ⟨fun y => y.imp (fun z => z.2) id, fun y => y.imp (fun z => ⟨fi_mi z, z⟩) id⟩
theorem loo_r {U S : sS} {f N n : Nat} {F : Int} (h : RVO U S) (c : Xi U 5 2 = Xi S 904 19) (sc : SCX U S f) (l : LRN U S f F N) (hn : n ≤ N) : LOO U n ↔ LOQ S F n :=
  ⟨fun y i hi => (oki_r h c sc l (by omega)).1 (y i hi), fun y i hi => (oki_r h c sc l (by omega)).2 (y i hi)⟩
theorem loo_n {U : sS} : ∀ n : Nat, ¬ LOO U n → ∃ k : Nat, k < n ∧ LOO U k ∧ ¬ OKI U k
  | 0, h => absurd (fun i hi => absurd hi (by omega)) h
  | n + 1, h => by
    by_cases q : LOO U n
    · refine ⟨n, by omega, q, fun y => h (fun i hi => ?_)⟩
      by_cases e : i = n
      · subst e; exact y
      · exact q i (by omega)
    · obtain ⟨k, a, b⟩ := loo_n n q
      exact ⟨k, by omega, b⟩
theorem lob_f {U U1 S T S1 : sS} {f N : Nat} {F z : Int} (h : RVO U S) (c : Xi U 5 2 = Xi S 904 19) (sc : SCX U S f) (l : LRN U S f F N) (t : TLO U U1 z N) (r : RLO S F N (NT3 T)) (q : ¬ LOO U N) : STP U1 T S1 := by
  obtain ⟨k, k1, k2, k3⟩ := loo_n N q
  have k2' := (loo_r h c sc l (by omega)).1 k2
  obtain ⟨m1, m2⟩ := mi_r h sc l k1
  obtain ⟨t1, t2, t3⟩ := t k k1 k2
  obtain ⟨r1, r2, r3⟩ := r k k1 k2'
  have pc := rn_pc (scx_s sc h) (l k k1)
  have ff : ∀ {e : Int}, (z = 0 ∧ FTO U U1 e (kr7 (ty7 U) k)) → NTB (NT3 T) e (pR S (F + k)) → e ≠ 0 → STP U1 T S1 := fun a b d => by
    refine Or.inl ⟨by rw [a.2.1]; exact d, Or.inl ?_⟩
    rw [a.2.1, a.2.2, pc]; exact b
  by_cases g : mI U k = -1
  · by_cases w : NWI U k
    · have n24 : 24 ≤ Xi U 5 2 + nwn U k := by
        apply Classical.byContradiction
        intro y
        exact k3 (Or.inr ⟨w, by omega⟩)
      exact ff (t3 w n24) (r3 ((nwi_r h sc l k1).1 w) (by rw [← c, ← nw_nm h sc l k (by omega)]; exact n24)) (by decide)
    · exact ff (t2 g w) (r2 (m1.1 g) (fun y => w ((nwi_r h sc l k1).2 y))) (by decide)
  · have n1 : fI U k = -1 := by
      apply Classical.byContradiction
      intro y
      exact k3 (Or.inl ⟨g, y⟩)
    exact ff (t1 g n1) (r1 (fun y => g (m1.2 y)) (by rw [← m2]; exact n1)) (by decide)
/-! places -/
theorem hold_r {U S : sS} {o w : Int} (kd : KND U S) (ob : OBK U S) (ho : 0 ≤ o ∧ o < Xi U 5 2) (hw : 1 ≤ w ∧ w ≤ 5) : chC U o w = mhR S w (Xi S 918 o.toNat) := by
  have e := fun k => ad_r kd ob ho k
  unfold chC mhR kwR
  rw [e 2, e 1, e 3, e 0, e 4]
  by_cases q1 : w = 1
  · rw [if_pos q1, if_pos q1]
    by_cases g : blR S (Xi S 918 o.toNat) 2 ≠ 0 ∨ blR S (Xi S 918 o.toNat) 1 ≠ 0
    · rw [if_pos g, if_pos g.symm]
    · rw [if_neg g, if_neg (fun y => g y.symm)]
  rw [if_neg q1, if_neg q1]
  by_cases q2 : w = 2
  · rw [if_pos q2, if_pos q2]
  rw [if_neg q2, if_neg q2]
  by_cases q3 : w = 3
  · rw [if_pos q3, if_pos q3]
  · rw [if_neg q3, if_neg q3]
theorem pl_r {U S : sS} {f : Nat} {a : Int} (h : RLW U S) (sc : SCX U S f) (k : RNR U S f (Xi S 904 74) (rPl U a) (re7 (ty7 U) (rPl U a))) (e : Xi S 904 73 = wyC (ty7 U a)) : (PL1 U a ↔ PR1 S) ∧ hPl U a = rnR S (Xi S 904 74) 4 := by
  have hx := h.1.2.2.2.1
  have h15 : 0 ≤ Xi S 904 15 := by have := h.1.1.1; omega
  have fe : hPl U a = rnR S (Xi S 904 74) 4 := rn_fnd (s := 4) (scx_s sc h.1) k hx h15 (by omega)
  have wb : 1 ≤ wyC (ty7 U a) ∧ wyC (ty7 U a) ≤ 5 := by unfold wyC; repeat (split; omega); omega
  refine ⟨?_, fe⟩
  unfold PL1 PR1
  rw [e, ← fe]
  constructor
  · rintro ⟨y, z⟩
    have lt : 0 ≤ hPl U a ∧ hPl U a < Xi U 5 2 := fnd_wc (by omega) h.1.2.2.1 h.2.1 y
    rw [hold_r h.2.2.2.1 h.2.2.2.2.2.2.2.2.2.1.1 lt wb] at z
    exact ⟨y, z⟩
  · rintro ⟨y, z⟩
    have lt : 0 ≤ hPl U a ∧ hPl U a < Xi U 5 2 := fnd_wc (by omega) h.1.2.2.1 h.2.1 y
    rw [← hold_r h.2.2.2.1 h.2.2.2.2.2.2.2.2.2.1.1 lt wb] at z
    exact ⟨y, z⟩
end
section
/-! class and reference: as before, without the latest object -/
def RLV (U S : sS) : Prop := RVO U S ∧ WHC U ∧ RCT U S ∧ KND U S ∧ RTY U S ∧ RAJ U S ∧ RRE U S ∧ RBT U S ∧ RVA U S ∧ ROB U S ∧ ACY U ∧ RAQ U S ∧ RPR U S ∧ RWY U S
theorem RLW.v {U S : sS} (h : RLW U S) : RLV U S := by
  obtain ⟨h1, h2, h3, h4, h5, h6, h7, h8, h9, h10, h11, h12, h13, h14, _⟩ := h
  exact ⟨h1, h2, h3, h4, h5, h6, h7, h8, h9, h10, h11, h12, h13, h14⟩
theorem RLV.w {U S : sS} (h : RLV U S) (b : RSB U S) : RLW U S := by
  obtain ⟨h1, h2, h3, h4, h5, h6, h7, h8, h9, h10, h11, h12, h13, h14⟩ := h
  exact ⟨h1, h2, h3, h4, h5, h6, h7, h8, h9, h10, h11, h12, h13, h14, b⟩
theorem RLV.r3 {U S : sS} (h : RLV U S) : RL3 U S := by
  obtain ⟨h1, h2, h3, h4, h5, h6, h7, h8, h9, h10, h11, h12, h13, _⟩ := h
  exact ⟨h1, h2, h3, h4, h5, h6, h7, h8, h9, h10, h11, h12, h13⟩
theorem RL3.v {U S : sS} (h : RL3 U S) (a : RWY U S) : RLV U S := by
  obtain ⟨h1, h2, h3, h4, h5, h6, h7, h8, h9, h10, h11, h12, h13⟩ := h
  exact ⟨h1, h2, h3, h4, h5, h6, h7, h8, h9, h10, h11, h12, h13, a⟩
theorem RLV.k {U U1 S S1 : sS} (h : RLV U S) (t3 : TX3 U) (a : KEP [(2, 12), (13, 20), (21, 24), (25, 65), (66, 106), (107, 147), (148, 188), (189, 195), (196, 220), (221, 245), (245, 246), (902, 904)] [(1, 3), (20, 1), (20, 12)] U U1) (b : KEP cSk [(904, 15), (904, 16), (904, 18), (904, 19), (904, 23), (904, 30), (904, 32), (904, 41), (904, 47), (904, 49), (904, 51)] S S1) : RLV U1 S1 := by
  obtain ⟨h1, h2, h3, h4, h5, h6, h7, h8, h9, h10, h11, h12, h13, h14⟩ := h
  have c : ∀ j, Xi U1 5 j = Xi U 5 j := a.x 5 rfl
  have d : ∀ j, Xi U 5 j ≤ Xi U1 5 j := fun j => by rw [c]; exact Int.le_refl _
  exact ⟨h1.k (a.le rfl (by decide)) (b.le rfl (by decide)), h2.k (a.le rfl (by decide)), h3.k (a.le rfl (by decide)) (b.le rfl (by decide)), h4.k (c 0) (a.le rfl (by decide)) (b.le rfl (by decide)), h5.k (c 0) (c 4) (c 5) (d 1) (a.le rfl (by decide)) (b.le rfl (by decide)), h6.k (c 3) (d 0) (a.le rfl (by decide)) (b.le rfl (by decide)), h7.k (c 6) (d 0) (a.le rfl (by decide)) (b.le rfl (by decide)), h8.k (d 2) (a.le rfl (by decide)) (b.le rfl (by decide)), h9.k (c 7) (c 8) (d 6) (d 0) (a.le rfl (by decide)) (b.le rfl (by decide)), h10.k (c 2) (d 0) (a.le rfl (by decide)) (b.le rfl (by decide)), h11.k (c 2) (a.le rfl (by decide)), h12.k h3 (c 2) (c 0) (a.le rfl (by decide)) (b.le rfl (by decide)), h13.k h3 t3 (c 2) (c 0) (d 5) (a.le rfl (by decide)) (b.le rfl (by decide)) (fun p _ => b.x 928 rfl p), h14.k h3 (d 2) (a.le rfl (by decide)) (b.le rfl (by decide))⟩
theorem st_obv {U U1 S S1 U0 S0 : sS} {f : Nat} {r a b o p k : Int} (h : RL3 U S) (t3 : TX3 U) (sc : SCX U0 S0 f) (kr : RNR U0 S0 f r a b) (sm : ∀ j, Xj U 879 j = Xj U0 879 j) (sm2 : (∀ j, Xj S 910 j = Xj S0 910 j) ∧ (∀ j, Xi S 950 j = Xi S0 950 j) ∧ ∀ j, Xi S 951 j = Xi S0 951 j) (hk : 0 ≤ k ∧ k < Xi U 5 0) (nn : fnd U 2 a b = -1 → mnV U a b = -1 ∧ b - a ≤ 3 ∧ Xi U 5 2 < 24) (ob : OBX U U1 o a b k) (F : KEP cOj [(20, 1)] U U1) (ot : OTR S S1 p r k) (G : FR lOT S S1) (fe : fnd U 2 a b = rnR S r 4) : o = p ∧ RL3 U1 S1 ∧ (0 ≤ o ∧ o < Xi U1 5 2) ∧ TX3 U1 ∧ (Xi U 5 2 ≤ Xi U1 5 2) := by
  have t3' : TX3 U1 := by unfold TX3 at t3 ⊢; unfold txr at t3 ⊢; rw [(F.2 (20, 1) (by decide)).2.2]; exact t3
  obtain ⟨h1, h2, h3, h4, h5, h6, h7, h8, h9, h10, h11, h12, h13⟩ := h
  by_cases q : fnd U 2 a b = -1
  · obtain ⟨n1, n2, n3⟩ := nn q
    obtain ⟨o1, ⟨i, tn⟩, cn, cc, ob2, ob3⟩ := ob.2 q
    obtain ⟨p1, tl, ao⟩ := ot.2 (by rw [← fe]; exact q)
    have c2 := h3.2.2.1
    have e2 : Xi S 904 19 = Xi U 5 2 := c2.1.symm
    rw [e2] at p1 tl
    have d0 := h3.1
    have wr : ∀ j, wRw U 879 a b j = wRw U0 879 a b j := fun j => by unfold wRw; rw [sm]
    rw [wr, wr, wr] at tn
    have tl' : TLW S S1 S0 4 (Xi U 5 2) r := by
      unfold TLW at tl ⊢
      rw [sm2.2.1, sm2.2.2, sm2.1, sm2.1, sm2.1] at tl
      exact tl
    have f1 : FRS U 2 (Xi U 5 2) := frs_s h2 (by omega) (Int.le_refl _)
    have b30 : b ≤ 5130 := by have := kr.2.2.1; have := sc.2; omega
    have no : NOE U (wRw U0 879 a b 0) (wRw U0 879 a b 1) (wRw U0 879 a b 2) := by
      have t := new_ne h1.2.2.1 h1.1.1.2 ⟨kr.1, b30⟩ ⟨by have := kr.2.1; omega, n2⟩ n1
      rw [wr, wr, wr] at t
      exact t
    have w1 := rvo_run h1 sc kr n2 tn tl' f1 (by decide) (by omega) (by omega) no
    have cl := cnt_le cn (by omega) cc
    obtain ⟨r0, ⟨a1, a2, a3⟩, a4, z5, z0⟩ := ao
    rw [e2] at r0 a1 a2 a3 a4 z5 z0
    have u2 : ∀ k j : Nat, k < 40 → Xi U1 (66 + k) j = Xi U (66 + k) j := fun k j hk => (F.le rfl (by decide) : KEP [(66, 106)] [] U U1).x (66 + k) (by unfold inK; simp; omega) j
    have zk : ∀ {k m : Nat}, ZRO S S1 k (m * Xi U 5 2) m → ∀ x y : Nat, y < m → ((x : Int) < Xi U 5 2 → Xi S1 k (m * x + y) = Xi S k (m * x + y)) ∧ ((x : Int) = Xi U 5 2 → Xi S1 k (m * x + y) = 0) := fun {k m} zz x y hy => by
      obtain ⟨za, zb⟩ := zz (m * x + y)
      obtain ⟨w, ew⟩ : ∃ w : Nat, (w : Int) = Xi U 5 2 := ⟨(Xi U 5 2).toNat, by omega⟩
      rw [← ew] at za zb ⊢
      refine ⟨fun g => zb (fun c => ?_), fun g1 => za ⟨?_, ?_⟩⟩
      · have c1 := c.1
        have g : x + 1 ≤ w := by omega
        have t := Nat.mul_le_mul_left m g
        rw [Nat.mul_add, Nat.mul_one] at t
        have u : ((m * w : Nat) : Int) ≤ ((m * x + y : Nat) : Int) := by push_cast; push_cast at c1; exact c1
        omega
      · rw [show w = x by omega]; push_cast; omega
      · rw [show w = x by omega]; push_cast; omega
    have z5 := zk (m := 24) z5
    have z0 := zk (m := 12) z0
    refine ⟨by omega, ?_, by omega, t3', by omega⟩
    have Fd := G
    refine ⟨w1.1, ?_, ?_, h4.k (cc 0 (by omega)) (F.le rfl (by decide)) (Fd.kep rfl), h5.k (cc 0 (by omega)) (cc 4 (by omega)) (cc 5 (by omega)) (cl 1) (F.le rfl (by decide)) (Fd.kep rfl), h6.k (cc 3 (by omega)) (cl 0) (F.le rfl (by decide)) (Fd.kep rfl), h7.k (cc 6 (by omega)) (cl 0) (F.le rfl (by decide)) (Fd.kep rfl), h8.k (cl 2) (F.le rfl (by decide)) (Fd.kep rfl), h9.k (cc 7 (by omega)) (cc 8 (by omega)) (cl 6) (cl 0) (F.le rfl (by decide)) (Fd.kep rfl), ?_, ?_, ?_, ?_⟩
    · have c1 : wcU U1 2 = Xi U 5 2 + 1 := by rw [wc_s (by omega)]; exact cn
      exact whg_add (whg_of h2 cl) tn f1 (by rw [c1]; omega)
    · obtain ⟨d0, d1, d2, d3, d4, d5, d6, d7, d8⟩ := h3
      have s5 : ∀ j, j ∈ [16, 18, 23, 30, 32, 41, 47, 49] → Xi S1 904 j = Xi S 904 j := fun j hj => (Fd.kep rfl : KEP [] [(904, 16), (904, 18), (904, 23), (904, 30), (904, 32), (904, 41), (904, 47), (904, 49)] S S1).f 904 j (by revert hj; simp)
      unfold RCT
      rw [cn, r0, cc 0 (by omega), cc 1 (by omega), cc 3 (by omega), cc 4 (by omega), cc 5 (by omega), cc 6 (by omega), cc 7 (by omega), cc 8 (by omega), s5 16 (by decide), s5 18 (by decide), s5 23 (by decide), s5 30 (by decide), s5 32 (by decide), s5 41 (by decide), s5 47 (by decide), s5 49 (by decide)]
      exact ⟨d0, d1, by omega, d3, d4, d5, d6, d7, d8⟩
    · refine ⟨⟨by omega, fun x hx => ?_⟩, fun x hx => ?_⟩
      · rw [cn] at hx
        rw [cc 0 (by omega)]
        by_cases g : x = (Xi U 5 2).toNat
        · subst g; rw [ob2.1, a1]; exact ⟨rfl, hk⟩
        · rw [(ob3 x g).1, (a4 x g).1]; exact h10.1.2 x (by omega)
      · rw [cn] at hx ⊢
        by_cases g : x = (Xi U 5 2).toNat
        · subst g; rw [ob2.2.1, ob2.2.2, a2, a3]; exact ⟨⟨rfl, rfl⟩, by omega, by omega, by omega, by omega⟩
        · obtain ⟨y1, y2, y3, y4, y5⟩ := h10.2 x (by omega)
          rw [(ob3 x g).2.1, (ob3 x g).2.2, (a4 x g).2.1, (a4 x g).2.2]; exact ⟨y1, y2, y3, y4, by omega⟩
    · obtain ⟨rk, hr⟩ := h11
      refine ⟨rk, fun x hx hp => ?_⟩
      rw [cn] at hx
      by_cases g : x = (Xi U 5 2).toNat
      · subst g; rw [ob2.2.2] at hp; omega
      · rw [(ob3 x g).2.2] at hp ⊢; exact hr x (by omega) hp
    · obtain ⟨v1, v2, v3, v4⟩ := h12
      have uc : ∀ k j : Nat, k < 40 → Xi U1 (25 + k) j = Xi U (25 + k) j := fun k j hk => (F.le rfl (by decide) : KEP [(25, 65)] [] U U1).x (25 + k) (by unfold inK; simp; omega) j
      have s6 : ∀ j, Xi S1 926 j = Xi S 926 j := (G.kep rfl : KEP [(926, 927)] [] S S1).x 926 rfl
      refine ⟨fun x hx => ?_, fun x hx => ?_, fun x g0 hx y hy => ?_, fun x g0 hx y hy => ?_⟩
      · rw [cn] at hx
        by_cases g : (x : Int) < Xi U 5 2
        · intro y hy
          have t := v1 x g y hy
          have w := (z5 x y hy).1 g
          rw [uc _ _ (by omega), show (24 * (x : Int) + y).toNat = 24 * x + y by omega, w, show 24 * x + y = (24 * (x : Int) + y).toNat by omega]
          exact t
        · refine adv_0 (fun y hy => ?_) (fun y hy => ?_)
          · rw [uc _ _ (by omega), show 25 + (x : Int).toNat = 25 + x by omega]
            exact v3 x (by omega) (by omega) y hy
          · rw [show (24 * (x : Int) + y).toNat = 24 * x + y by omega]
            exact (z5 x y hy).2 (by omega)
      · rw [cc 0 (by omega)] at hx
        exact (v2 x hx).k (fun j => uc _ j (by omega)) s6
      · rw [cn] at hx
        rw [uc x y (by omega)]; exact v3 x g0 (by omega) y hy
      · rw [cc 0 (by omega)] at hx
        have t := uc (24 + x) y (by omega)
        rw [show 25 + (24 + x) = 49 + x by omega] at t
        rw [t]; exact v4 x g0 hx y hy
    · obtain ⟨v1, v2, v3, v4⟩ := h13
      have A : KEP [(66, 106), (107, 147), (148, 188), (245, 246), (902, 904)] [(20, 1)] U U1 := F.le rfl (by decide)
      have B : KEP [(906, 907), (928, 929), (931, 936)] [] S S1 := G.kep rfl
      have tx := txr_k A (by decide)
      have ta := tx_k t3 A rfl rfl rfl
      have y2 : ∀ k j : Nat, k < 40 → Xi U1 (107 + k) j = Xi U (107 + k) j := fun k j hk => A.x (107 + k) (by unfold inK; simp; omega) j
      have y3 : ∀ k j : Nat, k < 40 → Xi U1 (148 + k) j = Xi U (148 + k) j := fun k j hk => A.x (148 + k) (by unfold inK; simp; omega) j
      refine ⟨fun x y hx hy => ?_, fun x y hx hy => ?_, fun x g0 hx y hy => ?_, fun x g0 hx y hy => ?_⟩
      · rw [cn] at hx
        rw [cc 5 (by omega)]
        by_cases g : (x : Int) < Xi U 5 2
        · have w := (z0 x y hy).1 g
          obtain ⟨g1, g2⟩ := v1 x y g hy
          refine ⟨?_, fun c => g2 (by rw [← w]; exact c)⟩
          have e : (12 * (x : Int) + y).toNat = 12 * x + y := by omega
          unfold PVR at g1 ⊢
          rw [e] at g1 ⊢
          rw [u2 _ _ (by omega), y2 _ _ (by omega), y3 _ _ (by omega), w, B.x 931 rfl, B.x 932 rfl, B.x 928 rfl]
          exact ⟨g1.1, fun c => ⟨fun d => ((g1.2 c).1 d).k tx ta (B.x 906 rfl), (g1.2 c).2⟩⟩
        · have w := (z0 x y hy).2 (by omega)
          refine ⟨pvr_0 ?_ ?_, fun c => absurd w c⟩
          · rw [u2 _ _ (by omega), show 66 + (x : Int).toNat = 66 + x by omega]
            exact v3 x (by omega) (by omega) y hy
          · rw [show (12 * (x : Int) + y).toNat = 12 * x + y by omega]; exact w
      · rw [cc 0 (by omega)] at hx
        rw [cc 5 (by omega), B.x 933 rfl]
        exact ⟨(v2 x y hx hy).1.k tx ta (fun j => u2 _ j (by omega)) (fun j => y2 _ j (by omega)) (fun j => y3 _ j (by omega)) (B.x 906 rfl) (fun _ => B.x 928 rfl _) (B.x 933 rfl) (B.x 934 rfl) (B.x 935 rfl), (v2 x y hx hy).2⟩
      · rw [cn] at hx
        rw [u2 x y (by omega)]; exact v3 x g0 (by omega) y hy
      · rw [cc 0 (by omega)] at hx
        have w := u2 (24 + x) y (by omega)
        rw [show 66 + (24 + x) = 90 + x by omega] at w
        rw [w]; exact v4 x g0 hx y hy
  · obtain ⟨o1, o2⟩ := ob.1 q
    obtain ⟨p1, p2⟩ := ot.1 (by rw [← fe]; exact q)
    subst p2
    obtain ⟨sv, cx, oo⟩ := o2
    have t : 0 ≤ fnd U 2 a b ∧ fnd U 2 a b < Xi U 5 2 := fnd_wc (by omega) h1.2.2.1 h2 q
    have cc : ∀ j, j ≠ 99 → Xi U1 5 j = Xi U 5 j := fun j _ => cx j
    have cl : ∀ j, Xi U 5 j ≤ Xi U1 5 j := fun j => by rw [cx]; exact Int.le_refl _
    have Fd : KEP cSk cSf S1 S1 := KEP.rf
    refine ⟨by omega, ?_, by rw [cx]; omega, t3', cl 2⟩
    refine ⟨h1.s sv SMR.rf, ?_, ?_, h4.k (cc 0 (by omega)) (F.le rfl (by decide)) (Fd.le rfl (by decide)), h5.k (cc 0 (by omega)) (cc 4 (by omega)) (cc 5 (by omega)) (cl 1) (F.le rfl (by decide)) (Fd.le rfl (by decide)), h6.k (cc 3 (by omega)) (cl 0) (F.le rfl (by decide)) (Fd.le rfl (by decide)), h7.k (cc 6 (by omega)) (cl 0) (F.le rfl (by decide)) (Fd.le rfl (by decide)), h8.k (cl 2) (F.le rfl (by decide)) (Fd.le rfl (by decide)), h9.k (cc 7 (by omega)) (cc 8 (by omega)) (cl 6) (cl 0) (F.le rfl (by decide)) (Fd.le rfl (by decide)), ?_, ?_, h12.k h3 (cc 2 (by omega)) (cc 0 (by omega)) (F.le rfl (by decide)) (Fd.le rfl (by decide)), h13.k h3 t3 (cx 2) (cx 0) (cl 5) (F.le rfl (by decide)) (Fd.le rfl (by decide)) (fun p _ => rfl)⟩
    · intro j hj
      rw [sv.1] at hj
      rw [sv.2.2.1, sv.2.2.2.1]
      have u := h2 j hj
      have v := wcU_k cl (Xi U 3 j)
      omega
    · unfold RCT; simp only [cx]; exact h3
    · unfold ROB OBK; simp only [cx, (oo _).1, (oo _).2.1, (oo _).2.2]; exact h10
    · unfold ACY; simp only [cx, (oo _).2.2]; exact h11
theorem RLV.p {U A S B : sS} {l m : List rec} (h : RLV U S) (F : FR l U A) (G : FR m S B) (e1 : kepC l [(2, 12), (13, 20), (21, 24), (25, 65), (189, 195), (196, 220), (221, 245)] [(1, 3), (20, 12)] = true) (e2 : kepC m [(912, 923), (924, 930), (936, 946)] [(904, 15), (904, 16), (904, 18), (904, 19), (904, 23), (904, 30), (904, 32), (904, 41), (904, 47), (904, 49), (904, 51)] = true) (r : RPR A B) : RLV A B := by
  have a := F.kep e1
  have b := G.kep e2
  obtain ⟨h1, h2, h3, h4, h5, h6, h7, h8, h9, h10, h11, h12, h13, h14⟩ := h
  have c : ∀ j, Xi A 5 j = Xi U 5 j := a.x 5 rfl
  have d : ∀ j, Xi U 5 j ≤ Xi A 5 j := fun j => by rw [c]; exact Int.le_refl _
  exact ⟨h1.k (a.le rfl (by decide)) (b.le rfl (by decide)), h2.k (a.le rfl (by decide)), h3.k (a.le rfl (by decide)) (b.le rfl (by decide)), h4.k (c 0) (a.le rfl (by decide)) (b.le rfl (by decide)), h5.k (c 0) (c 4) (c 5) (d 1) (a.le rfl (by decide)) (b.le rfl (by decide)), h6.k (c 3) (d 0) (a.le rfl (by decide)) (b.le rfl (by decide)), h7.k (c 6) (d 0) (a.le rfl (by decide)) (b.le rfl (by decide)), h8.k (d 2) (a.le rfl (by decide)) (b.le rfl (by decide)), h9.k (c 7) (c 8) (d 6) (d 0) (a.le rfl (by decide)) (b.le rfl (by decide)), h10.k (c 2) (d 0) (a.le rfl (by decide)) (b.le rfl (by decide)), h11.k (c 2) (a.le rfl (by decide)), h12.k h3 (c 2) (c 0) (a.le rfl (by decide)) (b.le rfl (by decide)), r, h14.k h3 (d 2) (a.le rfl (by decide)) (b.le rfl (by decide))⟩
theorem RLV.a {U A S B : sS} {l m : List rec} (h : RLV U S) (t3 : TX3 U) (F : FR l U A) (G : FR m S B) (e1 : kepC l [(2, 12), (13, 20), (21, 24), (66, 106), (107, 147), (148, 188), (189, 195), (196, 220), (221, 245), (245, 246), (902, 904)] [(1, 3), (20, 1), (20, 12)] = true) (e2 : kepC m [(906, 907), (912, 923), (924, 925), (927, 946)] [(904, 15), (904, 16), (904, 18), (904, 19), (904, 23), (904, 30), (904, 32), (904, 41), (904, 47), (904, 49), (904, 51)] = true) (r : RAQ A B) : RLV A B := by
  have a := F.kep e1
  have b := G.kep e2
  obtain ⟨h1, h2, h3, h4, h5, h6, h7, h8, h9, h10, h11, h12, h13, h14⟩ := h
  have c : ∀ j, Xi A 5 j = Xi U 5 j := a.x 5 rfl
  have d : ∀ j, Xi U 5 j ≤ Xi A 5 j := fun j => by rw [c]; exact Int.le_refl _
  exact ⟨h1.k (a.le rfl (by decide)) (b.le rfl (by decide)), h2.k (a.le rfl (by decide)), h3.k (a.le rfl (by decide)) (b.le rfl (by decide)), h4.k (c 0) (a.le rfl (by decide)) (b.le rfl (by decide)), h5.k (c 0) (c 4) (c 5) (d 1) (a.le rfl (by decide)) (b.le rfl (by decide)), h6.k (c 3) (d 0) (a.le rfl (by decide)) (b.le rfl (by decide)), h7.k (c 6) (d 0) (a.le rfl (by decide)) (b.le rfl (by decide)), h8.k (d 2) (a.le rfl (by decide)) (b.le rfl (by decide)), h9.k (c 7) (c 8) (d 6) (d 0) (a.le rfl (by decide)) (b.le rfl (by decide)), h10.k (c 2) (d 0) (a.le rfl (by decide)) (b.le rfl (by decide)), h11.k (c 2) (a.le rfl (by decide)), r, h13.k h3 t3 (c 2) (c 0) (d 5) (a.le rfl (by decide)) (b.le rfl (by decide)) (fun p _ => b.x 928 rfl p), h14.k h3 (d 2) (a.le rfl (by decide)) (b.le rfl (by decide))⟩
theorem rpv_o {U A S B : sS} {o p v l v2 l2 : Int} (h : RLV U S) (t3 : TX3 U) (ho : 0 ≤ o ∧ o < Xi U 5 2) (hp : 0 ≤ p ∧ p < Xi U 5 5) (hv : VLQ U S p v l v2 l2) (rv : rg v ∧ rg l ∧ rg v2 ∧ rg l2) (t : TPC U A 1 o p v l) (u : TPR1 S B 1 930 o p v2 l2) : RLV A B ∧ TX3 A ∧ ∀ j, Xi A 5 j = Xi U 5 j := by
  have c := h.2.2.1
  have c2 := c.2.2.1
  have c5 := c.2.2.2.2.2.1
  have c0 := c.1
  obtain ⟨r1, r2, r3, r4⟩ := h.2.2.2.2.2.2.2.2.2.2.2.2.1
  have ty := h.2.2.2.2.1.2.1 p.toNat (by omega)
  have w := pvr_t (by omega) (by omega) ho.1 (by have t := (r1 o.toNat p.toNat (by omega) (by omega)).1; rw [show ((o.toNat : Nat) : Int) = o by omega, show ((p.toNat : Nat) : Int) = p by omega] at t; exact t) hv rv (Or.inl rfl) t3 t u ty.1
  obtain ⟨w1, w2, w3, w4⟩ := w
  have G : FR [(930, 933, 0, 100000)] S B := by rw [w4]; exact fr_tP0 (by omega)
  have F : FR [(66, 106, 0, 100000), (107, 147, 0, 100000), (148, 188, 0, 100000)] U A := by
    rcases w3 with w3 | w3
    · rw [w3]; exact FR.rf
    · rw [w3]; exact fr_stP (by omega) (by omega)
  have K : KEP [(5, 6), (245, 246), (902, 904)] [(20, 1)] U A := F.kep rfl
  have tx := txr_k K (by decide)
  have ta := tx_k t3 K rfl rfl rfl
  have cx : ∀ j, Xi A 5 j = Xi U 5 j := K.x 5 rfl
  have B8 : KEP [(906, 907), (928, 929), (933, 936)] [] S B := G.kep rfl
  have ne : ∀ (m : Nat) (x y : Nat), (m = 66 ∨ m = 107 ∨ m = 148) → x < 40 → y < 12 → ¬ ((x : Int) = o ∧ (y : Int) = p) → Xi A (m + x) y = Xi U (m + x) y := fun m x y hm hx hy q => by
    rcases w3 with w3 | w3
    · rw [w3]
    · rw [w3]; unfold stP; rw [Xi_ne (by omega), Xi_ne (by omega), Xi_ne (by omega)]
  have nB : ∀ (m x y : Nat), (m = 930 ∨ m = 931 ∨ m = 932) → y < 12 → ¬ ((x : Int) = o ∧ (y : Int) = p) → Xi B m (12 * x + y) = Xi S m (12 * x + y) := fun m x y hm hy q => by
    rw [w4]; unfold tPR; rw [Xi_ne (by omega), Xi_ne (by omega), Xi_ne (by omega)]
  refine ⟨h.p F G rfl rfl ⟨fun x y hx hy => ?_, fun x y hx hy => ?_, fun x g0 hx y hy => ?_, fun x g0 hx y hy => ?_⟩, ?_, cx⟩
  · rw [cx] at hx ⊢
    by_cases q : (x : Int) = o ∧ (y : Int) = p
    · rw [q.1, q.2]
      exact ⟨w1, fun _ => hp.2⟩
    · obtain ⟨g1, g2⟩ := r1 x y hx hy
      have e : (12 * (x : Int) + y).toNat = 12 * x + y := by omega
      have n1 := nB 930 x y (by omega) hy q
      refine ⟨?_, fun z => g2 (by rw [← n1]; exact z)⟩
      unfold PVR at g1 ⊢
      rw [e] at g1 ⊢
      rw [show 66 + (x : Int).toNat = 66 + x by omega, show 107 + (x : Int).toNat = 107 + x by omega, show 148 + (x : Int).toNat = 148 + x by omega, show (y : Int).toNat = y by omega] at g1 ⊢
      rw [ne 66 x y (by omega) (by omega) hy q, ne 107 x y (by omega) (by omega) hy q, ne 148 x y (by omega) (by omega) hy q, n1, nB 931 x y (by omega) hy q, nB 932 x y (by omega) hy q, B8.x 928 rfl]
      exact ⟨g1.1, fun z => ⟨fun d => ((g1.2 z).1 d).k tx ta (B8.x 906 rfl), (g1.2 z).2⟩⟩
  · rw [cx] at hx ⊢
    rw [B8.x 933 rfl]
    have q : ¬ (((24 + x : Nat) : Int) = o ∧ (y : Int) = p) := by omega
    obtain ⟨g1, g2⟩ := r2 x y hx hy
    refine ⟨?_, g2⟩
    have e : (24 + (x : Int)).toNat = 24 + x := by omega
    unfold PVR at g1 ⊢
    rw [e, show (y : Int).toNat = y by omega] at g1 ⊢
    rw [ne 66 (24 + x) y (by omega) (by omega) hy q, ne 107 (24 + x) y (by omega) (by omega) hy q, ne 148 (24 + x) y (by omega) (by omega) hy q, B8.x 933 rfl, B8.x 934 rfl, B8.x 935 rfl, B8.x 928 rfl]
    exact ⟨g1.1, fun z => ⟨fun d => ((g1.2 z).1 d).k tx ta (B8.x 906 rfl), (g1.2 z).2⟩⟩
  · rw [cx] at hx
    rw [ne 66 x y (by omega) (by omega) hy (by omega)]; exact r3 x g0 hx y hy
  · rw [cx] at hx
    have t := ne 66 (24 + x) y (by omega) (by omega) hy (by omega)
    rw [show 66 + (24 + x) = 90 + x by omega] at t
    rw [t]; exact r4 x g0 hx y hy
  · unfold TX3 at t3 ⊢; rw [tx]; exact t3
theorem rav_o {U A S B : sS} {z y o a h i : Int} (hR : RLV U S) (t3 : TX3 U) (ho : 0 ≤ o ∧ o < Xi U 5 2) (ha : 0 ≤ a ∧ a < Xi U 5 3) (hi : h = 0 ↔ i = 0) (t : TADC U A z o a h) (u : TISR S B y 925 (24 * o) a i) : z = y ∧ (z = 0 ∨ z = 1) ∧ (z = 1 → RLV A B ∧ TX3 A ∧ ∀ j, Xi A 5 j = Xi U 5 j) := by
  have c := hR.2.2.1
  have c2 := c.2.2.1
  have c3 := c.2.2.2.1
  have c0 := c.1
  have aj := hR.2.2.2.2.2.1 a.toNat (by omega)
  obtain ⟨r1, r2, r3, r4⟩ := hR.2.2.2.2.2.2.2.2.2.2.2.1
  have v := r1 o.toNat (by omega)
  rw [show ((o.toNat : Nat) : Int) = o by omega] at v
  obtain ⟨e, w⟩ := tad_r v (by omega) hi t u
  refine ⟨e, by omega, fun z1 => ?_⟩
  rcases w with ⟨w, _⟩ | ⟨_, wA, wB⟩
  · omega
  have kk : Xi U 11 a.toNat = Xi S 922 a.toNat ∧ -1 ≤ Xi S 922 a.toNat ∧ Xi S 922 a.toNat < 24 := ⟨aj.2.1.1, by omega, by omega⟩
  have F : FR [(25, 65, 0, 100000)] U A := by rw [wA]; exact fr_stA (by omega) (by omega) (by omega)
  have G : FR [(925, 926, 0, 100000)] S B := by rw [wB]; exact fr_rI5 (by omega) (by omega) (by omega)
  have cx : ∀ j, Xi A 5 j = Xi U 5 j := (F.kep rfl : KEP [(5, 6)] [] U A).x 5 rfl
  have g6 : ∀ j, Xi B 926 j = Xi S 926 j := (G.kep rfl : KEP [(926, 927)] [] S B).x 926 rfl
  have nU : ∀ x y : Nat, (x : Int) ≠ o → Xi A (25 + x) y = Xi U (25 + x) y := fun x y q => by rw [wA]; exact stA_ne q ho.1
  refine ⟨hR.a t3 F G rfl rfl ⟨fun x hx => ?_, fun x hx => ?_, fun x g0 hx y hy => ?_, fun x g0 hx y hy => ?_⟩, ?_, cx⟩
  · rw [cx] at hx
    by_cases q : (x : Int) = o
    · rw [q, wA, wB]
      exact adv_s2 v kk (by omega) (by omega) hi
    · intro y hy
      have t := r1 x hx y hy
      rw [show 25 + (x : Int).toNat = 25 + x by omega, show (24 * (x : Int) + y).toNat = 24 * x + y by omega] at t ⊢
      rw [nU x y q, wB, rIs_ne (by omega) (by omega) (by omega) (by omega)]
      exact t
  · rw [cx] at hx
    refine (r2 x hx).k (fun j => ?_) g6
    rw [show (24 + (x : Int)).toNat = 24 + x by omega]; exact nU (24 + x) j (by omega)
  · rw [cx] at hx
    rw [nU x y (by omega)]; exact r3 x g0 hx y hy
  · rw [cx] at hx
    have t := nU (24 + x) y (by omega)
    rw [show 25 + (24 + x) = 49 + x by omega] at t
    rw [t]; exact r4 x g0 hx y hy
  · unfold TX3 at t3 ⊢; rw [txr_k (F.kep rfl : KEP [] [(20, 1)] U A) (by decide)]; exact t3
end
section
/-! class and reference: one object of a LIST -/
def lT1 : List rec := [(25, 65, 0, 100000), (66, 106, 0, 100000), (107, 147, 0, 100000), (148, 188, 0, 100000)]
def lTR : List rec := [(925, 926, 0, 100000), (930, 933, 0, 100000)]
theorem t1_r {W A D B : sS} {z y o m p c hh ii : Int} (h : RLV W D) (t3 : TX3 W) (ho : 0 ≤ o ∧ o < Xi W 5 2) (cd : COD m p c) (b1 : p = -1 → m < Xi W 5 3) (b2 : p ≠ -1 → p < Xi W 5 5 ∧ m < Xi W 5 4 ∧ Xi W 8 m.toNat ≠ 1 ∧ Xi W 9 p.toNat = Xi W 8 m.toNat) (hi : hh = 0 ↔ ii = 0) (t : T1C W A z o m p hh) (u : TRD D B y o c ii) : z = y ∧ (z = 0 ∨ z = 1) ∧ (z = 1 → RLV A B ∧ TX3 A ∧ FR lT1 W A ∧ FR lTR D B) := by
  have c2 := h.2.2.1.2.2.1
  have c3 := h.2.2.1.2.2.2.1
  have c5 := h.2.2.1.2.2.2.2.2.1
  rcases cd with ⟨q, e, m0, m1⟩ | ⟨q, e, m0, m1⟩
  · have t := t.1 q
    have u := u.1 (by omega)
    subst e
    obtain ⟨r1, r2, r3⟩ := rav_o h t3 ho ⟨m0, b1 q⟩ hi t u
    have aj := h.2.2.2.2.2.1 c.toNat (by have := b1 q; omega)
    refine ⟨r1, r2, fun z1 => ⟨(r3 z1).1, (r3 z1).2.1, ?_, ?_⟩⟩
    · by_cases g : Xi W (25 + o.toNat) c.toNat = (if hh = 0 then 1 else -1)
      · rw [(t.1 g).2]; exact FR.rf
      · rw [(t.2 g).2]
        exact fun k j e => fr_stA (by omega) (by omega) (by omega) k j (by revert e; unfold mdf lT1; simp; intro a _ _ _; exact a)
    · by_cases g : Xi D 925 (24 * o + c).toNat = (if ii = 0 then 1 else 2)
      · rw [(u.1 g).2]; exact FR.rf
      · rw [(u.2 g).2]
        exact fun k j e => fr_rI5 (by omega) (by omega) (by omega) k j (by revert e; unfold mdf lTR; simp; intro a _; exact a)
  · have t := t.2 (by omega)
    have u := u.2 (by omega)
    have e1 : c % 100 = p := by omega
    have e2 : c / 100 - 1 = m := by omega
    rw [e1, e2] at u
    obtain ⟨g1, g2, g3, g4⟩ := b2 (by omega)
    have ty := h.2.2.2.2.1.2.1 p.toNat (by omega)
    have hv : VLQ W D p m 0 m 0 := ⟨fun y => by rw [← ty.1, g4] at y; exact absurd y g3, fun _ => rfl⟩
    have pr := (h.2.2.2.2.2.2.2.2.2.2.2.2.1.1 o.toNat p.toNat (by omega) (by omega)).1
    rw [show ((o.toNat : Nat) : Int) = o by omega, show ((p.toNat : Nat) : Int) = p by omega] at pr
    have tr := tpc_r pr hv ty.1 t u
    have rv : rg m ∧ rg 0 ∧ rg m ∧ rg 0 := by unfold rg; omega
    refine ⟨tr.1, tr.2.1, fun z1 => ?_⟩
    have y1 : y = 1 := by omega
    subst z1
    subst y1
    have w := rpv_o h t3 ho (by omega) hv rv t u
    have v := pvr_t (by omega) (by omega) ho.1 pr hv rv (Or.inl rfl) t3 t u ty.1
    refine ⟨w.1, w.2.1, ?_, ?_⟩
    · rcases v.2.2.1 with v | v
      · rw [v]; exact FR.rf
      · rw [v]
        exact fun k j e => fr_stP (by omega) (by omega) k j (by revert e; unfold mdf lT1; simp)
    · rw [v.2.2.2]
      exact fun k j e => fr_tP0 (by omega) k j (by revert e; unfold mdf lTR; simp)
/-- the ADJECTIVES of a DESCRIPTION at the class's C, the reference's T -/
def CDS (C T W : sS) (N : Nat) : Prop := ∀ i : Nat, i < N → COD (Xi C 896 i) (Xi C 897 i) (Xi T 967 i) ∧ (Xi C 897 i = -1 → Xi C 896 i < Xi W 5 3) ∧ (Xi C 897 i ≠ -1 → Xi C 897 i < Xi W 5 5 ∧ Xi C 896 i < Xi W 5 4 ∧ Xi W 8 (Xi C 896 i).toNat ≠ 1 ∧ Xi W 9 (Xi C 897 i).toNat = Xi W 8 (Xi C 896 i).toNat)
theorem CDS.k {C T W V : sS} {N : Nat} (h : CDS C T W N) (a5 : ∀ j, j ≠ 2 → Xi V 5 j = Xi W 5 j) (a8 : ∀ j, Xi V 8 j = Xi W 8 j) (a9 : ∀ j, Xi V 9 j = Xi W 9 j) : CDS C T V N := fun i hi => by
  rw [a5 3 (by decide), a5 4 (by decide), a5 5 (by decide), a8, a9]
  exact h i hi
theorem adc_r {C C' T : sS} {o : Int} {N : Nat} (h : RLV C C') (t3 : TX3 C) (ho : 0 ≤ o ∧ o < Xi C 5 2) (cd : CDS C T C N) : ∀ (n : Nat) (V V' : sS), n ≤ N → ADC C o n V → RAC T C' o n V' → RLV V V' ∧ TX3 V ∧ FR lT1 C V ∧ FR lTR C' V'
  | 0, V, V', _, a, b => by
    have a : V = C := a
    have b : V' = C' := b
    subst a
    subst b
    exact ⟨h, t3, FR.rf, FR.rf⟩
  | n + 1, V, V', hn, a, b => by
    obtain ⟨W, a1, a2⟩ := a
    obtain ⟨W', b1, b2⟩ := b
    obtain ⟨r1, r2, r3, r4⟩ := adc_r h t3 ho cd n W W' (by omega) a1 b1
    have K : KEP [(5, 6), (8, 10)] [] C W := r3.kep rfl
    obtain ⟨d1, d2, d3⟩ := cd.k (V := W) (fun j _ => K.x 5 rfl j) (K.x 8 rfl) (K.x 9 rfl) n (by omega)
    have t := t1_r r1 r2 (by rw [K.x 5 rfl]; exact ho) d1 d2 d3 (by omega) a2 b2
    obtain ⟨s1, s2, s3, s4⟩ := t.2.2 rfl
    exact ⟨s1, s2, r3.tr s3 rfl, r4.tr s4 rfl⟩
theorem adc_p {C : sS} {o : Int} : ∀ (n i : Nat) (V : sS), i < n → ADC C o n V → ∃ W X : sS, ADC C o i W ∧ T1C W X 1 o (Xi C 896 i) (Xi C 897 i) 1
  | 0, i, _, h, _ => absurd h (by omega)
  | n + 1, i, V, h, a => by
    obtain ⟨W, a1, a2⟩ := a
    by_cases e : i = n
    · subst e; exact ⟨W, V, a1, a2⟩
    · exact adc_p n i W (by omega) a1
theorem rac_p {T C' : sS} {o : Int} : ∀ (n i : Nat) (V : sS), i < n → RAC T C' o n V → ∃ W X : sS, RAC T C' o i W ∧ TRD W X 1 o (Xi T 967 i) 1
  | 0, i, _, h, _ => absurd h (by omega)
  | n + 1, i, V, h, a => by
    obtain ⟨W, a1, a2⟩ := a
    by_cases e : i = n
    · subst e; exact ⟨W, V, a1, a2⟩
    · exact rac_p n i W (by omega) a1
/-- all the ADJECTIVES, or a fault, in both -/
theorem tac_r {C C' T B : sS} {z o : Int} (h : RLV C C') (t3 : TX3 C) (ho : 0 ≤ o ∧ o < Xi C 5 2) (cd : CDS C T C (Xi C 895 14).toNat) (n14 : (Xi T 904 112).toNat = (Xi C 895 14).toNat) (n0 : 0 ≤ Xi C 895 14) (t : TAC C B z o) (hz : z = 0 ∨ z = 1) : (∀ B' : sS, RAC T C' o (Xi T 904 112).toNat B' → z = 1 ∧ RLV B B' ∧ TX3 B ∧ FR lT1 C B ∧ FR lTR C' B') ∧ ((∃ (D E : sS) (i : Nat), (i : Int) < Xi T 904 112 ∧ RAC T C' o i D ∧ TRD D E 0 o (Xi T 967 i) 1) → z = 0) := by
  have st : ∀ (i : Nat) (W W' X X' : sS) (x y : Int), i < (Xi C 895 14).toNat → ADC C o i W → RAC T C' o i W' → T1C W X x o (Xi C 896 i) (Xi C 897 i) 1 → TRD W' X' y o (Xi T 967 i) 1 → x = y := fun i W W' X X' x y hi a b c d => by
    obtain ⟨r1, r2, r3, r4⟩ := adc_r h t3 ho cd i W W' (by omega) a b
    have K : KEP [(5, 6), (8, 10)] [] C W := r3.kep rfl
    obtain ⟨d1, d2, d3⟩ := cd.k (V := W) (fun j _ => K.x 5 rfl j) (K.x 8 rfl) (K.x 9 rfl) i hi
    exact (t1_r r1 r2 (by rw [K.x 5 rfl]; exact ho) d1 d2 d3 (by omega) c d).1
  refine ⟨fun B' rb => ?_, fun ⟨D, E, i, hi, rd, td⟩ => ?_⟩
  · rw [n14] at rb
    rcases hz with q | q
    · obtain ⟨i, W, hi, a, b⟩ := t.2 q
      obtain ⟨W', X, c, d⟩ := rac_p _ i B' (by omega) rb
      have := st i W W' B X 0 1 (by omega) a c b d
      omega
    · exact ⟨q, adc_r h t3 ho cd _ B B' (Nat.le_refl _) (t.1 q) rb⟩
  · rcases hz with q | q
    · exact q
    · obtain ⟨W, X, a, b⟩ := adc_p _ i B (by omega) (t.1 q)
      have := st i W D X E 1 0 (by omega) a rd b td
      omega
/-- the kind that an object is told to be of -/
theorem tkd_r {A A' C : sS} {z o k : Int} (h : RLV A A') (t3 : TX3 A) (ho : 0 ≤ o ∧ o < Xi A 5 2) (hk : 0 ≤ k ∧ k < Xi A 5 0) (t : TKDC A C z o k) : (∀ C' : sS, RK1 A' C' o k → z = 1 ∧ RLV C C' ∧ TX3 C ∧ FR [(21, 22, 0, 100000)] A C ∧ FR [(918, 919, 0, 100000)] A' C') ∧ (RK0 A' o k → z = 0) := by
  have c2 := h.2.2.1.2.2.1
  have c0 := h.2.2.1.1
  have kd := h.2.2.2.1
  have ob := h.2.2.2.2.2.2.2.2.2.1
  have oo := ob.1.2 o.toNat (by omega)
  have e1 : isK A k (Xi A 21 o.toNat) = blR A' k (Xi A' 918 o.toNat) := by rw [oo.1]; exact isK_bl kd hk.2
  have e2 : isK A (Xi A 21 o.toNat) k = blR A' (Xi A' 918 o.toNat) k := by rw [oo.1]; exact isK_bl kd oo.2.2
  have o1 := bl_01 (S := A') (o := Xi A' 918 o.toNat) 17 k
  have o2 := bl_01 (S := A') (o := k) 17 (Xi A' 918 o.toNat)
  unfold blR at e1 e2
  refine ⟨fun C' r => ?_, fun r => ?_⟩
  · rcases r with ⟨r1, r2⟩ | ⟨r1, r2, r3⟩
    · unfold blR at r1
      obtain ⟨z1, z2⟩ := t.1 (by omega)
      have F : FR [(21, 22, 0, 100000)] A C := by rw [z2]; exact FR.wI FR.rf (by unfold mdf inR; simp; omega)
      have G : FR [(918, 919, 0, 100000)] A' C' := by rw [r2]; exact FR.wI FR.rf (by unfold mdf inR; simp; omega)
      have rk : rg k := by unfold rg; omega
      have f1 : ∀ x : Nat, Xi C 21 x = if (x : Int) = o then k else Xi A 21 x := fun x => by
        rw [z2]
        by_cases q : (x : Int) = o
        · rw [if_pos q, show o.toNat = x by omega]; exact Xi_same rk
        · rw [if_neg q, Xi_ne (by omega)]
      have f2 : ∀ x : Nat, Xi C' 918 x = if (x : Int) = o then k else Xi A' 918 x := fun x => by
        rw [r2]
        by_cases q : (x : Int) = o
        · rw [if_pos q, show o.toNat = x by omega]; exact Xi_same rk
        · rw [if_neg q, Xi_ne (by omega)]
      have a : KEP [(2, 12), (13, 20), (22, 24), (25, 65), (66, 106), (107, 147), (148, 188), (189, 195), (196, 220), (221, 245), (245, 246), (902, 904)] [(1, 3), (20, 1), (20, 12)] A C := F.kep rfl
      have b : KEP [(906, 907), (912, 918), (919, 923), (924, 946)] [(904, 15), (904, 16), (904, 18), (904, 19), (904, 23), (904, 30), (904, 32), (904, 41), (904, 47), (904, 49), (904, 51)] A' C' := G.kep rfl
      have c : ∀ j, Xi C 5 j = Xi A 5 j := a.x 5 rfl
      have d : ∀ j, Xi A 5 j ≤ Xi C 5 j := fun j => by rw [c]; exact Int.le_refl _
      obtain ⟨h1, h2, h3, h4, h5, h6, h7, h8, h9, h10, h11, h12, h13, h14⟩ := h
      refine ⟨z1, ⟨h1.k (a.le rfl (by decide)) (b.le rfl (by decide)), h2.k (a.le rfl (by decide)), h3.k (a.le rfl (by decide)) (b.le rfl (by decide)), h4.k (c 0) (a.le rfl (by decide)) (b.le rfl (by decide)), h5.k (c 0) (c 4) (c 5) (d 1) (a.le rfl (by decide)) (b.le rfl (by decide)), h6.k (c 3) (d 0) (a.le rfl (by decide)) (b.le rfl (by decide)), h7.k (c 6) (d 0) (a.le rfl (by decide)) (b.le rfl (by decide)), h8.k (d 2) (a.le rfl (by decide)) (b.le rfl (by decide)), h9.k (c 7) (c 8) (d 6) (d 0) (a.le rfl (by decide)) (b.le rfl (by decide)), ?_, h11.k (c 2) (a.le rfl (by decide)), h12.k h3 (c 2) (c 0) (a.le rfl (by decide)) (b.le rfl (by decide)), h13.k h3 t3 (c 2) (c 0) (d 5) (a.le rfl (by decide)) (b.le rfl (by decide)) (fun p _ => b.x 928 rfl p), h14.k h3 (d 2) (a.le rfl (by decide)) (b.le rfl (by decide))⟩, by unfold TX3 at t3 ⊢; rw [txr_k a (by decide)]; exact t3, F, G⟩
      refine ⟨⟨by rw [c, b.f 904 19 (by decide)]; exact h10.1.1, fun x hx => ?_⟩, fun x hx => ?_⟩
      · rw [c] at hx ⊢
        rw [f1, f2]
        by_cases q : (x : Int) = o
        · rw [if_pos q, if_pos q]; exact ⟨rfl, hk⟩
        · rw [if_neg q, if_neg q]; exact h10.1.2 x hx
      · rw [c] at hx ⊢
        rw [a.x 22 rfl, a.x 23 rfl, b.x 919 rfl, b.x 920 rfl]
        exact h10.2 x hx
    · unfold blR at r1 r2
      obtain ⟨z1, z2⟩ := t.2 (by omega)
      subst z2
      subst r3
      exact ⟨by omega, h, t3, FR.rf, FR.rf⟩
  · unfold RK0 blR at r
    have z1 := (t.2 (by omega)).1
    omega
end
