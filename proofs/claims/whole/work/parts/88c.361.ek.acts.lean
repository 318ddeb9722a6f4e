section
/-! ACTS of both keep the relation -/
/-- one component changes, the others stay -/
theorem rlb_p {U U1 S S1 : sS} (a : RLB U S) (k : KEP [(2, 20), (21, 24), (25, 65), (189, 195), (196, 220), (221, 876), (883, 888), (902, 904)] cBv U U1) (q : KEP [(906, 907), (912, 930), (933, 950), (969, 988)] cBw S S1) (h13 : RPR U1 S1) : RLB U1 S1 := by
  have ct := a.1.2.2.1
  have c : ∀ j, Xi U1 5 j = Xi U 5 j := k.x 5 rfl
  have d : ∀ j, Xi U 5 j ≤ Xi U1 5 j := fun j => by rw [c]; exact Int.le_refl _
  exact rlb_k a (k.le rfl (by decide)) (q.le rfl (by decide)) (a.1.2.2.2.2.2.2.2.1.k (d 2) (k.le rfl (by decide)) (q.le rfl (by decide))) (a.1.2.2.2.2.2.2.2.2.2.1.k (c 2) (d 0) (k.le rfl (by decide)) (q.le rfl (by decide))) (a.1.2.2.2.2.2.2.2.2.2.2.2.1.k ct (c 2) (c 0) (k.le rfl (by decide)) (q.le rfl (by decide))) h13
theorem rlb_a {U U1 S S1 : sS} (a : RLB U S) (k : KEP [(2, 20), (21, 24), (66, 106), (107, 147), (148, 188), (189, 195), (196, 220), (221, 876), (883, 888), (902, 904)] cBv U U1) (q : KEP [(906, 907), (912, 925), (926, 950), (969, 988)] cBw S S1) (h12 : RAQ U1 S1) : RLB U1 S1 := by
  have ct := a.1.2.2.1
  have c : ∀ j, Xi U1 5 j = Xi U 5 j := k.x 5 rfl
  have d : ∀ j, Xi U 5 j ≤ Xi U1 5 j := fun j => by rw [c]; exact Int.le_refl _
  exact rlb_k a (k.le rfl (by decide)) (q.le rfl (by decide)) (a.1.2.2.2.2.2.2.2.1.k (d 2) (k.le rfl (by decide)) (q.le rfl (by decide))) (a.1.2.2.2.2.2.2.2.2.2.1.k (c 2) (d 0) (k.le rfl (by decide)) (q.le rfl (by decide))) h12 (a.1.2.2.2.2.2.2.2.2.2.2.2.2.1.k ct a.2.1 (c 2) (c 0) (d 5) (k.le rfl (by decide)) (q.le rfl (by decide)) (fun p _ => q.x 928 rfl p))
theorem rlb_b {U U1 S S1 : sS} (a : RLB U S) (k : KEP [(2, 20), (21, 24), (25, 65), (66, 106), (107, 147), (148, 188), (196, 220), (221, 876), (883, 888), (902, 904)] cBv U U1) (q : KEP [(906, 907), (912, 940), (941, 950), (969, 988)] cBw S S1) (h8 : RBT U1 S1) : RLB U1 S1 := by
  have ct := a.1.2.2.1
  have c : ∀ j, Xi U1 5 j = Xi U 5 j := k.x 5 rfl
  have d : ∀ j, Xi U 5 j ≤ Xi U1 5 j := fun j => by rw [c]; exact Int.le_refl _
  exact rlb_k a (k.le rfl (by decide)) (q.le rfl (by decide)) h8 (a.1.2.2.2.2.2.2.2.2.2.1.k (c 2) (d 0) (k.le rfl (by decide)) (q.le rfl (by decide))) (a.1.2.2.2.2.2.2.2.2.2.2.2.1.k ct (c 2) (c 0) (k.le rfl (by decide)) (q.le rfl (by decide))) (a.1.2.2.2.2.2.2.2.2.2.2.2.2.1.k ct a.2.1 (c 2) (c 0) (d 5) (k.le rfl (by decide)) (q.le rfl (by decide)) (fun p _ => q.x 928 rfl p))
theorem rlb_o {U U1 S S1 : sS} (a : RLB U S) (k : KEP [(2, 20), (21, 22), (25, 65), (66, 106), (107, 147), (148, 188), (189, 195), (196, 220), (221, 876), (883, 888), (902, 904)] cBv U U1) (q : KEP [(906, 907), (912, 919), (921, 950), (969, 988)] cBw S S1) (h10 : ROB U1 S1) : RLB U1 S1 := by
  have ct := a.1.2.2.1
  have c : ∀ j, Xi U1 5 j = Xi U 5 j := k.x 5 rfl
  have d : ∀ j, Xi U 5 j ≤ Xi U1 5 j := fun j => by rw [c]; exact Int.le_refl _
  exact rlb_k a (k.le rfl (by decide)) (q.le rfl (by decide)) (a.1.2.2.2.2.2.2.2.1.k (d 2) (k.le rfl (by decide)) (q.le rfl (by decide))) h10 (a.1.2.2.2.2.2.2.2.2.2.2.2.1.k ct (c 2) (c 0) (k.le rfl (by decide)) (q.le rfl (by decide))) (a.1.2.2.2.2.2.2.2.2.2.2.2.2.1.k ct a.2.1 (c 2) (c 0) (d 5) (k.le rfl (by decide)) (q.le rfl (by decide)) (fun p _ => q.x 928 rfl p))
/-- a property is set -/
theorem sp_g {U S B : sS} {o p v l v2 l2 : Int} (h : RLB U S) (ho : 0 ≤ o ∧ o < Xi U 5 2) (hp : 0 ≤ p ∧ p < Xi U 5 5) (hv : VLQ U S p v l v2 l2) (rv : rg v ∧ rg l) (G : KEP [(906, 907), (912, 930), (933, 950), (969, 988)] cBw S B) (b0 : Xi B 930 (12 * o + p).toNat = 1) (b1 : Xi B 931 (12 * o + p).toNat = v2) (b2 : Xi S 928 p.toNat = 1 → Xi B 932 (12 * o + p).toNat = l2) (nB : ∀ j : Nat, j ≠ (12 * o + p).toNat → Xi B 930 j = Xi S 930 j ∧ Xi B 931 j = Xi S 931 j ∧ Xi B 932 j = Xi S 932 j) : RLB (spF U o p v l) B := by
  have c := h.1.2.2.1
  have c2 := c.2.2.1
  have c5 := c.2.2.2.2.2.1
  have c0 := c.1
  have t3 := h.2.1
  obtain ⟨A, eA⟩ : ∃ A : sS, A = spF U o p v l := ⟨_, rfl⟩
  rw [← eA]
  obtain ⟨r1, r2, r3, r4⟩ := h.1.2.2.2.2.2.2.2.2.2.2.2.2.1
  have F : FR [(66, 106, 0, 100000), (107, 147, 0, 100000), (148, 188, 0, 100000)] U A := by rw [eA]; exact fr_stP (v := v) (l := l) (by omega) (by omega)
  have K : KEP [(5, 6), (245, 246), (902, 904)] [(20, 1)] U A := F.kep rfl
  have tx := txr_k K (by decide)
  have ta := tx_k t3 K rfl rfl rfl
  have cx : ∀ j, Xi A 5 j = Xi U 5 j := K.x 5 rfl
  have a0 : Xi A (66 + o.toNat) p.toNat = 1 := by rw [eA]; unfold spF; rw [Xi_ne (by omega), Xi_ne (by omega)]; exact Xi_same (by unfold rg; omega)
  have a1 : Xi A (107 + o.toNat) p.toNat = v := by rw [eA]; unfold spF; rw [Xi_ne (by omega)]; exact Xi_same rv.1
  have a2 : Xi A (148 + o.toNat) p.toNat = l := by rw [eA]; unfold spF; exact Xi_same rv.2
  have ne : ∀ (m : Nat) (x y : Nat), (m = 66 ∨ m = 107 ∨ m = 148) → x < 40 → y < 12 → ¬ ((x : Int) = o ∧ (y : Int) = p) → Xi A (m + x) y = Xi U (m + x) y := fun m x y hm hx hy q => by
    rw [eA]; unfold spF; rw [Xi_ne (by omega), Xi_ne (by omega), Xi_ne (by omega)]
  refine rlb_p h (F.kep rfl) G ⟨fun x y hx hy => ?_, fun x y hx hy => ?_, fun x g0 hx y hy => ?_, fun x g0 hx y hy => ?_⟩
  · rw [cx] at hx ⊢
    by_cases q : (x : Int) = o ∧ (y : Int) = p
    · rw [q.1, q.2]
      refine ⟨?_, fun _ => hp.2⟩
      unfold PVR
      rw [a0, a1, a2, b0, b1, G.x 928 rfl]
      refine ⟨by omega, fun _ => ⟨fun g => ?_, hv.2⟩⟩
      rw [b2 g]
      exact (hv.1 g).k tx ta (G.x 906 rfl)
    · obtain ⟨g1, g2⟩ := r1 x y hx hy
      have e : (12 * (x : Int) + y).toNat = 12 * x + y := by omega
      obtain ⟨n1, n2, n3⟩ := nB (12 * x + y) (by omega)
      refine ⟨?_, fun z => g2 (by rw [← n1]; exact z)⟩
      unfold PVR at g1 ⊢
      rw [e] at g1 ⊢
      rw [show 66 + (x : Int).toNat = 66 + x by omega, show 107 + (x : Int).toNat = 107 + x by omega, show 148 + (x : Int).toNat = 148 + x by omega, show (y : Int).toNat = y by omega] at g1 ⊢
      rw [ne 66 x y (by omega) (by omega) hy q, ne 107 x y (by omega) (by omega) hy q, ne 148 x y (by omega) (by omega) hy q, n1, n2, n3, G.x 928 rfl]
      exact ⟨g1.1, fun z => ⟨fun d => ((g1.2 z).1 d).k tx ta (G.x 906 rfl), (g1.2 z).2⟩⟩
  · rw [cx] at hx ⊢
    rw [G.x 933 rfl]
    have q : ¬ (((24 + x : Nat) : Int) = o ∧ (y : Int) = p) := by omega
    obtain ⟨g1, g2⟩ := r2 x y hx hy
    refine ⟨?_, g2⟩
    have e : (24 + (x : Int)).toNat = 24 + x := by omega
    unfold PVR at g1 ⊢
    rw [e, show (y : Int).toNat = y by omega] at g1 ⊢
    rw [ne 66 (24 + x) y (by omega) (by omega) hy q, ne 107 (24 + x) y (by omega) (by omega) hy q, ne 148 (24 + x) y (by omega) (by omega) hy q, G.x 933 rfl, G.x 934 rfl, G.x 935 rfl, G.x 928 rfl]
    exact ⟨g1.1, fun z => ⟨fun d => ((g1.2 z).1 d).k tx ta (G.x 906 rfl), (g1.2 z).2⟩⟩
  · rw [cx] at hx
    rw [ne 66 x y (by omega) (by omega) hy (by omega)]; exact r3 x g0 hx y hy
  · rw [cx] at hx
    have t := ne 66 (24 + x) y (by omega) (by omega) hy (by omega)
    rw [show 66 + (24 + x) = 90 + x by omega] at t
    rw [t]; exact r4 x g0 hx y hy
theorem sp_r {U S : sS} {o p v l v2 l2 : Int} (h : RLB U S) (ho : 0 ≤ o ∧ o < Xi U 5 2) (hp : 0 ≤ p ∧ p < Xi U 5 5) (hv : VLQ U S p v l v2 l2) (rv : rg v ∧ rg l ∧ rg v2 ∧ rg l2) : RLB (spF U o p v l) (spR S o p v2 l2) := by
  have c2 := h.1.2.2.1.2.2.1
  have c5 := h.1.2.2.1.2.2.2.2.2.1
  have G : FR [(930, 933, 0, 100000)] S (spR S o p v2 l2) := fr_tP0 (by omega)
  refine sp_g h ho hp hv ⟨rv.1, rv.2.1⟩ (G.kep rfl) ?_ ?_ (fun _ => ?_) (fun j hj => ⟨?_, ?_, ?_⟩) <;> unfold spR
  · rw [Xi_ne (by omega), Xi_ne (by omega)]; exact Xi_same (by unfold rg; omega)
  · rw [Xi_ne (by omega)]; exact Xi_same rv.2.2.1
  · exact Xi_same rv.2.2.2
  · rw [Xi_ne (by omega), Xi_ne (by omega), Xi_ne (by omega)]
  · rw [Xi_ne (by omega), Xi_ne (by omega), Xi_ne (by omega)]
  · rw [Xi_ne (by omega), Xi_ne (by omega), Xi_ne (by omega)]
/-- an adjective is set -/
theorem sa_r {U S : sS} {o a h nt : Int} (hR : RLB U S) (ho : 0 ≤ o ∧ o < Xi U 5 2) (ha : 0 ≤ a ∧ a < Xi U 5 3) (hi : h = 0 ↔ nt ≠ 0) (hc : Xi S 922 a.toNat ≠ -1) : RLB (saF U o a h) (saR S o a nt) := by
  have c := hR.1.2.2.1
  have c2 := c.2.2.1
  have c3 := c.2.2.2.1
  have c0 := c.1
  have aj := hR.1.2.2.2.2.2.1 a.toNat (by omega)
  obtain ⟨r1, r2, r3, r4⟩ := hR.1.2.2.2.2.2.2.2.2.2.2.2.1
  have v := r1 o.toNat (by omega)
  rw [show ((o.toNat : Nat) : Int) = o by omega] at v
  have kk : Xi U 11 a.toNat = Xi S 922 a.toNat ∧ -1 ≤ Xi S 922 a.toNat ∧ Xi S 922 a.toNat < 24 := ⟨aj.2.1.1, by omega, by omega⟩
  obtain ⟨A, wA⟩ : ∃ A : sS, A = stAd U o a h := ⟨_, rfl⟩
  obtain ⟨B, wB⟩ : ∃ B : sS, B = rIs S 925 (24 * o) a h := ⟨_, rfl⟩
  have eA : saF U o a h = A := wA.symm
  have eB : saR S o a nt = B := by
    rw [wB]; unfold saR rIs; rw [if_neg hc]
    by_cases q : h = 0
    · rw [if_pos q, if_pos q, if_neg (hi.1 q), if_neg (hi.1 q)]
    · have q2 : nt = 0 := Decidable.byContradiction (fun x => q (hi.2 x))
      rw [if_neg q, if_neg q, if_pos q2, if_pos q2]
  rw [eA, eB]
  have F : FR [(25, 65, 0, 100000)] U A := by rw [wA]; exact fr_stA (by omega) (by omega) (by omega)
  have G : FR [(925, 926, 0, 100000)] S B := by rw [wB]; exact fr_rI5 (by omega) (by omega) (by omega)
  have cx : ∀ j, Xi A 5 j = Xi U 5 j := (F.kep rfl : KEP [(5, 6)] [] U A).x 5 rfl
  have g6 : ∀ j, Xi B 926 j = Xi S 926 j := (G.kep rfl : KEP [(926, 927)] [] S B).x 926 rfl
  have nU : ∀ x y : Nat, (x : Int) ≠ o → Xi A (25 + x) y = Xi U (25 + x) y := fun x y q => by rw [wA]; exact stA_ne q ho.1
  refine rlb_a hR (F.kep rfl) (G.kep rfl) ⟨fun x hx => ?_, fun x hx => ?_, fun x g0 hx y hy => ?_, fun x g0 hx y hy => ?_⟩
  · rw [cx] at hx
    by_cases q : (x : Int) = o
    · rw [q, wA, wB]
      exact adv_s2 v kk (by omega) (by omega) Iff.rfl
    · intro y hy
      have t := r1 x hx y hy
      rw [show 25 + (x : Int).toNat = 25 + x by omega, show (24 * (x : Int) + y).toNat = 24 * x + y by omega] at t ⊢
      rw [nU x y q, wB, rIs_ne (by omega) (by omega) (by omega) (by omega)]
      exact t
  · rw [cx] at hx
    refine (r2 x hx).k (fun j => ?_) g6
    rw [show (24 + (x : Int)).toNat = 24 + x by omega]; exact nU (24 + x) j (by omega)
  · rw [cx] at hx
    rw [nU x y (by omega)]; exact r3 x g0 hx y hy
  · rw [cx] at hx
    have t := nU (24 + x) y (by omega)
    rw [show 25 + (24 + x) = 49 + x by omega] at t
    rw [t]; exact r4 x g0 hx y hy
/-- something is put somewhere -/
theorem pl_b {U S : sS} {o h w : Int} (a : RLB U S) (ho : 0 ≤ o ∧ o < Xi U 5 2) (hh : 1 ≤ h ∧ h ≤ 5) (hw : 0 ≤ w ∧ w < Xi U 5 2) : RLB (plO U o h w) (uI (uI S 919 o.toNat (Int32.ofInt h)) 920 o.toNat (Int32.ofInt w)) := by
  have c2 := a.1.2.2.1.2.2.1
  have F : FR [(22, 24, 0, 100000)] U (plO U o h w) := by unfold plO; exact FR.wI (FR.wI FR.rf (by unfold mdf inR; simp; omega)) (by unfold mdf inR; simp; omega)
  have G : FR [(919, 921, 0, 100000)] S (uI (uI S 919 o.toNat (Int32.ofInt h)) 920 o.toNat (Int32.ofInt w)) := FR.wI (FR.wI FR.rf (by unfold mdf inR; simp; omega)) (by unfold mdf inR; simp; omega)
  exact rlb_o a (F.kep rfl) (G.kep rfl) (rob_p a.1.2.2.2.2.2.2.2.2.2.1 ho hh hw a.1.2.2.1 rfl rfl)
theorem wi_r {U S : sS} {o x : Int} (ob : ROB U S) (h : -1 ≤ o ∧ o < Xi U 5 2) : isW U o x = wiR S o x := iw_r ob 25 o h.1 h.2
theorem mv_r {U S : sS} {a b : Int} (h : RLB U S) (ha : 0 ≤ a ∧ a < Xi U 5 2) (hb : 0 ≤ b ∧ b < Xi U 5 2) : RLB (mvF U a b) (mvR S a b) := by
  have ob := h.1.2.2.2.2.2.2.2.2.2.1
  have kn := h.1.2.2.2.1
  have ka := ob.1.2 a.toNat (by omega)
  have kb := ob.1.2 b.toNat (by omega)
  have e1 : isK U (Xi U 21 a.toNat) 0 = blR S (Xi S 918 a.toNat) 0 := by rw [ka.1]; exact isK_bl kn ka.2.2
  have e2 : ∀ x : Int, isK U (Xi U 21 b.toNat) x = blR S (Xi S 918 b.toNat) x := fun x => by rw [kb.1]; exact isK_bl kn kb.2.2
  have e3 : isW U b a = wiR S b a := wi_r ob (by omega)
  unfold mvF mvR
  rw [e1, e3]
  by_cases q : blR S (Xi S 918 a.toNat) 0 = 0 ∨ wiR S b a ≠ 0
  · rw [if_pos q, if_pos q]; exact h
  · rw [if_neg q, if_neg q]
    have m : mhF U b = mhX S b := by
      unfold mhF mhX mhR kwR
      rw [e2, e2, e2, e2, if_pos rfl, if_neg (show ¬ ((2 : Int) = 1) by decide), if_neg (show ¬ ((4 : Int) = 1) by decide), if_pos (show (2 : Int) = 2 from rfl), if_neg (show ¬ ((4 : Int) = 2) by decide), if_neg (show ¬ ((4 : Int) = 3) by decide)]
      by_cases z : blR S (Xi S 918 b.toNat) 1 ≠ 0 ∨ blR S (Xi S 918 b.toNat) 2 ≠ 0
      · rw [if_pos z, if_pos z, if_pos (by decide)]
      · rw [if_neg z, if_neg z, if_neg (show ¬ ((0 : Int) ≠ 0) from fun x => x rfl)]
    have r : 1 ≤ mhX S b ∧ mhX S b ≤ 5 := by
      unfold mhX
      split
      · omega
      · split
        · omega
        · split <;> omega
    rw [m]
    exact pl_b h ha r hb

/-! ACTS of both: relations, added numbers, what now makes so -/
theorem gb_not {x b p : Int} (hp : 0 ≤ p ∧ p < 32) (hb : 0 ≤ b ∧ b < 32) : gb (iandF x (ixorF (ishlF 1 b) (-1))) p = (gb x p && !decide (p = b)) := by
  rw [gb_and, gb_xor, gb_shl hp hb, gb_m1 hp]
  cases gb x p <;> cases decide (p = b) <;> rfl
theorem iand_r {x y : Int} : rg (iandF x y) := rg_toI
theorem ior_r {x y : Int} : rg (iorF x y) := rg_toI
/-- rows of a relation in the class, while it is made anew -/
theorem rn1_g {U : sS} {r a : Int} {x : Nat} {y : Int} (h0 : 0 ≤ a) : gb (Xi (rn1 U r a) (189 + r.toNat) x) y = if Xi U 17 r.toNat ≠ 0 ∧ (x : Int) = a then false else gb (Xi U (189 + r.toNat) x) y := by
  unfold rn1
  by_cases q : Xi U 17 r.toNat = 0
  · rw [if_pos q, if_neg (fun z => z.1 q)]
  · rw [if_neg q]
    by_cases e : (x : Int) = a
    · rw [if_pos ⟨q, e⟩, show x = a.toNat by omega, Xi_same (by unfold rg; omega), gb_0]
    · rw [if_neg (fun z => e z.2), Xi_ne (by omega)]
theorem rn2_g {U : sS} {r b : Int} {x : Nat} {y : Int} (hy : 0 ≤ y ∧ y < 32) (hb : 0 ≤ b ∧ b < 32) : ∀ n : Nat, gb (Xi (rn2 U r b n) (189 + r.toNat) x) y = if Xi U 16 r.toNat ≠ 0 ∧ x < n ∧ y = b then false else gb (Xi U (189 + r.toNat) x) y
  | 0 => by unfold rn2; rw [if_neg (fun z => absurd z.2.1 (by omega))]
  | n + 1 => by
    have ih := rn2_g (U := U) (r := r) (x := x) hy hb n
    unfold rn2
    by_cases q : Xi U 16 r.toNat = 0
    · rw [if_pos q, if_neg (fun z => z.1 q)]
    · rw [if_neg q]
      by_cases e : x = n
      · rw [e] at ih ⊢
        rw [Xi_same iand_r, gb_not hy hb, ih, if_neg (fun z => absurd z.2.1 (by omega))]
        by_cases w : y = b
        · rw [if_pos ⟨q, by omega, w⟩, w]; simp
        · rw [if_neg (fun z => w z.2.2)]; simp [w]
      · rw [Xi_ne (by omega), ih]
        by_cases w : x < n ∧ y = b
        · rw [if_pos ⟨q, w⟩, if_pos ⟨q, by omega, w.2⟩]
        · rw [if_neg (fun z => w z.2), if_neg (fun z => w ⟨by omega, z.2.2⟩)]
theorem rn2_o {U : sS} {r b : Int} {c : Nat} (h : c ≠ 189 + r.toNat) (j : Nat) : ∀ n : Nat, Xi (rn2 U r b n) c j = Xi U c j
  | 0 => rfl
  | n + 1 => by
    unfold rn2
    split
    · rfl
    · rw [Xi_ne (by omega), rn2_o h j n]
theorem rn1_o {U : sS} {r a : Int} {c : Nat} (h : c ≠ 189 + r.toNat) (j : Nat) : Xi (rn1 U r a) c j = Xi U c j := by
  unfold rn1
  split
  · rfl
  · rw [Xi_ne (by omega)]
theorem rnF_o {U : sS} {r a b : Int} {c : Nat} (h : c ≠ 189 + r.toNat) (j : Nat) : Xi (rnF U r a b) c j = Xi U c j := by
  unfold rnF
  rw [Xi_ne (by omega), rn2_o h, rn1_o h]
theorem rnF_g {U : sS} {r a b : Int} {x : Nat} {y : Int} (ha : 0 ≤ a) (hx : x < 24) (hy : 0 ≤ y ∧ y < 32) (hb : 0 ≤ b ∧ b < 32) (hr : 0 ≤ r ∧ r < 6) : gb (Xi (rnF U r a b) (189 + r.toNat) x) y = if (x : Int) = a ∧ y = b then true else if (Xi U 16 r.toNat ≠ 0 ∧ y = b) ∨ (Xi U 17 r.toNat ≠ 0 ∧ (x : Int) = a) then false else gb (Xi U (189 + r.toNat) x) y := by
  have e16 : Xi (rn1 U r a) 16 r.toNat = Xi U 16 r.toNat := rn1_o (by omega) _
  have t := rn2_g (U := rn1 U r a) (r := r) (x := x) hy hb 24
  rw [e16, rn1_g ha] at t
  unfold rnF
  by_cases e : (x : Int) = a
  · rw [show a.toNat = x by omega, Xi_same ior_r, gb_or, gb_shl hy hb, t]
    by_cases w : y = b
    · rw [decide_eq_true w, Bool.or_true]; exact (if_pos ⟨e, w⟩).symm
    · rw [decide_eq_false w, Bool.or_false, if_neg (show ¬ (Xi U 16 r.toNat ≠ 0 ∧ x < 24 ∧ y = b) from fun z => w z.2.2), if_neg (show ¬ ((x : Int) = a ∧ y = b) from fun z => w z.2)]
      by_cases q : Xi U 17 r.toNat ≠ 0
      · rw [if_pos (show Xi U 17 r.toNat ≠ 0 ∧ (x : Int) = a from ⟨q, e⟩), if_pos (show (Xi U 16 r.toNat ≠ 0 ∧ y = b) ∨ (Xi U 17 r.toNat ≠ 0 ∧ (x : Int) = a) from Or.inr ⟨q, e⟩)]
      · rw [if_neg (show ¬ (Xi U 17 r.toNat ≠ 0 ∧ (x : Int) = a) from fun z => q z.1), if_neg (show ¬ ((Xi U 16 r.toNat ≠ 0 ∧ y = b) ∨ (Xi U 17 r.toNat ≠ 0 ∧ (x : Int) = a)) from fun z => z.elim (fun z => w z.2) (fun z => q z.1))]
  · rw [Xi_ne (by omega), t, if_neg (show ¬ ((x : Int) = a ∧ y = b) from fun z => e z.1)]
    by_cases w : Xi U 16 r.toNat ≠ 0 ∧ y = b
    · rw [if_pos (show Xi U 16 r.toNat ≠ 0 ∧ x < 24 ∧ y = b from ⟨w.1, hx, w.2⟩), if_pos (show (Xi U 16 r.toNat ≠ 0 ∧ y = b) ∨ (Xi U 17 r.toNat ≠ 0 ∧ (x : Int) = a) from Or.inl w)]
    · rw [if_neg (show ¬ (Xi U 16 r.toNat ≠ 0 ∧ x < 24 ∧ y = b) from fun z => w ⟨z.1, z.2.2⟩), if_neg (show ¬ (Xi U 17 r.toNat ≠ 0 ∧ (x : Int) = a) from fun z => e z.2), if_neg (show ¬ ((Xi U 16 r.toNat ≠ 0 ∧ y = b) ∨ (Xi U 17 r.toNat ≠ 0 ∧ (x : Int) = a)) from fun z => z.elim w (fun z => e z.2))]
theorem fr_rn1 {U : sS} {r a : Int} (hr : 0 ≤ r ∧ r < 6) (ha : 0 ≤ a ∧ a < 24) : FR lRW U (rn1 U r a) := by
  unfold rn1
  split
  · exact FR.rf
  · exact FR.wI FR.rf (by unfold mdf inR lRW; simp; omega)
theorem fr_rn2 {U : sS} {r b : Int} (hr : 0 ≤ r ∧ r < 6) : ∀ n : Nat, n ≤ 24 → FR lRW U (rn2 U r b n)
  | 0, _ => FR.rf
  | n + 1, h => by
    unfold rn2
    split
    · exact FR.rf
    · exact FR.wI (fr_rn2 hr n (by omega)) (by unfold mdf inR lRW; simp; omega)
theorem fr_rnF {U : sS} {r a b : Int} (hr : 0 ≤ r ∧ r < 6) (ha : 0 ≤ a ∧ a < 24) : FR lRW U (rnF U r a b) := by
  unfold rnF
  exact FR.wI ((fr_rn1 hr ha).tr (fr_rn2 hr 24 (by omega)) rfl) (by unfold mdf inR lRW; simp; omega)
/-- a relation is made anew, in both -/
theorem rn_r {U S W : sS} {r a b : Int} (h : RLB U S) (hr : 0 ≤ r ∧ r < Xi U 5 6) (ha : 0 ≤ a ∧ a < Xi U 5 2) (hb : 0 ≤ b ∧ b < Xi U 5 2) (G : KEP [(906, 907), (912, 940), (941, 950), (969, 988)] cBw S W) (z : RNZ S W r a b (Xi S 904 19) (Xi S 938 r.toNat) (Xi S 939 r.toNat)) : RLB (rnF U r a b) W := by
  have c := h.1.2.2.1
  have c2 := c.2.2.1
  have c6 := c.2.2.2.2.2.2.1
  have F : FR lRW U (rnF U r a b) := fr_rnF (by omega) (by omega)
  obtain ⟨T, z1, z2, z3⟩ := z
  have re := h.1.2.2.2.2.2.2.1 r.toNat (by omega)
  obtain ⟨_, _, re1, re2⟩ := re
  have bt := h.1.2.2.2.2.2.2.2.1
  refine rlb_b h (F.kep rfl) G (fun s x y hs hx hy => ?_)
  have u5 : Xi (rnF U r a b) 5 2 = Xi U 5 2 := rnF_o (by omega) _
  rw [u5]
  obtain ⟨b1, b2⟩ := bt s x y hs hx hy
  by_cases e : (s : Int) = r
  · have es : s = r.toNat := by omega
    rw [es] at b1 b2 ⊢
    have g := rnF_g (U := U) (r := r) (a := a) (b := b) (x := x) (y := (y : Int)) ha.1 hx (by omega) (by omega) (by omega)
    rw [g]
    by_cases w : (x : Int) = a ∧ (y : Int) = b
    · rw [if_pos w]
      refine ⟨fun _ => by omega, fun _ => ⟨fun _ => ?_, fun _ => rfl⟩⟩
      rw [z3, show 576 * r.toNat + 24 * x + y = (576 * r + 24 * a + b).toNat by omega, Xi_same (by unfold rg; omega)]
      decide
    · rw [if_neg w]
      have wx : y < 24 → Xi W 940 (576 * r.toNat + 24 * x + y) = Xi T 940 (576 * r.toNat + 24 * x + y) := fun y24 => by rw [z3, Xi_ne (by omega)]
      have tx : y < 24 → _ := fun y24 => z1 (x : Int) (y : Int) (by omega) (by omega) (by omega) (by omega)
      by_cases v : (Xi U 16 r.toNat ≠ 0 ∧ (y : Int) = b) ∨ (Xi U 17 r.toNat ≠ 0 ∧ (x : Int) = a)
      · rw [if_pos v]
        refine ⟨fun q => absurd q (by decide), fun y24 => ⟨fun q => absurd q (by decide), fun q => ?_⟩⟩
        exfalso
        apply q
        rw [wx y24]
        obtain ⟨t1, t2⟩ := tx y24
        rw [show (576 * r + 24 * (x : Int) + (y : Int)).toNat = 576 * r.toNat + 24 * x + y by omega] at t1 t2
        by_cases n : (x : Int) < Xi S 904 19 ∧ (y : Int) < Xi S 904 19
        · refine t1 ?_
          rcases v with ⟨v1, v2⟩ | ⟨v1, v2⟩
          · exact Or.inl ⟨v2, n.1, fun k => v1 (re1.2 k), fun k => w ⟨k, v2⟩⟩
          · exact Or.inr ⟨v2, n.2, fun k => v1 (re2.2 k), fun k => w ⟨v2, k⟩⟩
        · by_cases k : Xi S 940 (576 * r.toNat + 24 * x + y) = 0
          · by_cases m : ((y : Int) = b ∧ (x : Int) < Xi S 904 19 ∧ Xi S 938 r.toNat ≠ 0 ∧ (x : Int) ≠ a) ∨ ((x : Int) = a ∧ (y : Int) < Xi S 904 19 ∧ Xi S 939 r.toNat ≠ 0 ∧ (y : Int) ≠ b)
            · exact t1 m
            · rw [t2 m]; exact k
          · have := b1 ((b2 y24).2 k)
            exact absurd ⟨by omega, by omega⟩ n
      · rw [if_neg v]
        refine ⟨b1, fun y24 => ?_⟩
        rw [wx y24]
        obtain ⟨t1, t2⟩ := tx y24
        rw [show (576 * r + 24 * (x : Int) + (y : Int)).toNat = 576 * r.toNat + 24 * x + y by omega] at t1 t2
        rw [t2 (fun m => v (m.elim (fun m => Or.inl ⟨fun k => m.2.2.1 (re1.1 k), m.1⟩) (fun m => Or.inr ⟨fun k => m.2.2.1 (re2.1 k), m.1⟩)))]
        exact b2 y24
  · rw [rnF_o (by omega)]
    refine ⟨b1, fun y24 => ?_⟩
    rw [z3, Xi_ne (by omega), z2.1 _ (by omega)]
    exact b2 y24
/-- numbers are added -/
theorem ads_r {U S W : sS} {o p t : Int} (h : RLB U S) (ho : 0 ≤ o ∧ o < Xi U 5 2) (hp : 0 ≤ p ∧ p < Xi U 5 5) (h9 : Xi U 9 p.toNat = 0) (F : FR [(904, 905, 154, 155), (930, 931, 0, 100000), (931, 932, 0, 100000)] S W) (z : ADR S W (12 * o + p).toNat (clW (adW (nuR S o p) t))) : RLB (spF U o p (clW (adW (vof U o p.toNat) t)) 0) W := by
  obtain ⟨n1, n2⟩ := num_r h.1 ho hp
  have e : vof U o p.toNat = nuR S o p := n1.2 (by omega)
  rw [e]
  have r := clw_rg (c := adW (nuR S o p) t)
  obtain ⟨⟨z1, z2⟩, z3⟩ := z
  have g2 : ∀ j, Xi W 932 j = Xi S 932 j := (F.kep rfl : KEP [(932, 933)] [] S W).x 932 rfl
  exact sp_g (v2 := clW (adW (nuR S o p) t)) (l2 := Xi S 932 (12 * o + p).toNat) h ho hp ⟨fun q => absurd q (by omega), fun _ => rfl⟩ ⟨by unfold rg; omega, by unfold rg; omega⟩ (F.kep rfl) z1 z2 (fun _ => g2 _) (fun j hj => ⟨(z3 j hj).1, (z3 j hj).2, g2 j⟩)
end
section
/-! PHRASES of both: now, move, more and less -/
def lCA : List rec := [(22, 24, 0, 100000), (25, 65, 0, 100000), (66, 106, 0, 100000), (107, 147, 0, 100000), (148, 188, 0, 100000), (189, 195, 0, 100000)]
theorem now_s {U S W : sS} {q cl : Nat} {fm n w h t g m noun : Int} {cnd : Prop} {tr : sS → Int → Int → sS} (a : RLB U S) (c : CLM U cl fm n w h t g m) (f : TQF U S q 53 fm n w h t g m) (nq : NQ S cnd q) (hs : (w = -2 → 0 ≤ noun ∧ noun < Xi U 5 2) ∧ (fm = 6 → m = -2 → 0 ≤ noun ∧ noun < Xi U 5 2)) (F : FR [(925, 926, 0, 100000), (930, 931, 0, 100000), (931, 932, 0, 100000), (932, 933, 0, 100000), (940, 941, 0, 100000)] S W) (z : NOW S W q noun) : RLB (pfF tr U cl noun) W ∧ FR lCA U (pfF tr U cl noun) := by
  obtain ⟨⟨f1, f2⟩, f3, f4⟩ := f
  obtain ⟨c0, c1, c2, c3, c4, c5, c6⟩ := c
  have ew := tmk_w (self := noun) (it := -1) (noun := noun) f3 (by rw [if_neg (by decide)])
  have lw := tmk_lt f3 hs.1
  have n3 := nq.2.1
  have ct := a.1.2.2.1
  have e2 := ct.2.2.1
  have e3 := ct.2.2.2.1
  have e4 := ct.2.2.2.2.1
  have rt : rg t := c4 ▸ Xi_rg
  have rgg : rg g := c5 ▸ Xi_rg
  rcases f4 with ⟨k0, k1, k2, k3, k4, k5, k6⟩ | ⟨k0, k1, k3, k4, k5, k6⟩ | ⟨k0, k1, k2, k3, k4, k5⟩ | ⟨k0, k1, k2, k3, k4, k5, k6, k7⟩ | ⟨k0, k2, k3, k4, k5, k6⟩ | ⟨k0, k1, k3, k4, k5, k6, k7, k8⟩ | ⟨k0, k1, k3, k4, k5, k6⟩
  · have em := tmk_w (self := noun) (it := -1) (noun := noun) k3 (by rw [if_neg (by decide)])
    have lm := tmk_lt k3 (hs.2 k0)
    rcases z with ⟨_, z⟩ | ⟨z, _⟩ | ⟨z, _⟩ | ⟨z, _⟩
    · rw [k4, ← ew, ← em] at z
      rw [← pf_6 (tr := tr) (T := rnF U h (whU noun w) (whU noun m)) (by omega) (by rw [c2]) (by rw [c6]) (by rw [c3])]
      have zz := z
      obtain ⟨T, z1, z2, z3⟩ := zz
      have G : FR [(940, 941, 0, 100000)] S W := by
        have c6 := ct.2.2.2.2.2.2.1
        rw [z3]; exact FR.wI z2.2 (by unfold mdf inR; simp; omega)
      exact ⟨rn_r a ⟨k5, k6⟩ lw lm (G.kep rfl) z, (fr_rnF (by have := ct.2.2.2.2.2.2.1; omega) (by omega)).up rfl⟩
    · omega
    · omega
    · exact absurd k1 z
  · omega
  · have hc := nq.2.2 k1 (by omega)
    rcases z with ⟨z, _⟩ | ⟨_, _, z⟩ | ⟨_, z, _⟩ | ⟨_, z, _⟩
    · omega
    · rw [z, ← ew, k2, f1]
      rw [← pf_0 (tr := tr) (T := saF U (whU noun w) h (if n ≠ 0 then 0 else 1)) (h := if n ≠ 0 then 0 else 1) (by omega) (by rw [c2]) (by rw [c1]; rcases f2 with e | e <;> rw [e] <;> decide) (by rw [c3])]
      rw [k2] at hc
      have aj := a.1.2.2.2.2.2.1 h.toNat (by omega)
      have fa : FR [(25, 65, 0, 100000)] U (saF U (whU noun w) h (if n ≠ 0 then 0 else 1)) := fr_stA (by omega) (by omega) (by omega)
      exact ⟨sa_r a lw ⟨k3, k4⟩ (by rcases f2 with e | e <;> rw [e] <;> decide) hc, fa.up rfl⟩
    · omega
    · exact absurd k1 z
  · have ty := a.1.2.2.2.2.1.2.1 h.toNat (by omega)
    rcases z with ⟨z, _⟩ | ⟨_, z, _⟩ | ⟨_, _, z⟩ | ⟨_, z, _⟩
    · omega
    · omega
    · rw [z, ← ew, show Xi S 973 q % 100 = h by omega, show Xi S 973 q / 100 - 1 = t by omega]
      rw [← pf_1 (tr := tr) (T := spF U (whU noun w) h t g) (by omega) (by rw [c2]) (by rw [c3, c4, c5])]
      have fp : FR [(66, 106, 0, 100000), (107, 147, 0, 100000), (148, 188, 0, 100000)] U (spF U (whU noun w) h t g) := fr_stP (by omega) (by have b5 := ct.2.2.2.2.2.1; omega)
      exact ⟨sp_r a lw ⟨k5.1, k5.2.1⟩ ⟨fun x => absurd (ty.1.trans x) k7, fun _ => rfl⟩ ⟨rt, rgg, rt, by unfold rg; omega⟩, fp.up rfl⟩
    · exact absurd k1 z
  · omega
  · have ty := a.1.2.2.2.2.1.2.1 h.toNat (by omega)
    rcases z with ⟨z, _⟩ | ⟨z, _, _⟩ | ⟨z, _, _⟩ | ⟨_, _, z⟩
    · omega
    · omega
    · omega
    · rw [z, ← ew, k3, k6, k8]
      rw [← pf_1 (tr := tr) (T := spF U (whU noun w) h t g) (by omega) (by rw [c2]) (by rw [c3, c4, c5])]
      have fp : FR [(66, 106, 0, 100000), (107, 147, 0, 100000), (148, 188, 0, 100000)] U (spF U (whU noun w) h t g) := fr_stP (by omega) (by have b5 := ct.2.2.2.2.2.1; omega)
      exact ⟨sp_r a lw k4 ⟨fun x => absurd (ty.1.trans x) k5, fun _ => rfl⟩ ⟨rt, rgg, rt, by unfold rg; omega⟩, fp.up rfl⟩
  · rcases z with ⟨z, _⟩ | ⟨z, _, _⟩ | ⟨z, _, _⟩ | ⟨_, _, z⟩
    · omega
    · omega
    · omega
    · have ty := a.1.2.2.2.2.1.2.1 h.toNat (by omega)
      rw [z, ← ew, k3]
      rw [← pf_1 (tr := tr) (T := spF U (whU noun w) h t g) (by omega) (by rw [c2]) (by rw [c3, c4, c5])]
      have fp : FR [(66, 106, 0, 100000), (107, 147, 0, 100000), (148, 188, 0, 100000)] U (spF U (whU noun w) h t g) := fr_stP (by omega) (by have b5 := ct.2.2.2.2.2.1; omega)
      exact ⟨sp_r a lw k4 ⟨fun _ => k6, fun x => absurd (ty.1.symm.trans k5) x⟩ ⟨rt, rgg, Xi_rg, Xi_rg⟩, fp.up rfl⟩
theorem mov_s {U S : sS} {q cl : Nat} {n w h t g m noun : Int} {tr : sS → Int → Int → sS} (a : RLB U S) (c : CLM U cl 8 n w h t g m) (f1 : TMK 53 (Xi U 5 2) w (Xi S 971 q)) (f2 : TMK 53 (Xi U 5 2) m (Xi S 975 q)) (hs : (w = -2 → 0 ≤ noun ∧ noun < Xi U 5 2) ∧ (m = -2 → 0 ≤ noun ∧ noun < Xi U 5 2)) : RLB (pfF tr U cl noun) (mvR S (thR (-1) noun (Xi S 971 q)) (thR (-1) noun (Xi S 975 q))) ∧ FR lCA U (pfF tr U cl noun) := by
  obtain ⟨c0, c1, c2, c3, c4, c5, c6⟩ := c
  rw [← tmk_w (self := noun) (it := -1) (noun := noun) f1 (by rw [if_neg (by decide)]), ← tmk_w (self := noun) (it := -1) (noun := noun) f2 (by rw [if_neg (by decide)])]
  rw [← pf_8 (tr := tr) (T := mvF U (whU noun w) (whU noun m)) (by omega) (by rw [c2]) (by rw [c6]) rfl]
  have b2 := a.1.2.2.1.2.2.1
  have l1 := tmk_lt f1 hs.1
  have fm : FR [(22, 24, 0, 100000)] U (mvF U (whU noun w) (whU noun m)) := by
    unfold mvF
    split
    · exact FR.rf
    · unfold plO; exact FR.wI (FR.wI FR.rf (by unfold mdf inR; simp; omega)) (by unfold mdf inR; simp; omega)
  exact ⟨mv_r a l1 (tmk_lt f2 hs.2), fm.up rfl⟩
theorem add_s {U S W : sS} {q cl : Nat} {n w h t g m noun : Int} {tr : sS → Int → Int → sS} (a : RLB U S) (c : CLM U cl 9 n w h t g m) (f1 : TMK 53 (Xi U 5 2) w (Xi S 971 q)) (f2 : Xi S 972 q = h) (hh : 0 ≤ h ∧ h < Xi U 5 5) (h9 : Xi U 9 h.toNat = 0) (hs : w = -2 → 0 ≤ noun ∧ noun < Xi U 5 2) (F : FR [(904, 905, 154, 155), (930, 931, 0, 100000), (931, 932, 0, 100000)] S W) (z : ADR S W (12 * thR (-1) noun (Xi S 971 q) + Xi S 972 q).toNat (clW (adW (nuR S (thR (-1) noun (Xi S 971 q)) (Xi S 972 q)) t))) : RLB (pfF tr U cl noun) W ∧ FR lCA U (pfF tr U cl noun) := by
  obtain ⟨c0, c1, c2, c3, c4, c5, c6⟩ := c
  rw [← tmk_w (self := noun) (it := -1) (noun := noun) f1 (by rw [if_neg (by decide)]), f2] at z
  rw [← pf_9 (tr := tr) (T := spF U (whU noun w) h (clW (adW (vof U (whU noun w) h.toNat) t)) 0) (by omega) (by rw [c2]) rfl rfl (by rw [c3, c4])]
  have b2 := a.1.2.2.1.2.2.1
  have b5 := a.1.2.2.1.2.2.2.2.2.1
  have l1 := tmk_lt f1 hs
  have fp : FR [(66, 106, 0, 100000), (107, 147, 0, 100000), (148, 188, 0, 100000)] U (spF U (whU noun w) h (clW (adW (vof U (whU noun w) h.toNat) t)) 0) := fr_stP (by omega) (by omega)
  exact ⟨ads_r a l1 hh h9 F z, fp.up rfl⟩
/-! whether a rule applies, in both -/
theorem alT_a {f : Nat → Int} : ∀ (n m i : Nat), alT f (n + m) i = if alT f n i = 0 then 0 else alT f m (i + n)
  | 0, m, i => by rw [Nat.zero_add]; show _ = if (1 : Int) = 0 then 0 else _; rw [if_neg (by decide)]; rfl
  | n + 1, m, i => by
    rw [show n + 1 + m = (n + m) + 1 by omega]
    show (if f i = 0 then 0 else alT f (n + m) (i + 1)) = if (if f i = 0 then 0 else alT f n (i + 1)) = 0 then 0 else _
    by_cases q : f i = 0
    · rw [if_pos q, if_pos q, if_pos rfl]
    · rw [if_neg q, if_neg q, alT_a n m (i + 1), show i + 1 + n = i + (n + 1) by omega]
theorem alT_b {f g : Nat → Int} {c d : Nat} : ∀ (n i : Nat), (∀ k : Nat, i ≤ k → k < i + n → (f (c + k) = 0 ∧ g (d + k) = 0) ∨ (f (c + k) = 1 ∧ g (d + k) = 1)) → alT f n (c + i) = alT g n (d + i)
  | 0, _, _ => rfl
  | n + 1, i, h => by
    have t := alT_b n (i + 1) (fun k a b => h k (by omega) (by omega))
    rw [show c + (i + 1) = c + i + 1 by omega, show d + (i + 1) = d + i + 1 by omega] at t
    show (if f (c + i) = 0 then 0 else _) = (if g (d + i) = 0 then 0 else _)
    rcases h i (Nat.le_refl i) (by omega) with ⟨x, y⟩ | ⟨x, y⟩
    · rw [if_pos x, if_pos y]
    · rw [if_neg (by rw [x]; decide), if_neg (by rw [y]; decide)]; exact t
theorem whU_n {a b w : Int} (h : w ≠ -2) : whU a w = whU b w := by unfold whU; rw [if_neg h, if_neg h]
theorem hoC_n {ah : Int → Int → Int} {U : sS} {cl : Nat} {a b : Int} (h1 : Xi U (276 + cl) 2 ≠ -2) (h2 : (Xi U (276 + cl) 0 < 0 ∨ 5 ≤ Xi U (276 + cl) 0) → Xi U (276 + cl) 6 ≠ -2) : hoC ah U cl a = hoC ah U cl b := by
  unfold hoC tvC
  rw [whU_n (a := a) (b := b) h1]
  by_cases q : Xi U (276 + cl) 0 < 0 ∨ 5 ≤ Xi U (276 + cl) 0
  · rw [whU_n (a := a) (b := b) (h2 q)]
  · by_cases k0 : Xi U (276 + cl) 0 = 0
    · rw [if_pos k0, if_pos k0]
    · by_cases k1 : Xi U (276 + cl) 0 = 1
      · rw [if_neg k0, if_pos k1, if_neg k0, if_pos k1]
      · by_cases k2 : Xi U (276 + cl) 0 = 2
        · rw [if_neg k0, if_neg k1, if_pos k2, if_neg k0, if_neg k1, if_pos k2]
        · by_cases k3 : Xi U (276 + cl) 0 = 3
          · rw [if_neg k0, if_neg k1, if_neg k2, if_pos k3, if_neg k0, if_neg k1, if_neg k2, if_pos k3]
          · have k4 : Xi U (276 + cl) 0 = 4 := by omega
            rw [if_neg k0, if_neg k1, if_neg k2, if_neg k3, if_pos k4, if_neg k0, if_neg k1, if_neg k2, if_neg k3, if_pos k4]
/-- an ADJECTIVE ahead of a rule's kind -/
theorem adh_s {U S : sS} {cl : Nat} {x o : Int} (a : RLB U S) (h40 : ∀ j : Nat, 0 ≤ Xi S 940 j ∧ Xi S 940 j ≤ 1) (h : ADH U U cl x) (ho : 0 ≤ o ∧ o < Xi U 5 2) : (hoC (ahC U 8) U cl o = 0 ∧ hoR S 8 o x = 0) ∨ (hoC (ahC U 8) U cl o = 1 ∧ hoR S 8 o x = 1) := by
  obtain ⟨t, p, ⟨c0, c1, c2, c3, c4, c5, c6⟩, cd, h1, h2⟩ := h
  have w : whU o (Xi U (276 + cl) 2) = o := by rw [c2]; rfl
  rcases cd with ⟨p1, e, t0, t1⟩ | ⟨p1, e, t0, t1⟩
  · rw [if_pos p1] at c0 c3
    have v : ahC U 8 o t = tvC (ahC U 8) U cl o := tv_0 c0 w (by rw [c3])
    have k := ahq_r a h40 8 o t ho.1 ho.2 t0 (h1 p1)
    unfold hoC
    rw [← v, c1, e]
    rcases k with ⟨k1, k2⟩ | ⟨k1, k2⟩
    · rw [k1, k2]; exact Or.inl ⟨rfl, rfl⟩
    · rw [k1, k2]; exact Or.inr ⟨rfl, rfl⟩
  · rw [if_neg (by omega)] at c0 c3
    obtain ⟨g1, g2, g3⟩ := h2 (by omega)
    have ty := a.1.2.2.2.2.1.2.1 p.toNat (by omega)
    have nr := (num_r a.1 ho ⟨p1.1, g1⟩).1.2 (fun q => g3 (ty.1.trans q))
    by_cases y : vof U o p.toNat = t
    · have v : (1 : Int) = tvC (ahC U 8) U cl o := tv_1 c0 w rfl ⟨fun _ => rfl, fun q => absurd (by rw [c3, c4]; exact y) q⟩
      have u : (1 : Int) = hoR S 8 o x := hoR_1 (by omega) rfl ⟨fun _ => rfl, fun q => absurd (by rw [e, show (100 + 100 * t + p) % 100 = p by omega, ← nr, y]; omega) q⟩
      unfold hoC
      rw [← v, c1, ← u]; exact Or.inr ⟨rfl, rfl⟩
    · have v : (0 : Int) = tvC (ahC U 8) U cl o := tv_1 c0 w rfl ⟨fun q => absurd (by rw [c3, c4] at q; exact q) y, fun _ => rfl⟩
      have u : (0 : Int) = hoR S 8 o x := hoR_1 (by omega) rfl ⟨fun q => absurd (by rw [e, show (100 + 100 * t + p) % 100 = p by omega, ← nr] at q; omega) y, fun _ => rfl⟩
      unfold hoC
      rw [← v, c1, ← u]; exact Or.inl ⟨rfl, rfl⟩
/-- noun of the class, noun of the reference, for an action -/
def NNR (U : sS) (a no o : Int) : Prop := (o = no ∧ 0 ≤ o ∧ o < Xi U 5 2) ∨ (o = -1 ∧ (a < 0 ∨ Xi U 19 a.toNat < 0))
theorem nnr_n {U S : sS} {r : Nat} {a no o : Int} (ac : RVA U S) (a8 : a < Xi U 5 8) (e : Xi S 979 r = a) (hn : NNR U a no o) (h : nM S r) : o = no ∧ 0 ≤ o ∧ o < Xi U 5 2 := by
  rcases hn with x | ⟨_, x⟩
  · exact x
  · exfalso
    unfold nM at h
    rw [e] at h
    have := ac.2 a.toNat (by omega)
    omega
theorem nnr_w {S : sS} {sk n w t : Int} {c : Prop} (h : TMK sk n w t) (k : thK S False c t) (s : sk ≠ 54) (hw : w = -2) : c := by
  rcases h with ⟨_, y⟩ | ⟨x, _⟩
  · rw [if_neg s] at y
    rcases k with k | ⟨_, k⟩ | ⟨_, k⟩
    · omega
    · exact k.elim
    · exact k
  · omega
/-- one test of a rule, in both -/
theorem rtest_s {U S : sS} {r q cl : Nat} {a no o : Int} (hA : RLB U S) (h40 : ∀ j : Nat, 0 ≤ Xi S 940 j ∧ Xi S 940 j ≤ 1) (a8 : a < Xi U 5 8) (e : Xi S 979 r = a) (hn : NNR U a no o) (tq : TQ S False (nM S r) q) (pl : Xi S 969 q = 4 → Xi S 975 q = -2 → nM S r) (h : TQR U S cl q 53) : (hoC (ahC U 8) U cl no = 0 ∧ teR (hoR S 8) S q (-1) o = 0) ∨ (hoC (ahC U 8) U cl no = 1 ∧ teR (hoR S 8) S q (-1) o = 1) := by
  obtain ⟨fm, n, w, h, t, g, m, c, f⟩ := h
  have ac := hA.1.2.2.2.2.2.2.2.2.1
  have hs : (w = -2 → o = no ∧ 0 ≤ o ∧ o < Xi U 5 2) := fun q => nnr_n ac a8 e hn (nnr_w f.2.1 tq.1 (by decide) q)
  have key : (w = -2 → 0 ≤ o ∧ o < Xi U 5 2) → (fm = 6 → m = -2 → 0 ≤ o ∧ o < Xi U 5 2) → (hoC (ahC U 8) U cl o = 0 ∧ teR (hoR S 8) S q (-1) o = 0) ∨ (hoC (ahC U 8) U cl o = 1 ∧ teR (hoR S 8) S q (-1) o = 1) := fun e2 e3 => tes_r (ah := ahC U 8) (ho := hoR S 8) (it := -1) (noun := o) hA.1 c f (by rw [if_neg (by decide)]) ⟨e2, e3⟩ (fun o2 a2 x1 x2 x3 x4 => ahq_r hA h40 8 o2 a2 x1 x2 x3 x4) (fun o a ha => by unfold hoR; rw [if_pos ha]) h40
  by_cases eq : o = no ∧ 0 ≤ o ∧ o < Xi U 5 2
  · rw [← eq.1]
    exact key (fun _ => eq.2) (fun _ _ => eq.2)
  · have w2 : w ≠ -2 := fun q => eq (hs q)
    have m6 : fm = 5 ∨ fm = 6 → m ≠ -2 := fun q x => by
      obtain ⟨_, f3, f4⟩ := f
      rcases f4 with ⟨k0, k1, k2, k3, _⟩ | ⟨k0, k1, k3, _⟩ | ⟨k0, _⟩ | ⟨k0, _⟩ | ⟨k0, _⟩ | ⟨k0, _⟩ | ⟨k0, _⟩
      · exact eq (nnr_n ac a8 e hn (nnr_w k3 (tq.2.1 k1).1 (by decide) x))
      · refine eq (nnr_n ac a8 e hn (pl k1 ?_))
        rcases k3 with ⟨_, y⟩ | ⟨y, _⟩
        · rw [if_neg (by decide)] at y; exact y
        · omega
      all_goals omega
    have c0 := c.1
    have c2 := c.2.2.1
    have c6 := c.2.2.2.2.2.2
    have f5 : 5 ≤ fm ∨ fm < 0 → fm = 5 ∨ fm = 6 := fun q => by
      rcases f.2.2 with ⟨k0, _⟩ | ⟨k0, _⟩ | ⟨k0, _⟩ | ⟨k0, _⟩ | ⟨k0, _⟩ | ⟨k0, _⟩ | ⟨k0, _⟩ <;> omega
    rw [hoC_n (a := no) (b := o) (by rw [c2]; exact w2) (by rw [c0, c6]; intro q; exact m6 (f5 (by omega)))]
    exact key (fun q => absurd q w2) (fun q x => absurd x (m6 (Or.inr q)))
/-- whether a rule applies, in both -/
def PLM (S : sS) : Prop := ∀ r : Nat, (r : Int) < Xi S 904 130 → ∀ k : Nat, (k : Int) < Xi S 985 r → Xi S 969 ((Xi S 984 r).toNat + k) = 4 → Xi S 975 ((Xi S 984 r).toNat + k) = -2 → nM S r
theorem ap_t {U S : sS} {r : Nat} {aa no o : Int} (hA : RLB U S) (h40 : ∀ j : Nat, 0 ≤ Xi S 940 j ∧ Xi S 940 j ≤ 1) (hR : RULM S) (pl : PLM S) (hr : (r : Int) < Xi U 246 2) (h8 : aa < Xi U 5 8) (e : Xi S 979 r = aa) (hn : NNR U aa no o) : alT (fun i => hoC (ahC U 8) U ((Xi U (248 + r) 7).toNat + i) no) (Xi S 985 r).toNat (Xi U (248 + r) 4).toNat = alT (fun i => teR (hoR S 8) S ((Xi S 984 r).toNat + i) (-1) o) (Xi S 985 r).toNat 0 := by
  have e24 := hA.2.2.2.1.2.2.2.1
  obtain ⟨u0, u1, u5, u6, u7, u8, u9, ut, up⟩ := hA.2.2.2.2.2 r hr
  have rm := hR r (by omega)
  have t := alT_b (f := fun i => hoC (ahC U 8) U ((Xi U (248 + r) 7).toNat + i) no) (g := fun i => teR (hoR S 8) S ((Xi S 984 r).toNat + i) (-1) o) (c := (Xi U (248 + r) 4).toNat) (d := 0) (Xi S 985 r).toNat 0 (fun k _ k1 => by
    have x := ut k (by omega)
    have y := rm.2.2.2.1 k (by omega)
    have z := rtest_s hA h40 h8 e hn y (pl r (by omega) k (by omega)) x
    rw [show (Xi U (248 + r) 7 + Xi U (248 + r) 4).toNat + k = (Xi U (248 + r) 7).toNat + ((Xi U (248 + r) 4).toNat + k) by omega] at z
    rw [show 0 + k = k by omega]
    exact z)
  rw [Nat.add_zero] at t
  exact t
theorem ap_d {U S : sS} {r : Nat} {a no o : Int} (hA : RLB U S) (h40 : ∀ j : Nat, 0 ≤ Xi S 940 j ∧ Xi S 940 j ≤ 1) (hR : RULM S) (hr : (r : Int) < Xi U 246 2) (h8 : a < Xi U 5 8) (e : Xi S 979 r = a) (hn : NNR U a no o) (ad : ∀ i : Nat, (i : Int) < Xi S 982 r → ADH U U ((Xi U (248 + r) 7).toNat + i) (Xi S 983 (6 * r + i))) : alT (fun i => hoC (ahC U 8) U ((Xi U (248 + r) 7).toNat + i) no) (Xi S 982 r).toNat 0 = alT (fun i => hoR S 8 o (Xi S 983 (6 * r + i))) (Xi S 982 r).toNat 0 := by
  have e24 := hA.2.2.2.1.2.2.2.1
  have rm := hR r (by omega)
  have ac := hA.1.2.2.2.2.2.2.2.2.1
  have t := alT_b (f := fun i => hoC (ahC U 8) U ((Xi U (248 + r) 7).toNat + i) no) (g := fun i => hoR S 8 o (Xi S 983 (6 * r + i))) (c := 0) (d := 0) (Xi S 982 r).toNat 0 (fun k _ k1 => by
    have x := ad k (by omega)
    have y := rm.2.2.1 k (by omega)
    obtain ⟨z1, z2, z3⟩ := nnr_n ac h8 e hn y.1
    rw [show 0 + k = k by omega, ← z1]
    exact adh_s hA h40 x ⟨z2, z3⟩)
  rw [Nat.add_zero] at t
  exact t
theorem ap_h {U S : sS} {a no o aa oo kk : Int} (hA : RLB U S) (hn : NNR U a no o) (q5 : oo ≠ -1 ∨ kk ≠ -1 → 0 ≤ Xi U 19 aa.toNat) (h0 : 0 ≤ a) : (aa ≠ a ∨ (oo ≠ -1 ∧ oo ≠ no) ∨ (kk ≠ -1 ∧ isK U (Xi U 21 no.toNat) kk = 0)) ↔ (aa ≠ a ∨ (oo ≠ -1 ∧ oo ≠ o) ∨ (kk ≠ -1 ∧ blR S (Xi S 918 o.toNat) kk = 0)) := by
  by_cases ea : aa = a
  · by_cases nn2 : oo = -1 ∧ kk = -1
    · constructor <;> intro x <;> omega
    · have k0 := q5 (by omega)
      rcases hn with ⟨h1, h2, h3⟩ | ⟨_, h1⟩
      · subst h1
        have k1 := hA.1.2.2.2.2.2.2.2.2.2.1.1.2 o.toNat (by omega)
        have k2 : isK U (Xi U 21 o.toNat) kk = blR S (Xi S 918 o.toNat) kk := by rw [k1.1]; exact isK_bl hA.1.2.2.2.1 k1.2.2
        rw [k2]
      · rw [ea] at k0; omega
  · exact ⟨fun _ => Or.inl ea, fun _ => Or.inl ea⟩
theorem ap_3 {U S : sS} {r : Nat} {b : Int} (hA : RLB U S) (h40 : ∀ j : Nat, 0 ≤ Xi S 940 j ∧ Xi S 940 j ≤ 1) (hR : RULM S) (pl : PLM S) (hr : (r : Int) < Xi U 246 2) (h3 : Xi S 978 r = 3) : apC U r (-1) (-1) = apR S r b (-1) := by
  obtain ⟨u0, u1, u5, u6, u7, _⟩ := hA.2.2.2.2.2 r hr
  have c8 := hA.1.2.2.1.2.2.2.2.2.2.2.2
  have er : ((r : Nat) : Int).toNat = r := by omega
  rcases u1 with ⟨s3, ⟨v1, v2, v3, v4⟩, w1, w2, w3, w4⟩ | ⟨s3, _⟩
  · have t := ap_t (no := -1) (o := -1) hA h40 hR pl hr (by omega) w1 (Or.inr ⟨rfl, Or.inl (by decide)⟩)
    unfold apC apR
    rw [er, if_neg (show ¬ (Xi U (248 + r) 1 ≠ -1 ∨ (Xi U (248 + r) 2 ≠ -1 ∧ Xi U (248 + r) 2 ≠ -1) ∨ (Xi U (248 + r) 3 ≠ -1 ∧ isK U (Xi U 21 (-1 : Int).toNat) (Xi U (248 + r) 3) = 0)) by omega), if_neg (show ¬ (Xi S 978 r < 3 ∧ apG S r b (-1) = 0) by omega)]
    rw [show (Xi U (248 + r) 4 + Xi U (248 + r) 5 - 0).toNat = (Xi S 985 r).toNat by omega, show (Xi S 985 r - 0).toNat = (Xi S 985 r).toNat by omega]
    rw [show (Xi U (248 + r) 4).toNat = 0 by omega] at t
    exact t
  · exact absurd (u0.1.trans h3) s3
theorem ap_r {U S : sS} {r : Nat} {a no o : Int} (hA : RLB U S) (h40 : ∀ j : Nat, 0 ≤ Xi S 940 j ∧ Xi S 940 j ≤ 1) (hR : RULM S) (pl : PLM S) (hr : (r : Int) < Xi U 246 2) (h3 : Xi S 978 r ≠ 3) (a0 : 0 ≤ a) (a8 : a < Xi U 5 8) (hn : NNR U a no o) : apC U r a no = apR S r a o := by
  obtain ⟨u0, u1, u5, u6, u7, _⟩ := hA.2.2.2.2.2 r hr
  have er : ((r : Nat) : Int).toNat = r := by omega
  rcases u1 with ⟨s3, _⟩ | ⟨s3, aa, oo, kk, nn, ⟨v1, v2, v3, v4⟩, ⟨w1, w2, w3, w4⟩, ⟨q1, q2, q3, q4⟩, ⟨q5, q6, q7⟩, ad⟩
  · exact absurd (u0.1.symm.trans s3) h3
  · have eG := ap_h (S := S) hA hn q5 a0
    have l3 : Xi S 978 r < 3 := by omega
    have es : (Xi U (248 + r) 4 + Xi U (248 + r) 5 - 0).toNat = (Xi S 982 r).toNat + (Xi S 985 r).toNat := by omega
    have e4 : (Xi U (248 + r) 4).toNat = (Xi S 982 r).toNat := by omega
    rw [← v1, ← v2, ← v3] at eG
    by_cases hd : Xi U (248 + r) 1 ≠ a ∨ (Xi U (248 + r) 2 ≠ -1 ∧ Xi U (248 + r) 2 ≠ no) ∨ (Xi U (248 + r) 3 ≠ -1 ∧ isK U (Xi U 21 no.toNat) (Xi U (248 + r) 3) = 0)
    · have hd2 := eG.1 hd
      rw [v1, v2, v3, ← w1, ← w2, ← w3] at hd2
      have g0 : apG S r a o = 0 := apg_0 (by rw [er]; exact hd2)
      unfold apC apR
      rw [er, if_pos hd, if_pos ⟨l3, g0⟩]
    · have hd2 := fun x => hd (eG.2 x)
      rw [v1, v2, v3, ← w1, ← w2, ← w3] at hd2
      have e9 : Xi S 979 r = a := Decidable.byContradiction (fun x => hd2 (Or.inl x))
      have g1 : apG S r a o = alT (fun i => hoR S 8 o (Xi S 983 (6 * r + i))) (Xi S 982 r).toNat 0 := by
        unfold apG
        rw [er, if_neg hd2, show (Xi S 982 r - 0).toNat = (Xi S 982 r).toNat by omega]
      have t1 := ap_t hA h40 hR pl hr a8 e9 hn
      have t2 := ap_d hA h40 hR hr a8 e9 hn (fun i hi => ad i (by omega))
      rw [e4] at t1
      unfold apC apR
      rw [er, if_neg hd, es, alT_a, Nat.zero_add, t2, ← g1, t1, show (Xi S 985 r - 0).toNat = (Xi S 985 r).toNat by omega]
      by_cases z : apG S r a o = 0
      · rw [if_pos z, if_pos ⟨l3, z⟩]
      · rw [if_neg z, if_neg (fun x => z x.2)]
end
section
/-! NAMES: letters of the reference's words -/
theorem sr_k {x : Int} (h0 : 0 ≤ x) (h1 : x < 9223372036854775808) (s : Nat) (A : Int64) (e : A.toBitVec = (BitVec.ofInt 64 x).sshiftRight s) : A.toInt = x / 2 ^ s := by
  have t : A.toInt = A.toBitVec.toInt := rfl
  rw [t, e, BitVec.toInt_sshiftRight, BitVec.toInt_ofInt, Int.bmod_eq_of_le (by omega) (by omega), Int.shiftRight_eq_div_pow]
  rfl
theorem sr5 {x v : Int} (h0 : 0 ≤ x) (h1 : x < 9223372036854775808) (hv : 0 ≤ v ∧ v ≤ 12) : lshrF x (5 * v) = x / 32 ^ v.toNat := by
  unfold lshrF
  have c : v = 0 ∨ v = 1 ∨ v = 2 ∨ v = 3 ∨ v = 4 ∨ v = 5 ∨ v = 6 ∨ v = 7 ∨ v = 8 ∨ v = 9 ∨ v = 10 ∨ v = 11 ∨ v = 12 := by omega
  rcases c with e | e | e | e | e | e | e | e | e | e | e | e | e <;> subst e
  · exact sr_k h0 h1 0 _ rfl
  · exact sr_k h0 h1 5 _ rfl
  · exact sr_k h0 h1 10 _ rfl
  · exact sr_k h0 h1 15 _ rfl
  · exact sr_k h0 h1 20 _ rfl
  · exact sr_k h0 h1 25 _ rfl
  · exact sr_k h0 h1 30 _ rfl
  · exact sr_k h0 h1 35 _ rfl
  · exact sr_k h0 h1 40 _ rfl
  · exact sr_k h0 h1 45 _ rfl
  · exact sr_k h0 h1 50 _ rfl
  · exact sr_k h0 h1 55 _ rfl
  · exact sr_k h0 h1 60 _ rfl
theorem la31 {x : Int} (h0 : 0 ≤ x) (h1 : x < 9223372036854775808) : landF x 31 = x % 32 := by
  unfold landF
  have t : (Int64.ofInt x &&& Int64.ofInt 31).toInt = ((BitVec.ofInt 64 x) &&& (31#64)).toInt := rfl
  obtain ⟨n, rfl⟩ := Int.eq_ofNat_of_zero_le h0
  rw [t, BitVec.toInt_eq_toNat_of_lt (by
    rw [BitVec.toNat_and]
    exact Nat.lt_of_le_of_lt (Nat.mul_le_mul_left 2 (Nat.and_le_right)) (by decide)), BitVec.toNat_and, BitVec.toNat_ofInt]
  show (((((n : Int) % 2 ^ 64).toNat &&& (31#64).toNat : Nat)) : Int) = _
  rw [show (31#64).toNat = 2 ^ 5 - 1 from rfl, Nat.and_two_pow_sub_one_eq_mod]
  omega
/-- how many letters a word of the reference has; its letters -/
def l5F : Nat → Int → Int
  | 0, _ => 0
  | f + 1, w => if w < 32 then 1 else 1 + l5F f (w / 32)
def l5 (w : Int) : Int := l5F 12 w
def lR (w k : Int) : Int := if k < l5 w then 96 + w / 32 ^ (l5 w - 1 - k).toNat % 32 else -1
def DG5 (w : Int) (n : Int) : Prop := (1 ≤ n ∧ n ≤ 12) ∧ 32 ^ (n - 1).toNat ≤ w ∧ w < 32 ^ n.toNat
def SH5 (w v : Int) : Prop := 0 < v → w / 32 ^ (v - 1).toNat ≠ 0
theorem p32_p (k : Nat) : (0 : Int) < 32 ^ k := Int.pow_pos (by decide)
theorem p32_m {a : Nat} : ∀ d : Nat, (32 : Int) ^ a ≤ 32 ^ (a + d)
  | 0 => Int.le_refl _
  | d + 1 => by
    have t := p32_m (a := a) d
    have p := p32_p (a + d)
    rw [show a + (d + 1) = a + d + 1 by omega, Int.pow_succ]
    omega
theorem p32_l {a b : Nat} (h : a ≤ b) : (32 : Int) ^ a ≤ 32 ^ b := by
  have t := p32_m (a := a) (b - a)
  rw [show a + (b - a) = b by omega] at t
  exact t
theorem l5F_d : ∀ (f : Nat) (w : Int), 0 < w → w < 32 ^ f → 1 ≤ l5F f w ∧ l5F f w ≤ f ∧ 32 ^ (l5F f w - 1).toNat ≤ w ∧ w < 32 ^ (l5F f w).toNat
  | 0, w, h0, h => by rw [Int.pow_zero] at h; omega
  | f + 1, w, h0, h => by
    unfold l5F
    by_cases q : w < 32
    · rw [if_pos q]
      refine ⟨by omega, by omega, ?_, ?_⟩
      · show (32 : Int) ^ 0 ≤ w; rw [Int.pow_zero]; omega
      · show w < (32 : Int) ^ 1; rw [Int.pow_succ, Int.pow_zero]; omega
    · rw [if_neg q]
      rw [Int.pow_succ] at h
      obtain ⟨a, b, c, d⟩ := l5F_d f (w / 32) (by omega) (by omega)
      refine ⟨by omega, by omega, ?_, ?_⟩
      · rw [show (1 + l5F f (w / 32) - 1).toNat = (l5F f (w / 32) - 1).toNat + 1 by omega, Int.pow_succ]; omega
      · rw [show (1 + l5F f (w / 32)).toNat = (l5F f (w / 32)).toNat + 1 by omega, Int.pow_succ]; omega
theorem l5_d {w : Int} (h0 : 0 < w) (h : w < 1152921504606846976) : DG5 w (l5 w) := by
  obtain ⟨a, b, c, d⟩ := l5F_d 12 w h0 (by rw [show (32 : Int) ^ 12 = 1152921504606846976 by decide]; exact h)
  exact ⟨⟨a, b⟩, c, d⟩
theorem sh5_u {w n v : Int} (h : DG5 w n) (s : SH5 w v) (h0 : 0 ≤ v) (q : v = 12 ∨ (v ≤ 12 ∧ w / 32 ^ v.toNat = 0)) : v = n := by
  obtain ⟨h1, h2, h3⟩ := h
  have w0 : 0 ≤ w := by have := p32_p (n - 1).toNat; omega
  by_cases a : n < v
  · exfalso
    have t := s (by omega)
    apply t
    exact Int.ediv_eq_zero_of_lt w0 (Int.lt_of_lt_of_le h3 (p32_l (by omega)))
  · by_cases b : v < n
    · exfalso
      rcases q with q | ⟨_, q⟩
      · omega
      · have u : (1 : Int) ≤ w / 32 ^ v.toNat := by
          rw [Int.le_ediv_iff_mul_le (p32_p _), Int.one_mul]
          exact Int.le_trans (p32_l (by omega)) h2
        omega
    · omega
theorem lR_y {w v k z : Int} (hv : v = l5 w) (hk : k < v) (hz : z = 96 + w / 32 ^ (v - 1 - k).toNat % 32) : z = lR w k := by unfold lR; rw [← hv, if_pos hk, hz]
theorem lR_n {w v k : Int} (hv : v = l5 w) (hk : v ≤ k) : -1 = lR w k := by unfold lR; rw [← hv, if_neg (by omega)]
theorem lR_p {w k : Int} : (k < l5 w → 96 ≤ lR w k ∧ lR w k ≤ 127) ∧ (l5 w ≤ k → lR w k = -1) := by
  unfold lR
  refine ⟨fun q => ?_, fun q => ?_⟩
  · rw [if_pos q]; omega
  · rw [if_neg (by omega)]
/-- bytes of a name of m words -/
def nbW (len : Nat → Int) (ch : Nat → Int → Int) : Nat → Nat → Int → Int
  | 0, _, _ => -1
  | m + 1, j, l => if l < len j then ch j l else if l - len j = 0 then (if m = 0 then -1 else 32) else nbW len ch m (j + 1) (l - len j - 1)
def lnR (S : sS) (lex : Int) (j : Nat) : Int := l5 (Xj S 913 (3 * lex.toNat + j))
def chlR (S : sS) (lex : Int) (j : Nat) (l : Int) : Int := lR (Xj S 913 (3 * lex.toNat + j)) l
def byR (S : sS) (lex k : Int) : Int := nbW (lnR S lex) (chlR S lex) (Xi S 912 lex.toNat - 0).toNat (0 : Int).toNat k
theorem nbw_e {len : Nat → Int} {ch : Nat → Int → Int} {n v l : Int} {j : Nat} (h : n ≤ v) : nbW len ch (n - v).toNat j l = -1 := by rw [show (n - v).toNat = 0 by omega]; rfl
theorem nbw_1 {len : Nat → Int} {ch : Nat → Int → Int} {n v l z : Int} (hv : 0 ≤ v ∧ v < n) (h : l < len v.toNat) (hz : z = ch v.toNat l) : nbW len ch (n - v).toNat v.toNat l = z := by
  rw [show (n - v).toNat = (n - (v + 1)).toNat + 1 by omega]; unfold nbW; rw [if_pos h, hz]
theorem nbw_2 {len : Nat → Int} {ch : Nat → Int → Int} {n v l : Int} (hv : 0 ≤ v ∧ v + 1 < n) (h : l = len v.toNat) : nbW len ch (n - v).toNat v.toNat l = 32 := by
  rw [show (n - v).toNat = (n - (v + 1)).toNat + 1 by omega]; unfold nbW; rw [if_neg (by omega), if_pos (by omega), if_neg (by omega)]
theorem nbw_3 {len : Nat → Int} {ch : Nat → Int → Int} {n v l : Int} (hv : 0 ≤ v ∧ v + 1 = n) (h : l = len v.toNat) : nbW len ch (n - v).toNat v.toNat l = -1 := by
  rw [show (n - v).toNat = (n - (v + 1)).toNat + 1 by omega]; unfold nbW; rw [if_neg (by omega), if_pos (by omega), if_pos (by omega)]
theorem nbw_4 {len : Nat → Int} {ch : Nat → Int → Int} {n v l m : Int} (hv : 0 ≤ v ∧ v < n) (h : len v.toNat < l) (hm : m = l - len v.toNat - 1) : nbW len ch (n - v).toNat v.toNat l = nbW len ch (n - (v + 1)).toNat (v + 1).toNat m := by
  rw [show (n - v).toNat = (n - (v + 1)).toNat + 1 by omega, show (v + 1).toNat = v.toNat + 1 by omega]
  conv => lhs; unfold nbW
  rw [if_neg (by omega), if_neg (by omega), hm]
/-- the bytes of a name as a list -/
def bnL (g : Nat → Int) : Nat → Nat → List Int
  | 0, _ => []
  | f + 1, k => if g k = -1 then [] else g k :: bnL g f (k + 1)
theorem bnl_e {g : Nat → Int} {v : Int} (hv : 0 ≤ v) (h : g v.toNat = -1) : bnL g (42 - v).toNat v.toNat = [] := by
  cases (42 - v).toNat with
  | zero => rfl
  | succ f => unfold bnL; rw [if_pos h]
theorem bnl_s {g : Nat → Int} {v b : Int} (hv : 0 ≤ v ∧ v < 42) (hb : b = g v.toNat) (h : b ≠ -1) : bnL g (42 - v).toNat v.toNat = b :: bnL g (42 - (v + 1)).toNat (v + 1).toNat := by
  rw [show (42 - v).toNat = (42 - (v + 1)).toNat + 1 by omega, show (v + 1).toNat = v.toNat + 1 by omega]
  conv => lhs; unfold bnL
  rw [← hb, if_neg h]
def PLXR (S T : sS) (lex v : Int) : Prop := ∃ L : List Int, OUP 993 904 156 S T L ∧ L ++ bnL (fun k => byR S lex k) (42 - v).toNat v.toNat = bnL (fun k => byR S lex k) 42 0

/-! NAMES, properties as the reference writes them -/
def WDX (S : sS) (lex : Int) : Prop := (∀ j : Nat, (j : Int) < Xi S 912 lex.toNat → 0 < Xj S 913 (3 * lex.toNat + j) ∧ Xj S 913 (3 * lex.toNat + j) < 1152921504606846976) ∧ Xi S 916 lex.toNat = 0
theorem wdx_f {S T : sS} {lex : Int} (a : ∀ j, Xi T 912 j = Xi S 912 j) (b : ∀ j, Xj T 913 j = Xj S 913 j) (c : ∀ j, Xi T 916 j = Xi S 916 j) (h : WDX S lex) : WDX T lex := by
  unfold WDX
  rw [a, c]
  exact ⟨fun j hj => by rw [b]; exact h.1 j hj, h.2⟩
theorem byR_f {S T : sS} {lex k : Int} (a : ∀ j, Xi T 912 j = Xi S 912 j) (b : ∀ j, Xj T 913 j = Xj S 913 j) : byR T lex k = byR S lex k := by
  have e1 : lnR T lex = lnR S lex := funext (fun j => by unfold lnR; rw [b])
  have e2 : chlR T lex = chlR S lex := funext (fun j => funext (fun l => by unfold chlR; rw [b]))
  unfold byR
  rw [a, e1, e2]
theorem plx_0 {S : sS} {lex : Int} (h : 0 ≤ Xi S 904 156 ∧ Xi S 904 156 ≤ 2000) : PLXR S S lex 0 := ⟨[], oup_0 h, rfl⟩
theorem plx_s {S T U : sS} {lex v b : Int} (h : PLXR S T lex v) (hO : 0 ≤ Xi S 904 156 ∧ Xi S 904 156 ≤ 2000) (hv : 0 ≤ v ∧ v < 42) (hb : b = byR S lex v) (hn : b ≠ -1) (o : OUP 993 904 156 T U [b]) : PLXR S U lex (v + 1) := by
  obtain ⟨L, a, e⟩ := h
  refine ⟨L ++ [b], oup_tr hO a o, ?_⟩
  rw [bnl_s hv (by show b = byR S lex ((v.toNat : Nat) : Int); rw [show ((v.toNat : Nat) : Int) = v by omega]; exact hb) hn] at e
  rw [List.append_assoc]; exact e
theorem plx_e {S T : sS} {lex v : Int} (h : PLXR S T lex v) (hv : 0 ≤ v) (hb : byR S lex v = -1) : OUP 993 904 156 S T (bnL (fun k => byR S lex k) 42 0) := by
  obtain ⟨L, a, e⟩ := h
  rw [bnl_e hv (by show byR S lex ((v.toNat : Nat) : Int) = -1; rw [show ((v.toNat : Nat) : Int) = v by omega]; exact hb), List.append_nil] at e
  rw [← e]; exact a
def NMWD (S : sS) : Prop := ∀ k : Nat, (k : Int) < Xi S 904 15 → (Xi S 914 k = 4 ∨ Xi S 914 k = 6) → WDX S k
/-- what is written of the name (so, ix) -/
def NMRL (S T : sS) (so ix : Int) : Prop := (∀ k : Nat, (k : Int) < Xi S 904 15 → Xi S 914 k = so → Xi S 915 k = ix → (∀ l : Nat, (l : Int) < Xi S 904 15 → Xi S 914 l = so → Xi S 915 l = ix → l = k) → OUP 993 904 156 S T (bnL (fun i => byR S k i) 42 0)) ∧ (¬ lxH S so ix → OUP 993 904 156 S T [])
theorem nmr_i {S T : sS} {so ix z : Int} (hz : -1 ≤ z) (n : z = -1 → ¬ lxH S so ix) (y : z ≠ -1 → z < Xi S 904 15 ∧ Xi S 914 z.toNat = so ∧ Xi S 915 z.toNat = ix) (o : z ≠ -1 → OUP 993 904 156 S T (bnL (fun i => byR S z i) 42 0)) (oe : z = -1 → OUP 993 904 156 S T []) : NMRL S T so ix := by
  refine ⟨fun k k1 k2 k3 u => ?_, fun nl => ?_⟩
  · by_cases q : z = -1
    · exact absurd ⟨k, k1, k2, k3⟩ (n q)
    · have e := u z.toNat (by have := y q; omega) (y q).2.1 (y q).2.2
      have o2 := o q
      rw [show z = (k : Int) by omega] at o2
      exact o2
  · by_cases q : z = -1
    · exact oe q
    · exact absurd ⟨z.toNat, by have := y q; omega, (y q).2.1, (y q).2.2⟩ nl
theorem nmr_f {S W T : sS} {so ix : Int} (h : NMRL W T so ix) (f : FR [(904, 905, 154, 155)] S W) : NMRL S T so ix := by
  have e15 : Xi W 904 15 = Xi S 904 15 := f.x 904 15 rfl
  have e4 : ∀ j, Xi W 914 j = Xi S 914 j := fun j => (f.cx 914 rfl j).1
  have e5 : ∀ j, Xi W 915 j = Xi S 915 j := fun j => (f.cx 915 rfl j).1
  refine ⟨fun k k1 k2 k3 u => ?_, fun nl => oup_rf f rfl rfl (h.2 (fun x => nl (by obtain ⟨k, x1, x2, x3⟩ := x; exact ⟨k, by rw [← e15]; exact x1, by rw [← e4]; exact x2, by rw [← e5]; exact x3⟩)))⟩
  have t := h.1 k (by rw [e15]; exact k1) (by rw [e4]; exact k2) (by rw [e5]; exact k3) (fun l a b c => u l (by rw [← e15]; exact a) (by rw [← e4]; exact b) (by rw [← e5]; exact c))
  have e : (fun i : Nat => byR W (k : Int) (i : Int)) = (fun i : Nat => byR S (k : Int) (i : Int)) := funext (fun i => byR_f (fun j => (f.cx 912 rfl j).1) (fun j => (f.cx 913 rfl j).2))
  rw [e] at t
  exact oup_rf f rfl rfl t
/-- what is written of a property -/
def PRLO (S T : sS) (o p : Int) : Prop := (Xi S 928 p.toNat = 0 → OUP 993 904 156 S T (nmL (nuR S o p))) ∧ (Xi S 928 p.toNat = 1 → OUP 993 904 156 S T (txL S 906 (nuR S o p) (nlR S o p).toNat)) ∧ (Xi S 928 p.toNat ≠ 0 → Xi S 928 p.toNat ≠ 1 → (nuR S o p = -1 → OUP 993 904 156 S T []) ∧ (nuR S o p ≠ -1 → NMRL S T 6 (nuR S o p)))
theorem nmw_f {S T : sS} (f : FR [(904, 905, 154, 155)] S T) (h : NMWD S) : NMWD T := fun k k1 k2 => by
  rw [f.x 904 15 rfl] at k1
  rw [(f.cx 914 rfl k).1] at k2
  exact wdx_f (fun j => (f.cx 912 rfl j).1) (fun j => (f.cx 913 rfl j).2) (fun j => (f.cx 916 rfl j).1) (h k k1 k2)

abbrev Q_mo_letterOf__q (S : sS) (w : Int) (k : Int) : pst := fun r S1 => S = S1 ∧ (∃ z : Int, r = some (iv z) ∧ (-2147483648 ≤ z ∧ z ≤ 2147483647) ∧ (z ≠ -1 → k < 12) ∧ (z = lR w k))
set_option maxRecDepth 100000 in
theorem t_mo_letterOf__q {S : sS} (hH : HI S) (w : Int) (k : Int) (hk : 0 ≤ k ∧ k ≤ 2147483647) (hw : 0 < w ∧ w < 1152921504606846976) (d : Nat) : Mt lay0 (d + 1) m_mo_letterOf [jw w, iv k] S (Q_mo_letterOf__q S w k) := by
  refine Mt_R rfl rfl ?_
  have C2 : ∀ (n2 : Nat) (v3 : Int), (0 ≤ v3 ∧ v3 ≤ 12) → (SH5 w v3) → n2 = (13 - v3).toNat → Rl lay0 (d + 0) m_mo_letterOf 2 [(0, jw w), (2, iv k), (3, iv v3)] [] S (Q_mo_letterOf__q S w k) := by
    intro n2
    induction n2 using Nat.strongRecOn with
    | ind n2 ih2 =>
      intro v3 w1 s2 hm2
      have C24 : ∀  (v3 : Int), (0 ≤ v3 ∧ v3 ≤ 12) → (SH5 w v3) → (v3 = 12 ∨ (v3 ≤ 12 ∧ w / 32 ^ v3.toNat = 0)) → Rl lay0 (d + 0) m_mo_letterOf 24 [(0, jw w), (2, iv k), (3, iv v3)] [] S (Q_mo_letterOf__q S w k) := by
        intro v3 w2 s24 e24
        refine l_iload_n rfl rfl ?_
        refine l_iload_n rfl rfl ?_
        refine l_icmp_ge rfl rfl (by unfold rg; omega) (by unfold rg; omega) (fun w3 => ?_) (fun w4 => ?_)
        · refine l_iconst rfl ?_
          refine l_ireturn rfl rfl ?_
          exact ⟨rfl, _, rfl, ⟨by omega, by omega⟩, (by first | assumption | omega), (by first | (have t := Z45; exact lR_y (sh5_u (l5_d hw.1 hw.2) s24 (by omega) e24) (by omega) Z45) | exact lR_n (sh5_u (l5_d hw.1 hw.2) s24 (by omega) e24) (by omega))⟩
        · refine l_lload_n rfl rfl ?_
          refine l_iconst rfl ?_
          refine l_iload_n rfl rfl ?_
          refine l_iconst rfl ?_
          refine l_isub rfl ?_
          refine l_iload_n rfl rfl ?_
          refine l_isub rfl ?_
          refine l_imul rfl ?_
          refine l_lshrF rfl ?_
          have w5 : rgL (lshrF w (5 * ((v3 - 1) - k))) := lshrF_rg
          refine l_ldc2 (z := 31) rfl rfl ?_
          refine l_landF rfl ?_
          have w6 : rgL (landF (lshrF w (5 * ((v3 - 1) - k))) 31) := landF_rg
          refine l_l2iE rfl (fun c7 w7 w7d => ?_)
          refine l_bipush rfl rfl ?_
          refine l_iaddE rfl (fun c8 w8 w8d => ?_)
          have a45 := sr5 (x := w) (v := v3 - 1 - k) (by omega) (by omega) (by omega)
          have b45 : 0 ≤ w / 32 ^ (v3 - 1 - k).toNat := Int.ediv_nonneg (by omega) (by have := p32_p (v3 - 1 - k).toNat; omega)
          have d45 : w / 32 ^ (v3 - 1 - k).toNat ≤ w := Int.ediv_le_self _ (by omega)
          have f45 := la31 (x := lshrF w (5 * (v3 - 1 - k))) (by omega) (by omega)
          have Z45 : c8 = 96 + w / 32 ^ (v3 - 1 - k).toNat % 32 := by omega
          refine l_goto rfl rfl ?_
          refine l_ireturn rfl rfl ?_
          exact ⟨rfl, _, rfl, ⟨by omega, by omega⟩, (by first | assumption | omega), (by first | (have t := Z45; exact lR_y (sh5_u (l5_d hw.1 hw.2) s24 (by omega) e24) (by omega) Z45) | exact lR_n (sh5_u (l5_d hw.1 hw.2) s24 (by omega) e24) (by omega))⟩
      refine l_iload_n rfl rfl ?_
      refine l_bipush rfl rfl ?_
      refine l_icmp_ge rfl rfl (by unfold rg; omega) (by unfold rg; omega) (fun w9 => ?_) (fun w10 => ?_)
      · exact Rl_weak (C24 (v3) (by omega) (s2) (by first | exact Or.inl (by omega) | exact Or.inr ⟨by omega, by rw [← sr5 (x := w) (v := v3) (by omega) (by omega) (by omega)]; omega⟩)) (And.intro rfl (And.intro rfl (And.intro rfl (True.intro))))
      · refine l_lload_n rfl rfl ?_
        refine l_iconst rfl ?_
        refine l_iload_n rfl rfl ?_
        refine l_imul rfl ?_
        refine l_lshrF rfl ?_
        have w11 : rgL (lshrF w (5 * v3)) := lshrF_rg
        refine l_lconst (z := 0) rfl rfl ?_
        refine l_lcmp rfl lshrF_rg (by unfold rgL; omega) (fun c12 w12 w12b w12c w12d => ?_)
        refine l_if_eq rfl rfl (by unfold rg; omega) (fun w13 => ?_) (fun w14 => ?_)
        · exact Rl_weak (C24 (v3) (by omega) (s2) (by first | exact Or.inl (by omega) | exact Or.inr ⟨by omega, by rw [← sr5 (x := w) (v := v3) (by omega) (by omega) (by omega)]; omega⟩)) (And.intro rfl (And.intro rfl (And.intro rfl (True.intro))))
        · refine l_iinc rfl rfl rfl rfl ?_
          have S18 : SH5 w (v3 + 1) := fun _ => by rw [show (v3 + 1 - 1).toNat = v3.toNat by omega, ← sr5 (x := w) (v := v3) (by omega) (by omega) (by omega)]; omega
          refine l_goto rfl rfl ?_
          exact Rl_weak (ih2 _ (by omega) ((v3 + 1)) (by omega) (by first | exact S18 | (intro q; exact absurd q (by omega))) rfl) (And.intro rfl (And.intro rfl (And.intro rfl (True.intro))))
  refine l_iconst rfl ?_
  refine l_istore_n rfl rfl rfl ?_
  exact Rl_weak (C2 _ (0) (by omega) (by first | exact S18 | (intro q; exact absurd q (by omega))) rfl) (And.intro rfl (And.intro rfl (And.intro rfl (True.intro))))
abbrev Q_mo_byteOf__q (S : sS) (lex : Int) (k : Int) : pst := fun r S1 => S = S1 ∧ (∃ z : Int, r = some (iv z) ∧ (-2147483648 ≤ z ∧ z ≤ 2147483647) ∧ (z ≠ -1 → k ≤ 40) ∧ (z = byR S lex k))
set_option maxRecDepth 100000 in
theorem t_mo_byteOf__q {S : sS} (hH : HI S) (lex : Int) (k : Int) (hlex : 0 ≤ lex ∧ lex ≤ 299) (hk : 0 ≤ k ∧ k ≤ 2147483647) (hwd : ∀ j : Nat, (j : Int) < Xi S 912 lex.toNat → 0 < Xj S 913 (3 * lex.toNat + j) ∧ Xj S 913 (3 * lex.toNat + j) < 1152921504606846976) (hlg : Xi S 916 lex.toNat = 0) (d : Nat) : Mt lay0 (d + 2) m_mo_byteOf [.ref 904, iv lex, iv k] S (Q_mo_byteOf__q S lex k) := by
  refine Mt_R rfl rfl ?_
  have hl5 : ∀ j : Nat, (j : Int) < Xi S 912 lex.toNat → 1 ≤ l5 (Xj S 913 (3 * lex.toNat + j)) := fun j hj => (l5_d (hwd j hj).1 (hwd j hj).2).1.1
  have C5 : ∀ (n5 : Nat) (v3 : Int) (v4 : Int), (0 ≤ v3 ∧ v3 ≤ 2147483647) → (0 ≤ v4 ∧ v4 ≤ 3) → (0 ≤ v3) → (k ≤ v3 + 13 * v4) → (byR S lex k = nbW (lnR S lex) (chlR S lex) (Xi S 912 lex.toNat - v4).toNat v4.toNat v3) → n5 = (4 - v4).toNat → Rl lay0 (d + 1) m_mo_byteOf 5 [(0, .ref 904), (1, iv lex), (3, iv v3), (4, iv v4)] [] S (Q_mo_byteOf__q S lex k) := by
    intro n5
    induction n5 using Nat.strongRecOn with
    | ind n5 ih5 =>
      intro v3 v4 w1 w2 w3 w4 f5 hm5
      have C19 : ∀ (n19 : Nat) (v3 : Int) (v4 : Int) (v5 : Int), (0 ≤ v3 ∧ v3 ≤ 2147483647) → (0 ≤ v4 ∧ v4 ≤ 2) → (0 ≤ v5 ∧ v5 ≤ 12) → (0 ≤ v3) → (k ≤ v3 + 13 * v4) → (v4 < 3) → (byR S lex k = nbW (lnR S lex) (chlR S lex) (Xi S 912 lex.toNat - v4).toNat v4.toNat v3) → (v4 < Xi S 912 lex.toNat) → (v5 ≤ l5 (Xj S 913 (3 * lex.toNat + v4.toNat))) → ((4 - v4).toNat ≤ n5) → n19 = (13 - v5).toNat → Rl lay0 (d + 1) m_mo_byteOf 19 [(0, .ref 904), (1, iv lex), (3, iv v3), (4, iv v4), (5, iv v5)] [] S (Q_mo_byteOf__q S lex k) := by
        intro n19
        induction n19 using Nat.strongRecOn with
        | ind n19 ih19 =>
          intro v3 v4 v5 w5 w6 w7 w8 w9 w10 f19 w11 w12 w13 hm19
          refine l_aload_n rfl rfl ?_
          refine l_gfr rfl rfl rfl rfl rfl (hH.r 904 11 913 rfl) ?_
          refine l_iconst rfl ?_
          refine l_iload_n rfl rfl ?_
          refine l_imul rfl ?_
          refine l_iload rfl rfl ?_
          refine l_iadd rfl ?_
          refine l_laload (n := 900) rfl rfl (by omega) (by omega) (by unfold rg; omega) ?_
          have w14 : -9223372036854775808 ≤ (Xj S 913 ((((3 * lex) + v4)).toNat)) ∧ (Xj S 913 ((((3 * lex) + v4)).toNat)) < 9223372036854775808 := Xj_rg
          refine l_iload rfl rfl ?_
          refine l_callS rfl rfl (by decide) rfl (t_mo_letterOf__q hH (Xj S 913 ((((3 * lex) + v4)).toNat)) v5 ⟨by omega, by omega⟩ (by rw [show (3 * lex + v4).toNat = 3 * lex.toNat + v4.toNat by omega]; exact hwd v4.toNat (by omega)) _) ?_
          rintro _ _ ⟨rfl, z16, rfl, w16, w15, q32⟩
          show Rl _ _ _ _ _ [iv z16] _ _
          have Q32 : z16 = lR (Xj S 913 (3 * lex.toNat + v4.toNat)) v5 := by rw [q32, show (3 * lex + v4).toNat = 3 * lex.toNat + v4.toNat by omega]
          have P32 := lR_p (w := Xj S 913 (3 * lex.toNat + v4.toNat)) (k := v5)
          refine l_iconst rfl ?_
          refine l_icmp_eq rfl rfl (by unfold rg; omega) (by unfold rg; omega) (fun w17 => ?_) (fun w18 => ?_)
          · refine l_iload_n rfl rfl ?_
            refine l_iload rfl rfl ?_
            refine l_icmp_ge rfl rfl (by unfold rg; omega) (by unfold rg; omega) (fun w19 => ?_) (fun w20 => ?_)
            · refine l_iload_n rfl rfl ?_
              refine l_iload rfl rfl ?_
              refine l_isub rfl ?_
              refine l_istore_n rfl rfl rfl ?_
              refine l_iload rfl rfl ?_
              refine l_iconst rfl ?_
              refine l_iadd rfl ?_
              refine l_aload_n rfl rfl ?_
              refine l_gfr rfl rfl rfl rfl rfl (hH.r 904 10 912 rfl) ?_
              refine l_iload_n rfl rfl ?_
              refine l_iaload (n := 300) rfl rfl (by omega) (by omega) (by unfold rg; omega) ?_
              have w21 : 0 ≤ (Xi S 912 ((lex).toNat)) ∧ (Xi S 912 ((lex).toNat)) ≤ 3 := hH.c _ _
              refine l_icmp_ne rfl rfl (by unfold rg; omega) (by unfold rg; omega) (fun w22 => ?_) (fun w23 => ?_)
              · refine l_iconst rfl ?_
                refine l_istore rfl rfl rfl ?_
                refine l_iload_n rfl rfl ?_
                refine l_if_ne rfl rfl (by unfold rg; omega) (fun w24 => ?_) (fun w25 => ?_)
                · refine l_iinc rfl rfl rfl rfl ?_
                  refine l_iinc rfl rfl rfl rfl ?_
                  refine l_goto rfl rfl ?_
                  exact Rl_weak (ih5 _ (by omega) (((v3 - v5) + (-1))) ((v4 + 1)) (by omega) (by omega) (by omega) (by omega) (by first | (have t := f19; exact f19.trans (nbw_4 (by omega) (by show l5 _ < v3; omega) (by show _ = v3 - l5 _ - 1; omega))) | rfl) rfl) (And.intro rfl (And.intro rfl (And.intro rfl (And.intro rfl (True.intro)))))
                · refine l_iload rfl rfl ?_
                  refine l_if_ne rfl rfl (by unfold rg; omega) (fun w26 => absurd w26 (by omega)) (fun w27 => ?_)
                  · refine l_bipush rfl rfl ?_
                    refine l_goto rfl rfl ?_
                    refine l_ireturn rfl rfl ?_
                    exact ⟨rfl, _, rfl, ⟨by omega, by omega⟩, (by first | assumption | omega), (by first | (have t := Q63; exact (f19.trans (nbw_1 (by omega) (by show v3 < l5 _; omega) Q63)).symm) | (have t := f19; first | (exfalso; omega) | exact (f19.trans (nbw_2 (by omega) (by show v3 = l5 _; omega))).symm | exact (f19.trans (nbw_3 (by omega) (by show v3 = l5 _; omega))).symm) | exact (f5.trans (nbw_e (by omega))).symm)⟩
              · refine l_iconst rfl ?_
                refine l_goto rfl rfl ?_
                refine l_istore rfl rfl rfl ?_
                refine l_iload_n rfl rfl ?_
                refine l_if_ne rfl rfl (by unfold rg; omega) (fun w28 => ?_) (fun w29 => ?_)
                · refine l_iinc rfl rfl rfl rfl ?_
                  refine l_iinc rfl rfl rfl rfl ?_
                  refine l_goto rfl rfl ?_
                  exact Rl_weak (ih5 _ (by omega) (((v3 - v5) + (-1))) ((v4 + 1)) (by omega) (by omega) (by omega) (by omega) (by first | (have t := f19; exact f19.trans (nbw_4 (by omega) (by show l5 _ < v3; omega) (by show _ = v3 - l5 _ - 1; omega))) | rfl) rfl) (And.intro rfl (And.intro rfl (And.intro rfl (And.intro rfl (True.intro)))))
                · refine l_iload rfl rfl ?_
                  refine l_if_ne rfl rfl (by unfold rg; omega) (fun w30 => ?_) (fun w31 => absurd w31 (by omega))
                  · refine l_aload_n rfl rfl ?_
                    refine l_gfr rfl rfl rfl rfl rfl (hH.r 904 14 916 rfl) ?_
                    refine l_iload_n rfl rfl ?_
                    refine l_baload (n := 300) rfl rfl rfl (by decide) (by omega) (by omega) (by unfold rg; omega) ?_
                    have w32 : 0 ≤ (Xi S 916 ((lex).toNat)) ∧ (Xi S 916 ((lex).toNat)) ≤ 1 := hH.c _ _
                    refine l_if_eq rfl rfl (by unfold rg; omega) (fun w33 => ?_) (fun w34 => ?_)
                    · refine l_iconst rfl ?_
                      refine l_ireturn rfl rfl ?_
                      exact ⟨rfl, _, rfl, ⟨by omega, by omega⟩, (by first | assumption | omega), (by first | (have t := Q63; exact (f19.trans (nbw_1 (by omega) (by show v3 < l5 _; omega) Q63)).symm) | (have t := f19; first | (exfalso; omega) | exact (f19.trans (nbw_2 (by omega) (by show v3 = l5 _; omega))).symm | exact (f19.trans (nbw_3 (by omega) (by show v3 = l5 _; omega))).symm) | exact (f5.trans (nbw_e (by omega))).symm)⟩
                    · refine l_bipush rfl rfl ?_
                      refine l_goto rfl rfl ?_
                      refine l_ireturn rfl rfl ?_
                      exact ⟨rfl, _, rfl, ⟨by omega, by omega⟩, (by first | assumption | omega), (by first | (have t := Q63; exact (f19.trans (nbw_1 (by omega) (by show v3 < l5 _; omega) Q63)).symm) | (have t := f19; first | (exfalso; omega) | exact (f19.trans (nbw_2 (by omega) (by show v3 = l5 _; omega))).symm | exact (f19.trans (nbw_3 (by omega) (by show v3 = l5 _; omega))).symm) | exact (f5.trans (nbw_e (by omega))).symm)⟩
            · refine l_aload_n rfl rfl ?_
              refine l_gfr rfl rfl rfl rfl rfl (hH.r 904 11 913 rfl) ?_
              refine l_iconst rfl ?_
              refine l_iload_n rfl rfl ?_
              refine l_imul rfl ?_
              refine l_iload rfl rfl ?_
              refine l_iadd rfl ?_
              refine l_laload (n := 900) rfl rfl (by omega) (by omega) (by unfold rg; omega) ?_
              have w35 : -9223372036854775808 ≤ (Xj S 913 ((((3 * lex) + v4)).toNat)) ∧ (Xj S 913 ((((3 * lex) + v4)).toNat)) < 9223372036854775808 := Xj_rg
              refine l_iload_n rfl rfl ?_
              refine l_callS rfl rfl (by decide) rfl (t_mo_letterOf__q hH (Xj S 913 ((((3 * lex) + v4)).toNat)) v3 ⟨by omega, by omega⟩ (by rw [show (3 * lex + v4).toNat = 3 * lex.toNat + v4.toNat by omega]; exact hwd v4.toNat (by omega)) _) ?_
              rintro _ _ ⟨rfl, z37, rfl, w37, w36, q63⟩
              show Rl _ _ _ _ _ [iv z37] _ _
              have Q63 : z37 = chlR S lex v4.toNat v3 := by rw [q63, show (3 * lex + v4).toNat = 3 * lex.toNat + v4.toNat by omega]; rfl
              refine l_ireturn rfl rfl ?_
              exact ⟨rfl, _, rfl, ⟨by omega, by omega⟩, (by first | assumption | omega), (by first | (have t := Q63; exact (f19.trans (nbw_1 (by omega) (by show v3 < l5 _; omega) Q63)).symm) | (have t := f19; first | (exfalso; omega) | exact (f19.trans (nbw_2 (by omega) (by show v3 = l5 _; omega))).symm | exact (f19.trans (nbw_3 (by omega) (by show v3 = l5 _; omega))).symm) | exact (f5.trans (nbw_e (by omega))).symm)⟩
          · refine l_iinc rfl rfl rfl rfl ?_
            refine l_goto rfl rfl ?_
            exact Rl_weak (ih19 _ (by omega) (v3) (v4) ((v5 + 1)) (by omega) (by omega) (by omega) (by omega) (by omega) (by omega) (by first | exact f19 | exact f5) (by omega) (by omega) (by omega) rfl) (And.intro rfl (And.intro rfl (And.intro rfl (And.intro rfl (And.intro rfl (True.intro))))))
      refine l_iload rfl rfl ?_
      refine l_aload_n rfl rfl ?_
      refine l_gfr rfl rfl rfl rfl rfl (hH.r 904 10 912 rfl) ?_
      refine l_iload_n rfl rfl ?_
      refine l_iaload (n := 300) rfl rfl (by omega) (by omega) (by unfold rg; omega) ?_
      have w38 : 0 ≤ (Xi S 912 ((lex).toNat)) ∧ (Xi S 912 ((lex).toNat)) ≤ 3 := hH.c _ _
      refine l_icmp_ge rfl rfl (by unfold rg; omega) (by unfold rg; omega) (fun w39 => ?_) (fun w40 => ?_)
      · refine l_iconst rfl ?_
        refine l_ireturn rfl rfl ?_
        exact ⟨rfl, _, rfl, ⟨by omega, by omega⟩, (by first | assumption | omega), (by first | (have t := Q63; exact (f19.trans (nbw_1 (by omega) (by show v3 < l5 _; omega) Q63)).symm) | (have t := f19; first | (exfalso; omega) | exact (f19.trans (nbw_2 (by omega) (by show v3 = l5 _; omega))).symm | exact (f19.trans (nbw_3 (by omega) (by show v3 = l5 _; omega))).symm) | exact (f5.trans (nbw_e (by omega))).symm)⟩
      · refine l_iconst rfl ?_
        have hl16 := hl5 v4.toNat (by omega)
        refine l_istore rfl rfl rfl ?_
        exact Rl_weak (C19 _ (v3) (v4) (0) (by omega) (by omega) (by omega) (by omega) (by omega) (by omega) (by first | exact f19 | exact f5) (by omega) (by omega) (by omega) rfl) (And.intro rfl (And.intro rfl (And.intro rfl (And.intro rfl (And.intro rfl (True.intro))))))
  refine l_iload_n rfl rfl ?_
  refine l_istore_n rfl rfl rfl ?_
  refine l_iconst rfl ?_
  refine l_istore rfl rfl rfl ?_
  exact Rl_weak (C5 _ (k) (0) (by omega) (by omega) (by omega) (by omega) (by first | (have t := f19; exact f19.trans (nbw_4 (by omega) (by show l5 _ < v3; omega) (by show _ = v3 - l5 _ - 1; omega))) | rfl) rfl) (And.intro rfl (And.intro rfl (And.intro rfl (And.intro rfl (True.intro)))))
def md_mo_putLex__q : List rec := [(904, 905, 156, 157), (993, 994, 0, 100000)]
abbrev Q_mo_putLex__q (S : sS) (lex : Int) : pst := fun r S1 => HI S1 ∧ FR md_mo_putLex__q S S1 ∧ (r = none ∧ (lex ≠ -1 → OUP 993 904 156 S S1 (bnL (fun k => byR S lex k) 42 0)) ∧ (lex = -1 → OUP 993 904 156 S S1 []))
set_option maxRecDepth 100000 in
theorem t_mo_putLex__q {S : sS} (hH : HI S) (lex : Int) (hlex : -1 ≤ lex ∧ lex ≤ 299) (hwx : lex ≠ -1 → WDX S lex) (hd : Xi S 904 157 = 0) (d : Nat) : Mt lay0 (d + 3) m_mo_putLex [.ref 904, iv lex] S (Q_mo_putLex__q S lex) := by
  refine Mt_R rfl rfl ?_
  have hF : FR md_mo_putLex__q S S := FR.rf
  have w1 : 0 ≤ Xi S 904 157 ∧ Xi S 904 157 ≤ 1 := hH.c _ _
  have hO : 0 ≤ Xi S 904 156 ∧ Xi S 904 156 ≤ 2000 := hH.c _ _
  have C2 : ∀ (n2 : Nat) (T1 : sS) (_ : HI T1) (_ : FR md_mo_putLex__q S T1) (v2 : Int), (0 ≤ v2 ∧ v2 ≤ 41) → (lex ≠ -1 → PLXR S T1 lex v2) → (lex = -1 → T1 = S) → n2 = (42 - v2).toNat → Rl lay0 (d + 2) m_mo_putLex 2 [(0, .ref 904), (1, iv lex), (2, iv v2)] [] T1 (Q_mo_putLex__q S lex) := by
    intro n2
    induction n2 using Nat.strongRecOn with
    | ind n2 ih2 =>
      intro T1 hHT1 hFT1 v2 w2 l2 e2 hm2
      have w3 : Xi T1 904 157 = Xi S 904 157 := hFT1.x _ _ rfl
      refine l_iload_n rfl rfl ?_
      refine l_iconst rfl ?_
      refine l_icmp_eq rfl rfl (by unfold rg; omega) (by unfold rg; omega) (fun w4 => ?_) (fun w5 => ?_)
      · refine l_return rfl rfl ?_
        exact ⟨hHT1, hFT1, rfl, (by first | (intro q; exact absurd rfl q) | (intro q; exact absurd (by omega) q) | exact fun q => plx_e (l2 q) (by omega) (by rw [← Q10]; omega)), (by first | (intro q; exfalso; omega) | exact fun q => by rw [e2 q]; exact oup_0 hO)⟩
      · refine l_aload_n rfl rfl ?_
        refine l_iload_n rfl rfl ?_
        refine l_iload_n rfl rfl ?_
        refine l_callV rfl rfl rfl (t_mo_byteOf__q hHT1 lex v2 ⟨by omega, by omega⟩ ⟨by omega, by omega⟩ ((wdx_f (fun j => (hFT1.cx 912 rfl j).1) (fun j => (hFT1.cx 913 rfl j).2) (fun j => (hFT1.cx 916 rfl j).1) (hwx (by omega))).1) ((wdx_f (fun j => (hFT1.cx 912 rfl j).1) (fun j => (hFT1.cx 913 rfl j).2) (fun j => (hFT1.cx 916 rfl j).1) (hwx (by omega))).2) _) ?_
        rintro _ _ ⟨rfl, z7, rfl, w7, w6, q10⟩
        show Rl _ _ _ _ _ [iv z7] _ _
        have Q10 : z7 = byR S lex v2 := q10.trans (byR_f (fun j => (hFT1.cx 912 rfl j).1) (fun j => (hFT1.cx 913 rfl j).2))
        refine l_iconst rfl ?_
        refine l_icmp_eq rfl rfl (by unfold rg; omega) (by unfold rg; omega) (fun w8 => ?_) (fun w9 => ?_)
        · refine l_return rfl rfl ?_
          exact ⟨hHT1, hFT1, rfl, (by first | (intro q; exact absurd rfl q) | (intro q; exact absurd (by omega) q) | exact fun q => plx_e (l2 q) (by omega) (by rw [← Q10]; omega)), (by first | (intro q; exfalso; omega) | exact fun q => by rw [e2 q]; exact oup_0 hO)⟩
        · refine l_aload_n rfl rfl ?_
          refine l_aload_n rfl rfl ?_
          refine l_iload_n rfl rfl ?_
          refine l_iload_n rfl rfl ?_
          refine l_callV rfl rfl rfl (t_mo_byteOf__q hHT1 lex v2 ⟨by omega, by omega⟩ ⟨by omega, by omega⟩ ((wdx_f (fun j => (hFT1.cx 912 rfl j).1) (fun j => (hFT1.cx 913 rfl j).2) (fun j => (hFT1.cx 916 rfl j).1) (hwx (by omega))).1) ((wdx_f (fun j => (hFT1.cx 912 rfl j).1) (fun j => (hFT1.cx 913 rfl j).2) (fun j => (hFT1.cx 916 rfl j).1) (hwx (by omega))).2) _) ?_
          rintro _ _ ⟨rfl, z11, rfl, w11, w10, q21⟩
          show Rl _ _ _ _ _ [iv z11, .ref 904] _ _
          have Q21 : z11 = byR S lex v2 := q21.trans (byR_f (fun j => (hFT1.cx 912 rfl j).1) (fun j => (hFT1.cx 913 rfl j).2))
          have w12 : 0 ≤ Xi T1 904 157 ∧ Xi T1 904 157 ≤ 1 := hHT1.c _ _
          refine l_callV rfl rfl rfl (t_mo_put__q hHT1 z11 ⟨by omega, by omega⟩ _) ?_
          rintro _ T2 ⟨hHT2, w14, rfl, o24, d24⟩
          have hFT2 : FR md_mo_putLex__q S T2 := FR.tr hFT1 w14 rfl
          show Rl _ _ _ _ _ [] _ _
          have L24 : lex ≠ -1 → PLXR S T2 lex (v2 + 1) := fun q => plx_s (l2 q) hO (by omega) Q21 (by omega) (o24 (by rw [hFT1.x 904 157 rfl]; exact hd))
          refine l_iinc rfl rfl rfl rfl ?_
          refine l_goto rfl rfl ?_
          exact Rl_weak (ih2 _ (by omega) T2 hHT2 hFT2 ((v2 + 1)) (by omega) (by first | exact L24 | exact fun _ => plx_0 hO) (by first | exact fun _ => rfl | (intro q; exfalso; omega)) rfl) (And.intro rfl (And.intro rfl (And.intro rfl (True.intro))))
  refine l_iconst rfl ?_
  refine l_istore_n rfl rfl rfl ?_
  exact Rl_weak (C2 _ S hH hF (0) (by omega) (by first | exact L24 | exact fun _ => plx_0 hO) (by first | exact fun _ => rfl | (intro q; exfalso; omega)) rfl) (And.intro rfl (And.intro rfl (And.intro rfl (True.intro))))
def md_mo_putProperty__q : List rec := [(904, 905, 154, 155), (904, 905, 156, 157), (993, 994, 0, 100000)]
abbrev Q_mo_putProperty__q (S : sS) (o : Int) (p : Int) : pst := fun r S1 => HI S1 ∧ FR md_mo_putProperty__q S S1 ∧ (r = none ∧ (PRLO S S1 o p))
set_option maxRecDepth 100000 in
theorem t_mo_putProperty__q {S : sS} (hH : HI S) (o : Int) (p : Int) (ho : 0 ≤ o ∧ o ≤ 23) (hp : 0 ≤ p ∧ p ≤ 11) (hB : ABV S) (hX : TXM S) (ho : o < Xi S 904 19) (hnw : NMWD S) (hd : Xi S 904 157 = 0) (d : Nat) : Mt lay0 (d + 4) m_mo_putProperty [.ref 904, iv o, iv p] S (Q_mo_putProperty__q S o p) := by
  refine Mt_R rfl rfl ?_
  have hF : FR md_mo_putProperty__q S S := FR.rf
  have w1 : 0 ≤ Xi S 904 157 ∧ Xi S 904 157 ≤ 1 := hH.c _ _
  have w2 : 0 ≤ Xi S 904 19 ∧ Xi S 904 19 ≤ 24 := hH.c _ _
  have hO : 0 ≤ Xi S 904 156 ∧ Xi S 904 156 ≤ 2000 := hH.c _ _
  have C43 : ∀ (n43 : Nat) (T1 : sS) (_ : HI T1) (_ : FR md_mo_putProperty__q S T1) (v3 : Int) (v4 : Int) (v5 : Int), (-2147483648 ≤ v3 ∧ v3 ≤ 2147483647) → (-2147483648 ≤ v4 ∧ v4 ≤ 2147483647) → (0 ≤ v5 ∧ v5 ≤ 5000) → (v4 = 0 ∨ (0 < v4 ∧ 0 ≤ v3 ∧ v3 + v4 ≤ 5000)) → (Xi S 928 p.toNat = 1) → (v3 = nuR S o p) → (v4 = nlR S o p) → (v5 ≤ v4 ∨ v5 ≤ 0) → (OUP 993 904 156 S T1 (txL S 906 (nuR S o p) v5.toNat)) → n43 = (5001 - v5).toNat → Rl lay0 (d + 3) m_mo_putProperty 43 [(0, .ref 904), (3, iv v3), (4, iv v4), (5, iv v5)] [] T1 (Q_mo_putProperty__q S o p) := by
    intro n43
    induction n43 using Nat.strongRecOn with
    | ind n43 ih43 =>
      intro T1 hHT1 hFT1 v3 v4 v5 w3 w4 w5 w6 w7 v43 l43 w8 x43 hm43
      have w9 : Xi T1 904 15 = Xi S 904 15 := hFT1.x _ _ rfl
      have w10 : Xi T1 904 157 = Xi S 904 157 := hFT1.x _ _ rfl
      have w11 : Xi T1 904 19 = Xi S 904 19 := hFT1.x _ _ rfl
      refine l_iload rfl rfl ?_
      refine l_iload rfl rfl ?_
      refine l_icmp_ge rfl rfl (by unfold rg; omega) (by unfold rg; omega) (fun w12 => ?_) (fun w13 => ?_)
      · refine l_goto rfl rfl ?_
        refine l_return rfl rfl ?_
        exact ⟨hHT1, hFT1, rfl, (by first | (have t := K24; exact P24) | (have t := K85; exact P85) | (have t := x43; exact ⟨fun q => absurd q (by omega), fun _ => oup_e x43 (by rw [← l43]; exact wtx_e (by omega)), fun _ q => absurd (by omega) q⟩) | exact ⟨fun q => absurd q (by omega), fun q => absurd q (by omega), fun _ _ => ⟨fun _ => oup_rf F3 rfl rfl (oup_0 O3), fun q => absurd (by rw [← q3]; omega) q⟩⟩)⟩
      · refine l_aload_n rfl rfl ?_
        refine l_aload_n rfl rfl ?_
        refine l_gfr rfl rfl rfl rfl rfl (hHT1.r 904 2 906 rfl) ?_
        refine l_iload_n rfl rfl ?_
        refine l_iload rfl rfl ?_
        refine l_iadd rfl ?_
        refine l_baload (n := 5000) rfl rfl rfl (by decide) (by omega) (by omega) (by unfold rg; omega) ?_
        have w14 : -128 ≤ (Xi T1 906 (((v3 + v5)).toNat)) ∧ (Xi T1 906 (((v3 + v5)).toNat)) ≤ 127 := hHT1.c _ _
        have b59 : (Xi T1 906 (((v3 + v5)).toNat)) = Xi S 906 (nuR S o p + v5).toNat := by rw [← v43]; exact (hFT1.cx 906 rfl _).1
        have w15 : 0 ≤ Xi T1 904 157 ∧ Xi T1 904 157 ≤ 1 := hHT1.c _ _
        refine l_callV rfl rfl rfl (t_mo_put__q hHT1 (Xi T1 906 (((v3 + v5)).toNat)) ⟨by omega, by omega⟩ _) ?_
        rintro _ T2 ⟨hHT2, w17, rfl, o60, d60⟩
        have hFT2 : FR md_mo_putProperty__q S T2 := FR.tr hFT1 w17 rfl
        show Rl _ _ _ _ _ [] _ _
        have X60 : OUP 993 904 156 S T2 (txL S 906 (nuR S o p) (v5 + 1).toNat) := by rw [txL_s (by omega), ← b59]; exact oup_tr hO x43 (o60 (by rw [hFT1.x 904 157 rfl]; exact hd))
        refine l_iinc rfl rfl rfl rfl ?_
        refine l_goto rfl rfl ?_
        exact Rl_weak (ih43 _ (by omega) T2 hHT2 hFT2 (v3) (v4) ((v5 + 1)) (by omega) (by omega) (by omega) (by omega) (by omega) (by first | exact v43 | exact q3) (by first | exact l43 | exact l3) (by omega) (by first | exact X60 | exact oup_rf F3 rfl rfl (oup_e (oup_0 O3) (txL_0 (by omega)).symm)) rfl) (And.intro rfl (And.intro rfl (And.intro rfl (And.intro rfl (True.intro)))))
  refine l_aload_n rfl rfl ?_
  refine l_iload_n rfl rfl ?_
  refine l_iload_n rfl rfl ?_
  refine l_callV rfl rfl rfl (t_mo_numberOf__q hH o p ⟨by omega, by omega⟩ ⟨by omega, by omega⟩ (by first | assumption | exact (ABV_FR hF rfl (by assumption : ABV S))) (by first | assumption | exact (TXM_FR hF rfl (by assumption : TXM S))) (by first | assumption | omega) _) ?_
  rintro _ T3 ⟨hHT3, w21, z20, rfl, w20, w19, q3, l3⟩
  have hFT3 : FR md_mo_putProperty__q S T3 := FR.tr hF w21 rfl
  show Rl _ _ _ _ _ [iv z20] _ _
  have t3 : Xi S 928 p.toNat = 1 → Xi T3 904 154 = 0 ∨ (0 < Xi T3 904 154 ∧ 0 ≤ z20 ∧ z20 + Xi T3 904 154 ≤ 5000) := by assumption
  have F3 : FR [(904, 905, 154, 155)] S T3 := by assumption
  have O3 : 0 ≤ Xi T3 904 156 ∧ Xi T3 904 156 ≤ 2000 := hHT3.c _ _
  refine l_istore_n rfl rfl rfl ?_
  refine l_aload_n rfl rfl ?_
  refine l_gfi rfl rfl rfl rfl rfl ?_
  have w22 : -2147483648 ≤ (Xi T3 904 154) ∧ (Xi T3 904 154) ≤ 2147483647 := Xi_rgI
  refine l_istore rfl rfl rfl ?_
  refine l_aload_n rfl rfl ?_
  refine l_gfr rfl rfl rfl rfl rfl (hHT3.r 904 33 928 rfl) ?_
  refine l_iload_n rfl rfl ?_
  refine l_iaload (n := 12) rfl rfl (by omega) (by omega) (by unfold rg; omega) ?_
  have w23 : 0 ≤ (Xi T3 928 ((p).toNat)) ∧ (Xi T3 928 ((p).toNat)) ≤ 7 := hHT3.c _ _
  have e18 : (Xi T3 928 ((p).toNat)) = Xi S 928 p.toNat := by first | rfl | exact (hFT3.cx 928 rfl _).1
  refine l_if_ne rfl rfl (by unfold rg; omega) (fun w24 => ?_) (fun w25 => ?_)
  · refine l_aload_n rfl rfl ?_
    refine l_gfr rfl rfl rfl rfl rfl (hHT3.r 904 33 928 rfl) ?_
    refine l_iload_n rfl rfl ?_
    refine l_iaload (n := 12) rfl rfl (by omega) (by omega) (by unfold rg; omega) ?_
    have e35 : (Xi T3 928 ((p).toNat)) = Xi S 928 p.toNat := by first | rfl | exact (hFT3.cx 928 rfl _).1
    refine l_iconst rfl ?_
    refine l_icmp_ne rfl rfl (by unfold rg; omega) (by unfold rg; omega) (fun w26 => ?_) (fun w27 => ?_)
    · refine l_iload_n rfl rfl ?_
      refine l_iconst rfl ?_
      refine l_icmp_eq rfl rfl (by unfold rg; omega) (by unfold rg; omega) (fun w28 => ?_) (fun w29 => ?_)
      · refine l_return rfl rfl ?_
        exact ⟨hHT3, hFT3, rfl, (by first | (have t := K24; exact P24) | (have t := K85; exact P85) | (have t := x43; exact ⟨fun q => absurd q (by omega), fun _ => oup_e x43 (by rw [← l43]; exact wtx_e (by omega)), fun _ q => absurd (by omega) q⟩) | exact ⟨fun q => absurd q (by omega), fun q => absurd q (by omega), fun _ _ => ⟨fun _ => oup_rf F3 rfl rfl (oup_0 O3), fun q => absurd (by rw [← q3]; omega) q⟩⟩)⟩
      · refine l_aload_n rfl rfl ?_
        refine l_aload_n rfl rfl ?_
        refine l_bipush rfl rfl ?_
        refine l_iload_n rfl rfl ?_
        have w30 : Xi T3 904 15 = Xi S 904 15 := (show Xi T3 904 15 = Xi S 904 15 from w21.x _ _ rfl)
        have w31 : 0 ≤ Xi S 904 15 ∧ Xi S 904 15 ≤ 300 := hH.c _ _
        refine l_callV rfl rfl rfl (t_mo_lexOf__2 hHT3 6 z20 ⟨by omega, by omega⟩ ⟨by omega, by omega⟩ _) ?_
        rintro _ _ ⟨rfl, z32, rfl, w32, p82, n82, y82⟩
        show Rl _ _ _ _ _ [iv z32, .ref 904] _ _
        have X82 : z32 ≠ -1 → WDX T3 z32 := fun q => (by have t := nmw_f F3 hnw (z32).toNat (by have := p82 q; omega) (Or.inr (y82 q).1); rw [show (((z32).toNat : Nat) : Int) = z32 by omega] at t; exact t)
        have w33 : Xi T3 904 157 = Xi S 904 157 := (show Xi T3 904 157 = Xi S 904 157 from w21.x _ _ rfl)
        refine l_callV rfl rfl rfl (t_mo_putLex__q hHT3 z32 ⟨by omega, by omega⟩ (X82) (by rw [hFT3.x 904 157 rfl]; exact hd) _) ?_
        rintro _ T4 ⟨hHT4, w36, rfl, o85, e85⟩
        have hFT4 : FR md_mo_putProperty__q S T4 := FR.tr hFT3 w36 rfl
        show Rl _ _ _ _ _ [] _ _
        have K85 : True := trivial
        have P85 : PRLO S T4 o p := ⟨fun q => absurd q (by omega), fun q => absurd q (by omega), fun _ _ => ⟨fun q => absurd q (by rw [← q3]; omega), fun _ => by rw [← q3]; exact nmr_f (nmr_i (by omega) n82 (fun q => ⟨p82 q, y82 q⟩) o85 e85) F3⟩⟩
        refine l_return rfl rfl ?_
        exact ⟨hHT4, hFT4, rfl, (by first | (have t := K24; exact P24) | (have t := K85; exact P85) | (have t := x43; exact ⟨fun q => absurd q (by omega), fun _ => oup_e x43 (by rw [← l43]; exact wtx_e (by omega)), fun _ q => absurd (by omega) q⟩) | exact ⟨fun q => absurd q (by omega), fun q => absurd q (by omega), fun _ _ => ⟨fun _ => oup_rf F3 rfl rfl (oup_0 O3), fun q => absurd (by rw [← q3]; omega) q⟩⟩)⟩
    · refine l_iconst rfl ?_
      refine l_istore rfl rfl rfl ?_
      exact Rl_weak (C43 _ T3 hHT3 hFT3 (z20) ((Xi T3 904 154)) (0) (by omega) (by omega) (by omega) (by omega) (by omega) (by first | exact v43 | exact q3) (by first | exact l43 | exact l3) (by omega) (by first | exact X60 | exact oup_rf F3 rfl rfl (oup_e (oup_0 O3) (txL_0 (by omega)).symm)) rfl) (And.intro rfl (And.intro rfl (And.intro rfl (And.intro rfl (True.intro)))))
  · refine l_aload_n rfl rfl ?_
    refine l_iload_n rfl rfl ?_
    have w37 : Xi T3 904 157 = Xi S 904 157 := (show Xi T3 904 157 = Xi S 904 157 from w21.x _ _ rfl)
    refine l_callV rfl rfl rfl (t_mo_putNumber__q hHT3 z20 ⟨by omega, by omega⟩ (by rw [hFT3.x 904 157 rfl]; exact hd) _) ?_
    rintro _ T5 ⟨hHT5, w40, rfl, o24⟩
    have hFT5 : FR md_mo_putProperty__q S T5 := FR.tr hFT3 w40 rfl
    show Rl _ _ _ _ _ [] _ _
    have K24 : True := trivial
    have P24 : PRLO S T5 o p := ⟨fun _ => by rw [← q3]; exact oup_rf F3 rfl rfl (nmz_l o24 (by omega)), fun q => absurd q (by omega), fun q => absurd (by omega) q⟩
    refine l_goto rfl rfl ?_
    refine l_return rfl rfl ?_
    exact ⟨hHT5, hFT5, rfl, (by first | (have t := K24; exact P24) | (have t := K85; exact P85) | (have t := x43; exact ⟨fun q => absurd q (by omega), fun _ => oup_e x43 (by rw [← l43]; exact wtx_e (by omega)), fun _ q => absurd (by omega) q⟩) | exact ⟨fun q => absurd q (by omega), fun q => absurd q (by omega), fun _ _ => ⟨fun _ => oup_rf F3 rfl rfl (oup_0 O3), fun q => absurd (by rw [← q3]; omega) q⟩⟩)⟩
end
section
/-! NAMES of both are alike -/
theorem lnF_d : ∀ (f : Nat) (w : Int), 0 < w → w < 27 ^ f → 1 ≤ lnF f w ∧ lnF f w ≤ f ∧ 27 ^ (lnF f w - 1).toNat ≤ w ∧ w < 27 ^ (lnF f w).toNat
  | 0, w, h0, h => by rw [Int.pow_zero] at h; omega
  | f + 1, w, h0, h => by
    unfold lnF
    by_cases q : w < 27
    · rw [if_pos q]
      refine ⟨by omega, by omega, ?_, ?_⟩
      · show (27 : Int) ^ 0 ≤ w; rw [Int.pow_zero]; omega
      · show w < (27 : Int) ^ 1; rw [Int.pow_succ, Int.pow_zero]; omega
    · rw [if_neg q]
      rw [Int.pow_succ] at h
      obtain ⟨a, b, c, d⟩ := lnF_d f (w / 27) (by omega) (by omega)
      refine ⟨by omega, by omega, ?_, ?_⟩
      · rw [show (1 + lnF f (w / 27) - 1).toNat = (lnF f (w / 27) - 1).toNat + 1 by omega, Int.pow_succ]; omega
      · rw [show (1 + lnF f (w / 27)).toNat = (lnF f (w / 27)).toNat + 1 by omega, Int.pow_succ]; omega
theorem dg5_u {w a b : Int} (h : DG5 w a) (g : DG5 w b) : a = b := by
  obtain ⟨h1, h2, h3⟩ := h
  obtain ⟨g1, g2, g3⟩ := g
  by_cases q : a < b
  · have := p32_l (a := a.toNat) (b := (b - 1).toNat) (by omega)
    omega
  · by_cases r : b < a
    · have := p32_l (a := b.toNat) (b := (a - 1).toNat) (by omega)
      omega
    · omega
theorem cvN_d : ∀ (j m : Nat) (w : Int), 0 ≤ w → j < m → cvN m w / 32 ^ j % 32 = w / 27 ^ j % 27
  | _, 0, _, _, h => absurd h (by omega)
  | 0, m + 1, w, h0, _ => by
    show (cvN m (w / 27) * 32 + w % 27) / 32 ^ 0 % 32 = w / 27 ^ 0 % 27
    rw [Int.pow_zero, Int.pow_zero, Int.ediv_one, Int.ediv_one]; omega
  | j + 1, m + 1, w, h0, h => by
    have t := cvN_d j m (w / 27) (by omega) (by omega)
    show (cvN m (w / 27) * 32 + w % 27) / 32 ^ (j + 1) % 32 = w / 27 ^ (j + 1) % 27
    rw [Int.pow_succ, Int.pow_succ, Int.mul_comm (32 ^ j) 32, Int.mul_comm (27 ^ j) 27, ← Int.ediv_ediv_of_nonneg (by decide), ← Int.ediv_ediv_of_nonneg (by decide), show (cvN m (w / 27) * 32 + w % 27) / 32 = cvN m (w / 27) by omega]
    exact t
theorem cvN_t {w : Int} {n : Nat} (h0 : 0 ≤ w) (h : w < 27 ^ n) : ∀ d : Nat, cvN (n + d) w = cvN n w
  | 0 => rfl
  | d + 1 => by
    have p : (27 : Int) ^ n ≤ 27 ^ (n + d) := by
      clear h
      induction d with
      | zero => exact Int.le_refl _
      | succ d ih =>
        have q : (0 : Int) < 27 ^ (n + d) := Int.pow_pos (by decide)
        rw [show n + (d + 1) = n + d + 1 by omega, Int.pow_succ]
        omega
    rw [show n + (d + 1) = n + d + 1 by omega, cvN_s (n + d) w h0 (by omega), cvN_t h0 h d]
theorem cv_n {w : Int} (h : 0 < w) (g : cd7 w) (s : cv w < 1152921504606846976) : w < 27 ^ 12 := by
  by_cases q : w < 27 ^ 12
  · exact q
  · exfalso
    have t : (32 : Int) ^ 12 ≤ cvN 13 w := cvN_lo 12 w (by omega) g.2
    have u : cvN 13 w < 1152921504606846976 := s
    rw [show (32 : Int) ^ 12 = 1152921504606846976 by decide] at t
    omega
theorem ln_cv {w : Int} (h : 0 < w) (g : w < 27 ^ 12) : l5 (cv w) = ln7 w ∧ 0 < cv w ∧ 1 ≤ ln7 w := by
  obtain ⟨a, b, c, d⟩ := lnF_d 12 w h g
  have e : ln7 w = lnF 12 w := by
    have t := lnF_i (lnF 12 w - 1).toNat 14 w (by omega) c (by rw [show (lnF 12 w - 1).toNat + 1 = (lnF 12 w).toNat by omega]; exact d)
    unfold ln7
    rw [t]; omega
  have n1 : cv w = cvN (lnF 12 w).toNat w := by
    have t := cvN_t (by omega) d (13 - (lnF 12 w).toNat)
    rw [show (lnF 12 w).toNat + (13 - (lnF 12 w).toNat) = 13 by omega] at t
    exact t
  have lo := cvN_lo (lnF 12 w - 1).toNat w c (by rw [show (lnF 12 w - 1).toNat + 1 = (lnF 12 w).toNat by omega]; exact d)
  have hi := cvN_r (lnF 12 w).toNat w (by omega) d
  rw [show (lnF 12 w - 1).toNat + 1 = (lnF 12 w).toNat by omega, ← n1] at lo
  rw [← n1] at hi
  have p := p32_p (lnF 12 w - 1).toNat
  have D : DG5 (cv w) (lnF 12 w) := ⟨⟨a, b⟩, lo, hi.2⟩
  have up : cv w < 1152921504606846976 := by
    have t := p32_l (a := (lnF 12 w).toNat) (b := 12) (by omega)
    rw [show (32 : Int) ^ 12 = 1152921504606846976 by decide] at t
    omega
  exact ⟨by rw [e]; exact dg5_u (l5_d (by omega) up) D, by omega, by omega⟩
theorem ch_cv {w l : Int} (h : 0 < w) (g : w < 27 ^ 12) (hl : 0 ≤ l) (hl2 : l < ln7 w) : lR (cv w) l = ch7 w l := by
  obtain ⟨e, _, _⟩ := ln_cv h g
  have b := (lnF_d 12 w h g).2.1
  have b2 : ln7 w ≤ 12 := by
    obtain ⟨a, b, c, d⟩ := lnF_d 12 w h g
    have t := lnF_i (lnF 12 w - 1).toNat 14 w (by omega) c (by rw [show (lnF 12 w - 1).toNat + 1 = (lnF 12 w).toNat by omega]; exact d)
    unfold ln7
    rw [t]; omega
  unfold lR ch7 p27
  rw [e, if_pos hl2]
  have t := cvN_d (ln7 w - 1 - l).toNat 13 w (by omega) (by omega)
  unfold cv
  rw [t, show (ln7 w - l - 1).toNat = (ln7 w - 1 - l).toNat by omega]
/-- the class's name out of one entry -/
theorem nbs_none {U : sS} {so wh : Int} : ∀ (f i : Nat) (l : Int), (∀ j : Nat, i ≤ j → j < i + f → Xj U 2 j = 0 ∨ Xi U 3 (j / 3) ≠ so ∨ Xi U 4 (j / 3) ≠ wh) → nbS U so wh f i l = -1
  | 0, _, _, _ => rfl
  | f + 1, i, l, h => by
    unfold nbS
    by_cases q : l < 0
    · rw [if_pos q]
    · rw [if_neg q, if_pos (h i (Nat.le_refl i) (by omega))]
      exact nbs_none f (i + 1) l (fun j a b => h j (by omega) (by omega))
theorem nbs_skip {U : sS} {so wh l : Int} (hl : 0 ≤ l) : ∀ (d f i : Nat), (∀ j : Nat, i ≤ j → j < i + d → Xj U 2 j = 0 ∨ Xi U 3 (j / 3) ≠ so ∨ Xi U 4 (j / 3) ≠ wh) → nbS U so wh (d + f) i l = nbS U so wh f (i + d) l
  | 0, f, i, _ => by rw [Nat.zero_add, Nat.add_zero]
  | d + 1, f, i, h => by
    rw [show d + 1 + f = (d + f) + 1 by omega]
    conv => lhs; unfold nbS
    rw [if_neg (by omega), if_pos (h i (Nat.le_refl i) (by omega)), nbs_skip hl d f (i + 1) (fun j a b => h j (by omega) (by omega)), show i + 1 + d = i + (d + 1) by omega]
theorem nbs_w {U : sS} {so wh : Int} {e : Nat} (h3 : Xi U 3 e = so) (h4 : Xi U 4 e = wh) : ∀ (m j f : Nat) (l : Int), 0 ≤ l → j + m ≤ 3 → 1 ≤ m → m ≤ f → (∀ t : Nat, j ≤ t → t < j + m → Xj U 2 (3 * e + t) ≠ 0) → (∀ t : Nat, 3 * e + j + m ≤ t → t < 3 * e + j + f → Xj U 2 t = 0 ∨ Xi U 3 (t / 3) ≠ so ∨ Xi U 4 (t / 3) ≠ wh) → nbS U so wh f (3 * e + j) (l + (if j = 0 then 0 else 1)) = nbW (fun t => ln7 (Xj U 2 (3 * e + t))) (fun t l => ch7 (Xj U 2 (3 * e + t)) l) m j l
  | 0, _, _, _, _, _, h, _, _, _ => absurd h (by omega)
  | m + 1, j, 0, _, _, _, _, h, _, _ => absurd h (by omega)
  | m + 1, j, f + 1, l, hl, hj, _, hf, hw, hz => by
    have d3 : (3 * e + j) / 3 = e := by omega
    have m3 : (3 * e + j) % 3 = j := by omega
    have w0 := hw j (Nat.le_refl j) (by omega)
    unfold nbS nbW
    rw [d3, m3]
    have l0 : 0 ≤ l + (if j = 0 then (0 : Int) else 1) := by split <;> omega
    have l1 : ¬ (j ≠ 0 ∧ l + (if j = 0 then (0 : Int) else 1) = 0) := fun q => by have := q.2; rw [if_neg q.1] at this; omega
    have l2 : l + (if j = 0 then (0 : Int) else 1) - (if j = 0 then 0 else 1) = l := by omega
    rw [if_neg (by omega), if_neg (fun q => q.elim w0 (fun q => q.elim (fun q => q h3) (fun q => q h4))), if_neg l1, l2]
    by_cases q : l < ln7 (Xj U 2 (3 * e + j))
    · rw [if_pos q, if_pos q]
    · rw [if_neg q, if_neg q]
      cases m with
      | zero =>
        rw [nbs_none f _ _ (fun t a b => hz t (by omega) (by omega)), if_pos rfl]
        split <;> rfl
      | succ m =>
        by_cases r : l - ln7 (Xj U 2 (3 * e + j)) = 0
        · rw [if_pos r, r, if_neg (by omega)]
          cases f with
          | zero => omega
          | succ f =>
            unfold nbS
            have w1 := hw (j + 1) (by omega) (by omega)
            rw [show (3 * e + j + 1) / 3 = e by omega, show (3 * e + j + 1) % 3 = j + 1 by omega, show 3 * e + j + 1 = 3 * e + (j + 1) by omega]
            rw [if_neg (by omega), if_neg (fun q => q.elim w1 (fun q => q.elim (fun q => q h3) (fun q => q h4))), if_pos ⟨by omega, rfl⟩]
        · rw [if_neg r]
          have ih := nbs_w h3 h4 (m + 1) (j + 1) f (l - ln7 (Xj U 2 (3 * e + j)) - 1) (by omega) (by omega) (by omega) (by omega) (fun t a b => hw t (by omega) (by omega)) (fun t a b => hz t (by omega) (by omega))
          rw [if_neg (by omega)] at ih
          rw [← ih, show 3 * e + j + 1 = 3 * e + (j + 1) by omega]
          congr 1
          omega
theorem nbw_c {len len2 : Nat → Int} {ch ch2 : Nat → Int → Int} : ∀ (m j : Nat) (l : Int), 0 ≤ l → (∀ t : Nat, j ≤ t → t < j + m → len t = len2 t ∧ 1 ≤ len2 t ∧ ∀ x : Int, 0 ≤ x → x < len2 t → ch t x = ch2 t x) → nbW len ch m j l = nbW len2 ch2 m j l
  | 0, _, _, _, _ => rfl
  | m + 1, j, l, hl, h => by
    obtain ⟨a, b, c⟩ := h j (Nat.le_refl j) (by omega)
    unfold nbW
    rw [a]
    by_cases q : l < len2 j
    · rw [if_pos q, if_pos q, c l hl q]
    · rw [if_neg q, if_neg q]
      by_cases r : l - len2 j = 0
      · rw [if_pos r, if_pos r]
      · rw [if_neg r, if_neg r]
        exact nbw_c m (j + 1) _ (by omega) (fun t x y => h t (by omega) (by omega))
theorem nmC_b {U : sS} {so wh : Int} : ∀ f k : Nat, nmC U so wh f k = bnL (fun k => nbC U so wh k) f k
  | 0, _ => rfl
  | f + 1, k => by
    unfold nmC bnL
    rw [nmC_b f (k + 1)]
theorem nm_s {U S : sS} {k : Nat} (v : VOC U S) (us : USW U) (w : WDX S k) (hk : (k : Int) < Xi S 904 15) : bnL (fun i => byR S k i) 42 0 = nmQ U (sg7 (Xi S 914 k)) (Xi S 915 k) := by
  obtain ⟨i, hi, e1, e2, e3, e4, e5, _⟩ := v.2.2.1 k (by have := v.1.1; omega)
  have ek : ((k : Nat) : Int).toNat = k := by omega
  unfold WDX at w
  rw [ek] at w
  have e6 := e5 w.2
  have W : ∀ j : Nat, (j : Int) < Xi S 912 k → 0 < Xj U 2 (3 * i + j) ∧ Xj U 2 (3 * i + j) < 27 ^ 12 ∧ Xj S 913 (3 * k + j) = cv (Xj U 2 (3 * i + j)) := fun j hj => by
    obtain ⟨c1, c2, _⟩ := e4 j (by omega)
    have c3 := e6 j hj
    have c4 := w.1 j hj
    rw [c3] at c4
    exact ⟨c2 hj, cv_n (c2 hj) c1 c4.2, c3⟩
  have fn : (fun l : Nat => byR S (k : Int) (l : Int)) = (fun l : Nat => nbC U (sg7 (Xi S 914 k)) (Xi S 915 k) (l : Int)) := funext (fun l => by
    have a : byR S k l = nbW (fun t => ln7 (Xj U 2 (3 * i + t))) (fun t l => ch7 (Xj U 2 (3 * i + t)) l) (Xi S 912 k).toNat 0 l := by
      unfold byR
      rw [ek, show (Xi S 912 k - 0).toNat = (Xi S 912 k).toNat by omega, show (0 : Int).toNat = 0 from rfl]
      refine nbw_c _ 0 _ (by omega) (fun t _ ht => ?_)
      obtain ⟨w1, w2, w3⟩ := W t (by omega)
      obtain ⟨x1, x2, x3⟩ := ln_cv w1 w2
      refine ⟨by unfold lnR; rw [ek, w3]; exact x1, x3, fun x h0 h1 => by unfold chlR; rw [ek, w3]; exact ch_cv w1 w2 h0 h1⟩
    rw [a]
    unfold nbC
    have ns : ∀ t : Nat, t < 3 * (Xi U 1 3).toNat → t / 3 ≠ i → Xj U 2 t = 0 ∨ Xi U 3 (t / 3) ≠ sg7 (Xi S 914 k) ∨ Xi U 4 (t / 3) ≠ Xi S 915 k := fun t h1 h2 => by
      by_cases q3 : Xi U 3 (t / 3) = sg7 (Xi S 914 k)
      · by_cases q4 : Xi U 4 (t / 3) = Xi S 915 k
        · exact absurd (us (t / 3) i (by omega) hi (q3.trans e1) (q4.trans e2)) h2
        · exact Or.inr (Or.inr q4)
      · exact Or.inr (Or.inl q3)
    have s := nbs_skip (U := U) (so := sg7 (Xi S 914 k)) (wh := Xi S 915 k) (l := (l : Int)) (by omega) (3 * i) (3 * (Xi U 1 3).toNat - 3 * i) 0 (fun t _ ht => ns t (by omega) (by omega))
    rw [show (3 * Xi U 1 3 - 0).toNat = 3 * i + (3 * (Xi U 1 3).toNat - 3 * i) by omega, s, Nat.zero_add]
    have u := nbs_w (U := U) (e := i) e1.symm e2.symm (Xi S 912 k).toNat 0 (3 * (Xi U 1 3).toNat - 3 * i) (l : Int) (by omega) (by omega) (by omega) (by omega) (fun t _ ht => by have := (W t (by omega)).1; omega) (fun t h1 h2 => by
      by_cases q : t / 3 = i
      · left
        have z := (e4 (t - 3 * i) (by omega)).2.2 (by omega)
        rw [show 3 * i + (t - 3 * i) = t by omega] at z
        exact z
      · exact ns t (by omega) q)
    rw [if_pos rfl, Int.add_zero, Nat.add_zero] at u
    exact u.symm)
  rw [fn]
  unfold nmQ
  rw [nmC_b]
/-- names that the reference writes are the class's -/
theorem nmq_0 {U S : sS} {so ix : Int} (a : RVO U S) (hs : 0 ≤ so ∧ so ≤ 12) (h : ¬ lxH S so ix) : nmQ U (sg7 so) ix = [] := by
  have ne : ∀ i : Nat, (i : Int) < Xi U 1 3 → Xi U 3 i ≠ sg7 so ∨ Xi U 4 i ≠ ix := fun i hi => by
    by_cases q : Xi U 3 i = sg7 so
    · right
      intro q2
      obtain ⟨k, k1, k2⟩ := a.1.2.1 i hi
      have e15 := a.1.1.1
      have r := (a.2.2.2.1 k (by omega)).1
      exact h ⟨k, by omega, sg_inj r hs (by rw [k2.1, q]), by rw [k2.2.1, q2]⟩
    · exact Or.inl q
  have z : nbC U (sg7 so) ix 0 = -1 := by
    unfold nbC
    have t := nbs_skip (U := U) (so := sg7 so) (wh := ix) (l := 0) (Int.le_refl 0) (3 * Xi U 1 3 - 0).toNat 0 0 (fun j _ hj => Or.inr (ne (j / 3) (by omega)))
    rw [Nat.add_zero] at t
    rw [t]; rfl
  unfold nmQ nmC
  rw [if_pos (by exact z)]
theorem nmr_s {U S T : sS} {so ix : Int} (a : RVO U S) (w : NMWD S) (hs : so = 4 ∨ so = 6) (n : NMRL S T so ix) : OUP 993 904 156 S T (nmQ U (sg7 so) ix) := by
  by_cases h : ¬ lxH S so ix
  · rw [nmq_0 a (by omega) h]; exact n.2 h
  obtain ⟨k, k1, k2, k3⟩ := Classical.not_not.mp h
  have t := n.1 k k1 k2 k3 (fun l a1 a2 a3 => voc_us a.1 a.2.1 l k a1 k1 (a2.trans k2.symm) (a3.trans k3.symm))
  rw [nm_s a.1 a.2.1 (w k k1 (by omega)) k1, k2, k3] at t
  exact t
/-- what is written of a property, in both -/
theorem pro_s {U S T : sS} {o p : Int} (a : RLB U S) (w : NMWD S) (ho : 0 ≤ o ∧ o < Xi U 5 2) (hp : 0 ≤ p ∧ p < Xi U 5 5) (h : PRLO S T o p) : OUP 993 904 156 S T (insL U o p) := by
  obtain ⟨n1, n2⟩ := num_r a.1 ho hp
  obtain ⟨h0, h1, h2⟩ := h
  unfold insL
  rw [if_neg (by omega), n2]
  by_cases q1 : Xi S 928 p.toNat = 1
  · rw [if_pos q1, txL_r (n1.1 q1)]
    exact h1 q1
  · rw [if_neg q1, n1.2 q1]
    by_cases q0 : Xi S 928 p.toNat = 0
    · rw [if_pos q0]; exact h0 q0
    · rw [if_neg q0]
      obtain ⟨x, y⟩ := h2 q0 q1
      by_cases z : nuR S o p = -1
      · rw [if_pos z]; exact x z
      · rw [if_neg z]
        exact nmr_s a.1.1 w (Or.inr rfl) (y z)
end
section
/-! what the first actions do, in the reference -/
abbrev l154 : List rec := [(904, 905, 154, 155)]
abbrev lPP : List rec := [(904, 905, 154, 155), (904, 905, 156, 157), (993, 994, 0, 100000)]
theorem wiN_x {S T : sS} {h : Int} (y : ∀ j, Xi T 919 j = Xi S 919 j) (x : ∀ j, Xi T 920 j = Xi S 920 j) : ∀ (n : Nat) (o : Int), wiN T h n o = wiN S h n o
  | 0, _ => rfl
  | n + 1, o => by unfold wiN; rw [x, y, wiN_x y x n]
theorem hld_x {S T : sS} {o : Int} (x : ∀ j, Xi T 919 j = Xi S 919 j) (y : ∀ j, Xi T 920 j = Xi S 920 j) : HLD T o ↔ HLD S o := by unfold HLD; rw [x, y]
abbrev BLK (S : sS) (n : Int) : Prop := n = 0 ∨ hoR S 8 n 0 ≠ 0 ∨ HLD S n ∨ wiR S 0 n ≠ 0
def goR (S : sS) (dir : Int) : Int := if Xi S 919 0 = 1 ∧ blR S (Xi S 918 (Xi S 920 0).toNat) 1 ≠ 0 then ldR S (Xi S 920 0) dir else -1
theorem goR_n {S : sS} {dir : Int} (h : ¬ (Xi S 919 0 = 1 ∧ blR S (Xi S 918 (Xi S 920 0).toNat) 1 ≠ 0)) : goR S dir = -1 := by unfold goR; rw [if_neg h]
theorem goR_y {S : sS} {dir z : Int} (h1 : Xi S 919 0 = 1) (h2 : blR S (Xi S 918 (Xi S 920 0).toNat) 1 ≠ 0) (e : z = ldR S (Xi S 920 0) dir) : goR S dir = z := by unfold goR; rw [if_pos ⟨h1, h2⟩, e]
def DSR (S T : sS) (a n z : Int) : Prop :=
  (a = 1 ∧ ((BLK S n ∧ z = 0 ∧ FR l154 S T) ∨ (¬ BLK S n ∧ z = 1 ∧ ∃ W : sS, FR l154 S W ∧ T = uI (uI W 919 n.toNat (Int32.ofInt 4)) 920 n.toNat (Int32.ofInt 0)))) ∨
  (a = 2 ∧ ((¬ HLD S n ∧ z = 0 ∧ T = S) ∨ (HLD S n ∧ z = 1 ∧ T = uI (uI S 919 n.toNat (Int32.ofInt (Xi S 919 0))) 920 n.toNat (Int32.ofInt (Xi S 920 0))))) ∨
  (a = 3 ∧ z = 1 ∧ ∃ W : sS, PRLO S W n 0 ∧ FR lPP S W ∧ OUP 993 904 156 W T [10] ∧ FR lPP W T) ∨
  (a = 4 ∧ ((goR S n = -1 ∧ z = 0 ∧ T = uI S 920 0 (Int32.ofInt (Xi S 920 0))) ∨ (goR S n ≠ -1 ∧ z = 1 ∧ T = uI S 920 0 (Int32.ofInt (goR S n))))) ∨
  ((a < 1 ∨ 4 < a) ∧ z = 1 ∧ T = S)
theorem ds_1n {S T : sS} {a n z : Int} (ha : a = 1) (b : BLK S n) (hz : z = 0) (f : FR l154 S T) : DSR S T a n z := Or.inl ⟨ha, Or.inl ⟨b, hz, f⟩⟩
theorem ds_1y {S W X T : sS} {a n z : Int} (ha : a = 1) (b : ¬ BLK S n) (hz : z = 1) (f : FR l154 S W) (e1 : X = uI W 919 n.toNat (Int32.ofInt 4)) (e2 : T = uI X 920 n.toNat (Int32.ofInt 0)) : DSR S T a n z := Or.inl ⟨ha, Or.inr ⟨b, hz, W, f, by rw [e2, e1]⟩⟩
theorem ds_2n {S : sS} {a n z : Int} (ha : a = 2) (b : ¬ HLD S n) (hz : z = 0) : DSR S S a n z := Or.inr (Or.inl ⟨ha, Or.inl ⟨b, hz, rfl⟩⟩)
theorem ds_2y {S X T : sS} {a n z u v : Int} (ha : a = 2) (b : HLD S n) (hz : z = 1) (e1 : X = uI S 919 n.toNat (Int32.ofInt u)) (e2 : T = uI X 920 n.toNat (Int32.ofInt v)) (hu : u = Xi S 919 0) (hv : v = Xi S 920 0) : DSR S T a n z := Or.inr (Or.inl ⟨ha, Or.inr ⟨b, hz, by rw [e2, e1, hu, hv]⟩⟩)
theorem ds_3 {S W T : sS} {a n z : Int} (ha : a = 3) (hz : z = 1) (p : PRLO S W n 0) (f : FR lPP S W) (o : OUP 993 904 156 W T [10]) (g : FR lPP W T) : DSR S T a n z := Or.inr (Or.inr (Or.inl ⟨ha, hz, W, p, f, o, g⟩))
theorem ds_4 {S T : sS} {a n z t u : Int} (ha : a = 4) (g : goR S n = t) (e : T = uI S 920 0 (Int32.ofInt u)) (h : (t = -1 ∧ z = 0 ∧ u = Xi S 920 0) ∨ (t ≠ -1 ∧ z = 1 ∧ u = t)) : DSR S T a n z := by
  refine Or.inr (Or.inr (Or.inr (Or.inl ⟨ha, ?_⟩)))
  rcases h with ⟨x, y, w⟩ | ⟨x, y, w⟩
  · exact Or.inl ⟨g.trans x, y, by rw [e, w]⟩
  · exact Or.inr ⟨by rw [g]; exact x, y, by rw [e, w, g]⟩
theorem ds_5 {S : sS} {a n z : Int} (ha : a < 1 ∨ 4 < a) (hz : z = 1) : DSR S S a n z := Or.inr (Or.inr (Or.inr (Or.inr ⟨ha, hz, rfl⟩)))

def md_mo_does_2__q : List rec := [(904, 905, 154, 155), (904, 905, 156, 157), (919, 920, 0, 100000), (920, 921, 0, 100000), (993, 994, 0, 100000)]
abbrev Q_mo_does_2__q (S : sS) (action : Int) (noun : Int) : pst := fun r S1 => HI S1 ∧ FR md_mo_does_2__q S S1 ∧ (∃ z : Int, r = some (iv z) ∧ (0 ≤ z ∧ z ≤ 1) ∧ (WYM S1) ∧ (DSR S S1 action noun z))
set_option maxRecDepth 100000 in
theorem t_mo_does_2__q {S : sS} (hH : HI S) (action : Int) (noun : Int) (haction : 0 ≤ action ∧ action ≤ 11) (hnoun : -1 ≤ noun ∧ noun ≤ 23) (hn : 1 ≤ action → action ≤ 3 → 0 ≤ noun) (h2 : 1 ≤ action → action ≤ 3 → noun < Xi S 904 19) (hB : ABV S) (hX : TXM S) (hD : DEFM S) (hM : LXM S) (hW : WYM S) (h23 : 2 ≤ Xi S 904 23) (h32 : 1 ≤ Xi S 904 32) (hnw : NMWD S) (hd : Xi S 904 157 = 0) (d : Nat) : Mt lay0 (d + 26) m_mo_does_2 [.ref 904, iv action, iv noun] S (Q_mo_does_2__q S action noun) := by
  refine Mt_R rfl rfl ?_
  have hF : FR md_mo_does_2__q S S := FR.rf
  have w1 : 0 ≤ Xi S 904 157 ∧ Xi S 904 157 ≤ 1 := hH.c _ _
  have w2 : 0 ≤ Xi S 904 19 ∧ Xi S 904 19 ≤ 24 := hH.c _ _
  have w3 : 0 ≤ Xi S 904 23 ∧ Xi S 904 23 ≤ 24 := hH.c _ _
  have w4 : 0 ≤ Xi S 904 32 ∧ Xi S 904 32 ≤ 12 := hH.c _ _
  have hc3 : 0 ≤ Xi S 904 23 ∧ Xi S 904 23 ≤ 24 := hH.c _ _
  have hc19 : 0 ≤ Xi S 904 19 ∧ Xi S 904 19 ≤ 24 := hH.c _ _
  have hc32 : 0 ≤ Xi S 904 32 ∧ Xi S 904 32 ≤ 12 := hH.c _ _
  refine l_iload_n rfl rfl ?_
  refine l_tsw rfl rfl rfl rfl (by unfold rg; omega) (fun w5 => ?_) (fun ii tt hii w5 => ?_)
  · refine l_iconst rfl ?_
    refine l_ireturn rfl rfl ?_
    exact ⟨hH, hF, _, rfl, ⟨by omega, by omega⟩, (by first | exact W78 | exact W114 | exact W196 | exact W126 | exact W40 | exact hW | assumption | exact WYM_FR hF rfl hW), (by first | (have t := Y78; exact Y78) | (have t := Y114; exact Y114) | (have t := Y126; exact Y126) | (have t := Y196; exact ds_4 (by omega) Y196 rfl (by omega)) | (have t := F40; exact ds_1n (by omega) (by first | exact Or.inr (Or.inl (by omega)) | exact Or.inr (Or.inr (Or.inl (B48.1 (by omega)))) | exact Or.inr (Or.inr (Or.inr (by omega)))) rfl F40) | (have t := q83; exact ds_2n (by omega) (q83.2 (by omega)) rfl) | exact ds_1n (by omega) (Or.inl (by omega)) rfl FR.rf | exact ds_5 (by omega) rfl)⟩
  · match ii, hii with
    | 0, hii =>
      cases hii
      have w6 : action = 1 := by simpa using w5
      refine l_iload_n rfl rfl ?_
      refine l_if_eq rfl rfl (by unfold rg; omega) (fun w7 => ?_) (fun w8 => ?_)
      · refine l_iconst rfl ?_
        refine l_ireturn rfl rfl ?_
        exact ⟨hH, hF, _, rfl, ⟨by omega, by omega⟩, (by first | exact W78 | exact W114 | exact W196 | exact W126 | exact W40 | exact hW | assumption | exact WYM_FR hF rfl hW), (by first | (have t := Y78; exact Y78) | (have t := Y114; exact Y114) | (have t := Y126; exact Y126) | (have t := Y196; exact ds_4 (by omega) Y196 rfl (by omega)) | (have t := F40; exact ds_1n (by omega) (by first | exact Or.inr (Or.inl (by omega)) | exact Or.inr (Or.inr (Or.inl (B48.1 (by omega)))) | exact Or.inr (Or.inr (Or.inr (by omega)))) rfl F40) | (have t := q83; exact ds_2n (by omega) (q83.2 (by omega)) rfl) | exact ds_1n (by omega) (Or.inl (by omega)) rfl FR.rf | exact ds_5 (by omega) rfl)⟩
      · refine l_aload_n rfl rfl ?_
        refine l_iload_n rfl rfl ?_
        refine l_iconst rfl ?_
        refine l_iconst rfl ?_
        refine l_callV rfl rfl rfl (t_mo_holds__q hH noun 0 0 ⟨by omega, by omega⟩ ⟨by omega, by omega⟩ ⟨by omega, by omega⟩ (Or.inl (by omega)) (by first | assumption | exact (ABV_FR hF rfl (by assumption : ABV S))) (by first | assumption | exact (TXM_FR hF rfl (by assumption : TXM S))) (by first | assumption | exact (DEFM_FR hF rfl (by assumption : DEFM S))) (by omega) _) ?_
        rintro _ T1 ⟨hHT1, w11, z10, rfl, w10, q40⟩
        have hFT1 : FR md_mo_does_2__q S T1 := FR.tr hF w11 rfl
        show Rl _ _ _ _ _ [iv z10] _ _
        have W40 : WYM T1 := WYM_FR (by assumption : FR md_mo_holds S T1) rfl hW
        have F40 : FR l154 S T1 := by assumption
        have Q40 : z10 = hoR S 8 noun 0 := q40
        refine l_if_ne rfl rfl (by unfold rg; omega) (fun w12 => ?_) (fun w13 => ?_)
        · refine l_iconst rfl ?_
          refine l_ireturn rfl rfl ?_
          exact ⟨hHT1, hFT1, _, rfl, ⟨by omega, by omega⟩, (by first | exact W78 | exact W114 | exact W196 | exact W126 | exact W40 | exact hW | assumption | exact WYM_FR hFT1 rfl hW), (by first | (have t := Y78; exact Y78) | (have t := Y114; exact Y114) | (have t := Y126; exact Y126) | (have t := Y196; exact ds_4 (by omega) Y196 rfl (by omega)) | (have t := F40; exact ds_1n (by omega) (by first | exact Or.inr (Or.inl (by omega)) | exact Or.inr (Or.inr (Or.inl (B48.1 (by omega)))) | exact Or.inr (Or.inr (Or.inr (by omega)))) rfl F40) | (have t := q83; exact ds_2n (by omega) (q83.2 (by omega)) rfl) | exact ds_1n (by omega) (Or.inl (by omega)) rfl FR.rf | exact ds_5 (by omega) rfl)⟩
        · refine l_aload_n rfl rfl ?_
          refine l_iload_n rfl rfl ?_
          refine l_callV rfl rfl rfl (t_mo_isHeld__q hHT1 noun ⟨by omega, by omega⟩ _) ?_
          rintro _ _ ⟨rfl, z14, rfl, w14, q48⟩
          show Rl _ _ _ _ _ [iv z14] _ _
          have B48 : (z14 = 1 → HLD S noun) ∧ (z14 = 0 → ¬ HLD S noun) := ⟨fun q => (hld_x (fun j => (F40.cx 919 rfl j).1) (fun j => (F40.cx 920 rfl j).1)).1 (q48.1 q), fun q x => q48.2 q ((hld_x (fun j => (F40.cx 919 rfl j).1) (fun j => (F40.cx 920 rfl j).1)).2 x)⟩
          refine l_if_ne rfl rfl (by unfold rg; omega) (fun w15 => ?_) (fun w16 => ?_)
          · refine l_iconst rfl ?_
            refine l_ireturn rfl rfl ?_
            exact ⟨hHT1, hFT1, _, rfl, ⟨by omega, by omega⟩, (by first | exact W78 | exact W114 | exact W196 | exact W126 | exact W40 | exact hW | assumption | exact WYM_FR hFT1 rfl hW), (by first | (have t := Y78; exact Y78) | (have t := Y114; exact Y114) | (have t := Y126; exact Y126) | (have t := Y196; exact ds_4 (by omega) Y196 rfl (by omega)) | (have t := F40; exact ds_1n (by omega) (by first | exact Or.inr (Or.inl (by omega)) | exact Or.inr (Or.inr (Or.inl (B48.1 (by omega)))) | exact Or.inr (Or.inr (Or.inr (by omega)))) rfl F40) | (have t := q83; exact ds_2n (by omega) (q83.2 (by omega)) rfl) | exact ds_1n (by omega) (Or.inl (by omega)) rfl FR.rf | exact ds_5 (by omega) rfl)⟩
          · refine l_aload_n rfl rfl ?_
            refine l_iconst rfl ?_
            refine l_iload_n rfl rfl ?_
            refine l_callV rfl rfl rfl (t_mo_isWithin__q hHT1 0 noun ⟨by omega, by omega⟩ ⟨by omega, by omega⟩ _) ?_
            rintro _ _ ⟨rfl, z17, rfl, w17, f57⟩
            show Rl _ _ _ _ _ [iv z17] _ _
            have B57 : z17 = wiR S 0 noun := f57.trans (wiN_x (fun j => (F40.cx 919 rfl j).1) (fun j => (F40.cx 920 rfl j).1) 25 0)
            refine l_if_eq rfl rfl (by unfold rg; omega) (fun w18 => ?_) (fun w19 => ?_)
            · refine l_aload_n rfl rfl ?_
              refine l_gfr rfl rfl rfl rfl rfl (hHT1.r 904 21 919 rfl) ?_
              refine l_iload_n rfl rfl ?_
              refine l_iconst rfl ?_
              refine l_iastore (n := 24) rfl rfl (by omega) (by omega) (by unfold rg; omega) ?_
              obtain ⟨U2, eU2⟩ : ∃ T : sS, T = uI T1 919 ((noun).toNat) (Int32.ofInt 4) := ⟨_, rfl⟩
              rw [← eU2]
              have hHU2 : HI U2 := by rw [eU2]; exact HI_w hHT1 (show 0 ≤ 4 by omega) (show 4 ≤ 5 by omega)
              have hFU2 : FR md_mo_does_2__q S U2 := by rw [eU2]; exact FR.wI hFT1 (mdf_i (r := (919, 920, 0, 100000)) (List.mem_of_getElem? (i := 2) rfl) (inR_i (by omega) (by omega) (by omega) (by omega)))
              have w20 : Xi U2 919 ((noun).toNat) = 4 := by rw [eU2]; exact Xi_same (by unfold rg; omega)
              refine l_aload_n rfl rfl ?_
              refine l_gfr rfl rfl rfl rfl rfl (hHU2.r 904 22 920 rfl) ?_
              refine l_iload_n rfl rfl ?_
              refine l_iconst rfl ?_
              refine l_iastore (n := 24) rfl rfl (by omega) (by omega) (by unfold rg; omega) ?_
              obtain ⟨U3, eU3⟩ : ∃ T : sS, T = uI U2 920 ((noun).toNat) (Int32.ofInt 0) := ⟨_, rfl⟩
              rw [← eU3]
              have hHU3 : HI U3 := by rw [eU3]; exact HI_w hHU2 (show -1 ≤ 0 by omega) (show 0 ≤ 23 by omega)
              have hFU3 : FR md_mo_does_2__q S U3 := by rw [eU3]; exact FR.wI hFU2 (mdf_i (r := (920, 921, 0, 100000)) (List.mem_of_getElem? (i := 3) rfl) (inR_i (by omega) (by omega) (by omega) (by omega)))
              have w21 : Xi U3 920 ((noun).toNat) = 0 := by rw [eU3]; exact Xi_same (by unfold rg; omega)
              have W78 : WYM U3 := wym_w eU2 eU3 (fun _ => by rw [eU3, Xi_same (by unfold rg; omega)]; omega) W40
              have Y78 : DSR S U3 action noun 1 := ds_1y (by omega) (fun q => q.elim (fun q => absurd q (by omega)) (fun q => q.elim (fun q => absurd q (by omega)) (fun q => q.elim (fun q => absurd q (B48.2 (by omega))) (fun q => absurd q (by omega))))) rfl F40 eU2 eU3
              refine l_iconst rfl ?_
              refine l_ireturn rfl rfl ?_
              exact ⟨hHU3, hFU3, _, rfl, ⟨by omega, by omega⟩, (by first | exact W78 | exact W114 | exact W196 | exact W126 | exact W40 | exact hW | assumption | exact WYM_FR hFU3 rfl hW), (by first | (have t := Y78; exact Y78) | (have t := Y114; exact Y114) | (have t := Y126; exact Y126) | (have t := Y196; exact ds_4 (by omega) Y196 eU3 (by omega)) | (have t := F40; exact ds_1n (by omega) (by first | exact Or.inr (Or.inl (by omega)) | exact Or.inr (Or.inr (Or.inl (B48.1 (by omega)))) | exact Or.inr (Or.inr (Or.inr (by omega)))) rfl F40) | (have t := q83; exact ds_2n (by omega) (q83.2 (by omega)) rfl) | exact ds_1n (by omega) (Or.inl (by omega)) rfl FR.rf | exact ds_5 (by omega) rfl)⟩
            · refine l_iconst rfl ?_
              refine l_ireturn rfl rfl ?_
              exact ⟨hHT1, hFT1, _, rfl, ⟨by omega, by omega⟩, (by first | exact W78 | exact W114 | exact W196 | exact W126 | exact W40 | exact hW | assumption | exact WYM_FR hFT1 rfl hW), (by first | (have t := Y78; exact Y78) | (have t := Y114; exact Y114) | (have t := Y126; exact Y126) | (have t := Y196; exact ds_4 (by omega) Y196 rfl (by omega)) | (have t := F40; exact ds_1n (by omega) (by first | exact Or.inr (Or.inl (by omega)) | exact Or.inr (Or.inr (Or.inl (B48.1 (by omega)))) | exact Or.inr (Or.inr (Or.inr (by omega)))) rfl F40) | (have t := q83; exact ds_2n (by omega) (q83.2 (by omega)) rfl) | exact ds_1n (by omega) (Or.inl (by omega)) rfl FR.rf | exact ds_5 (by omega) rfl)⟩
    | 1, hii =>
      cases hii
      have w22 : action = 2 := by simpa using w5
      refine l_aload_n rfl rfl ?_
      refine l_iload_n rfl rfl ?_
      refine l_callV rfl rfl rfl (t_mo_isHeld__q hH noun ⟨by omega, by omega⟩ _) ?_
      rintro _ _ ⟨rfl, z23, rfl, w23, q83⟩
      show Rl _ _ _ _ _ [iv z23] _ _
      refine l_if_ne rfl rfl (by unfold rg; omega) (fun w24 => ?_) (fun w25 => ?_)
      · refine l_aload_n rfl rfl ?_
        refine l_gfr rfl rfl rfl rfl rfl (hH.r 904 21 919 rfl) ?_
        refine l_iload_n rfl rfl ?_
        refine l_aload_n rfl rfl ?_
        refine l_gfr rfl rfl rfl rfl rfl (hH.r 904 21 919 rfl) ?_
        refine l_iconst rfl ?_
        refine l_iaload (n := 24) rfl rfl (by omega) (by omega) (by unfold rg; omega) ?_
        have w26 : 0 ≤ (Xi S 919 ((0 : Int).toNat)) ∧ (Xi S 919 ((0 : Int).toNat)) ≤ 5 := hH.c _ _
        have w27 : (Xi S 919 ((0 : Int).toNat)) = Xi S 919 0 := rfl
        refine l_iastore (n := 24) rfl rfl (by omega) (by omega) (by unfold rg; omega) ?_
        obtain ⟨U4, eU4⟩ : ∃ T : sS, T = uI S 919 ((noun).toNat) (Int32.ofInt (Xi S 919 ((0 : Int).toNat))) := ⟨_, rfl⟩
        rw [← eU4]
        have hHU4 : HI U4 := by rw [eU4]; exact HI_w hH (show 0 ≤ (Xi S 919 ((0 : Int).toNat)) by omega) (show (Xi S 919 ((0 : Int).toNat)) ≤ 5 by omega)
        have hFU4 : FR md_mo_does_2__q S U4 := by rw [eU4]; exact FR.wI hF (mdf_i (r := (919, 920, 0, 100000)) (List.mem_of_getElem? (i := 2) rfl) (inR_i (by omega) (by omega) (by omega) (by omega)))
        have w28 : Xi U4 919 ((noun).toNat) = (Xi S 919 ((0 : Int).toNat)) := by rw [eU4]; exact Xi_same (by unfold rg; omega)
        refine l_aload_n rfl rfl ?_
        refine l_gfr rfl rfl rfl rfl rfl (hHU4.r 904 22 920 rfl) ?_
        refine l_iload_n rfl rfl ?_
        refine l_aload_n rfl rfl ?_
        refine l_gfr rfl rfl rfl rfl rfl (hHU4.r 904 22 920 rfl) ?_
        refine l_iconst rfl ?_
        refine l_iaload (n := 24) rfl rfl (by omega) (by omega) (by unfold rg; omega) ?_
        have w29 : -1 ≤ (Xi U4 920 ((0 : Int).toNat)) ∧ (Xi U4 920 ((0 : Int).toNat)) ≤ 23 := hHU4.c _ _
        have w30 : (Xi U4 920 ((0 : Int).toNat)) = Xi U4 920 0 := rfl
        refine l_iastore (n := 24) rfl rfl (by omega) (by omega) (by unfold rg; omega) ?_
        obtain ⟨U5, eU5⟩ : ∃ T : sS, T = uI U4 920 ((noun).toNat) (Int32.ofInt (Xi U4 920 ((0 : Int).toNat))) := ⟨_, rfl⟩
        rw [← eU5]
        have hHU5 : HI U5 := by rw [eU5]; exact HI_w hHU4 (show -1 ≤ (Xi U4 920 ((0 : Int).toNat)) by omega) (show (Xi U4 920 ((0 : Int).toNat)) ≤ 23 by omega)
        have hFU5 : FR md_mo_does_2__q S U5 := by rw [eU5]; exact FR.wI hFU4 (mdf_i (r := (920, 921, 0, 100000)) (List.mem_of_getElem? (i := 3) rfl) (inR_i (by omega) (by omega) (by omega) (by omega)))
        have w31 : Xi U5 920 ((noun).toNat) = (Xi U4 920 ((0 : Int).toNat)) := by rw [eU5]; exact Xi_same (by unfold rg; omega)
        have W114 : WYM U5 := wym_w eU4 eU5 (fun q => by have t := hW 0 (by omega); have y : Xi U4 920 0 = Xi S 920 0 := (by rw [eU4, Xi_ne (by omega)]); rw [eU5, Xi_ne (by omega)] at q; omega) hW
        have Y114 : DSR S U5 action noun 1 := ds_2y (by omega) (q83.1 (by omega)) rfl eU4 eU5 (by first | rfl | omega) (by first | rfl | exact ((FR_e eU4).cx 920 rfl 0).1 | omega)
        refine l_iconst rfl ?_
        refine l_ireturn rfl rfl ?_
        exact ⟨hHU5, hFU5, _, rfl, ⟨by omega, by omega⟩, (by first | exact W78 | exact W114 | exact W196 | exact W126 | exact W40 | exact hW | assumption | exact WYM_FR hFU5 rfl hW), (by first | (have t := Y78; exact Y78) | (have t := Y114; exact Y114) | (have t := Y126; exact Y126) | (have t := Y196; exact ds_4 (by omega) Y196 eU5 (by omega)) | (have t := F40; exact ds_1n (by omega) (by first | exact Or.inr (Or.inl (by omega)) | exact Or.inr (Or.inr (Or.inl (B48.1 (by omega)))) | exact Or.inr (Or.inr (Or.inr (by omega)))) rfl F40) | (have t := q83; exact ds_2n (by omega) (q83.2 (by omega)) rfl) | exact ds_1n (by omega) (Or.inl (by omega)) rfl FR.rf | exact ds_5 (by omega) rfl)⟩
      · refine l_iconst rfl ?_
        refine l_ireturn rfl rfl ?_
        exact ⟨hH, hF, _, rfl, ⟨by omega, by omega⟩, (by first | exact W78 | exact W114 | exact W196 | exact W126 | exact W40 | exact hW | assumption | exact WYM_FR hF rfl hW), (by first | (have t := Y78; exact Y78) | (have t := Y114; exact Y114) | (have t := Y126; exact Y126) | (have t := Y196; exact ds_4 (by omega) Y196 rfl (by omega)) | (have t := F40; exact ds_1n (by omega) (by first | exact Or.inr (Or.inl (by omega)) | exact Or.inr (Or.inr (Or.inl (B48.1 (by omega)))) | exact Or.inr (Or.inr (Or.inr (by omega)))) rfl F40) | (have t := q83; exact ds_2n (by omega) (q83.2 (by omega)) rfl) | exact ds_1n (by omega) (Or.inl (by omega)) rfl FR.rf | exact ds_5 (by omega) rfl)⟩
    | 2, hii =>
      cases hii
      have w32 : action = 3 := by simpa using w5
      refine l_aload_n rfl rfl ?_
      refine l_iload_n rfl rfl ?_
      refine l_iconst rfl ?_
      refine l_callV rfl rfl rfl (t_mo_putProperty__q hH noun 0 ⟨by omega, by omega⟩ ⟨by omega, by omega⟩ (by first | assumption | exact (ABV_FR hF rfl (by assumption : ABV S))) (by first | assumption | exact (TXM_FR hF rfl (by assumption : TXM S))) (by omega) (by first | assumption | omega) (by first | exact hd | (rw [hF.x 904 157 rfl]; exact hd)) _) ?_
      rintro _ T6 ⟨hHT6, w36, rfl, o120⟩
      have hFT6 : FR md_mo_does_2__q S T6 := FR.tr hF w36 rfl
      show Rl _ _ _ _ _ [] _ _
      have W120 : WYM T6 := WYM_FR (by assumption : FR md_mo_putProperty S T6) rfl hW
      have F120 : FR lPP S T6 := by assumption
      refine l_aload_n rfl rfl ?_
      refine l_bipush rfl rfl ?_
      have w37 : Xi T6 904 157 = Xi S 904 157 := (show Xi T6 904 157 = Xi S 904 157 from w36.x _ _ rfl)
      refine l_callV rfl rfl rfl (t_mo_put__q hHT6 10 ⟨by omega, by omega⟩ _) ?_
      rintro _ T7 ⟨hHT7, w40, rfl, o126, d126⟩
      have hFT7 : FR md_mo_does_2__q S T7 := FR.tr hFT6 w40 rfl
      show Rl _ _ _ _ _ [] _ _
      have W126 : WYM T7 := WYM_FR (by assumption : FR md_mo_put T6 T7) rfl W120
      have Y126 : DSR S T7 action noun 1 := ds_3 (by omega) rfl o120 F120 (o126 (by rw [F120.x 904 157 rfl]; exact hd)) ((by assumption : FR md_mo_put__q _ T7).up rfl)
      refine l_iconst rfl ?_
      refine l_ireturn rfl rfl ?_
      exact ⟨hHT7, hFT7, _, rfl, ⟨by omega, by omega⟩, (by first | exact W78 | exact W114 | exact W196 | exact W126 | exact W40 | exact hW | assumption | exact WYM_FR hFT7 rfl hW), (by first | (have t := Y78; exact Y78) | (have t := Y114; exact Y114) | (have t := Y126; exact Y126) | (have t := Y196; exact ds_4 (by omega) Y196 rfl (by omega)) | (have t := F40; exact ds_1n (by omega) (by first | exact Or.inr (Or.inl (by omega)) | exact Or.inr (Or.inr (Or.inl (B48.1 (by omega)))) | exact Or.inr (Or.inr (Or.inr (by omega)))) rfl F40) | (have t := q83; exact ds_2n (by omega) (q83.2 (by omega)) rfl) | exact ds_1n (by omega) (Or.inl (by omega)) rfl FR.rf | exact ds_5 (by omega) rfl)⟩
    | 3, hii =>
      cases hii
      have w41 : action = 4 := by simpa using w5
      refine l_aload_n rfl rfl ?_
      refine l_gfr rfl rfl rfl rfl rfl (hH.r 904 21 919 rfl) ?_
      refine l_iconst rfl ?_
      refine l_iaload (n := 24) rfl rfl (by omega) (by omega) (by unfold rg; omega) ?_
      have w42 : 0 ≤ (Xi S 919 ((0 : Int).toNat)) ∧ (Xi S 919 ((0 : Int).toNat)) ≤ 5 := hH.c _ _
      have w43 : (Xi S 919 ((0 : Int).toNat)) = Xi S 919 0 := rfl
      refine l_iconst rfl ?_
      refine l_icmp_ne rfl rfl (by unfold rg; omega) (by unfold rg; omega) (fun w44 => ?_) (fun w45 => ?_)
      · refine l_iconst rfl ?_
        refine l_istore_n rfl rfl rfl ?_
        have Y175 : goR S noun = (-1) := by first | (have t := q168; exact goR_y (by omega) (by omega) q168) | exact goR_n (fun q => by have := q.1; have := q.2; omega)
        refine l_aload_n rfl rfl ?_
        refine l_gfr rfl rfl rfl rfl rfl (hH.r 904 22 920 rfl) ?_
        refine l_iconst rfl ?_
        refine l_iload_n rfl rfl ?_
        refine l_iconst rfl ?_
        refine l_icmp_ne rfl rfl (by unfold rg; omega) (by unfold rg; omega) (fun w46 => absurd w46 (by omega)) (fun w47 => ?_)
        · refine l_aload_n rfl rfl ?_
          refine l_gfr rfl rfl rfl rfl rfl (hH.r 904 22 920 rfl) ?_
          refine l_iconst rfl ?_
          refine l_iaload (n := 24) rfl rfl (by omega) (by omega) (by unfold rg; omega) ?_
          have w48 : -1 ≤ (Xi S 920 ((0 : Int).toNat)) ∧ (Xi S 920 ((0 : Int).toNat)) ≤ 23 := hH.c _ _
          have w49 : (Xi S 920 ((0 : Int).toNat)) = Xi S 920 0 := rfl
          refine l_goto rfl rfl ?_
          refine l_iastore (n := 24) rfl rfl (by omega) (by omega) (by unfold rg; omega) ?_
          obtain ⟨U8, eU8⟩ : ∃ T : sS, T = uI S 920 ((0 : Int).toNat) (Int32.ofInt (Xi S 920 ((0 : Int).toNat))) := ⟨_, rfl⟩
          rw [← eU8]
          have hHU8 : HI U8 := by rw [eU8]; exact HI_w hH (show -1 ≤ (Xi S 920 ((0 : Int).toNat)) by omega) (show (Xi S 920 ((0 : Int).toNat)) ≤ 23 by omega)
          have hFU8 : FR md_mo_does_2__q S U8 := by rw [eU8]; exact FR.wI hF (mdf_i (r := (920, 921, 0, 100000)) (List.mem_of_getElem? (i := 3) rfl) (inR_i (by omega) (by omega) (by omega) (by omega)))
          have w50 : Xi U8 920 ((0 : Int).toNat) = (Xi S 920 ((0 : Int).toNat)) := by rw [eU8]; exact Xi_same (by unfold rg; omega)
          have W196 : WYM U8 := by first | exact wym_s eU8 rfl hW | exact wym_t eU8 (by omega) hW
          have Y196 := Y175
          refine l_iload_n rfl rfl ?_
          refine l_iconst rfl ?_
          refine l_icmp_eq rfl rfl (by unfold rg; omega) (by unfold rg; omega) (fun w51 => ?_) (fun w52 => absurd w52 (by omega))
          · refine l_iconst rfl ?_
            refine l_ireturn rfl rfl ?_
            exact ⟨hHU8, hFU8, _, rfl, ⟨by omega, by omega⟩, (by first | exact W78 | exact W114 | exact W196 | exact W126 | exact W40 | exact hW | assumption | exact WYM_FR hFU8 rfl hW), (by first | (have t := Y78; exact Y78) | (have t := Y114; exact Y114) | (have t := Y126; exact Y126) | (have t := Y196; exact ds_4 (by omega) Y196 eU8 (by omega)) | (have t := F40; exact ds_1n (by omega) (by first | exact Or.inr (Or.inl (by omega)) | exact Or.inr (Or.inr (Or.inl (B48.1 (by omega)))) | exact Or.inr (Or.inr (Or.inr (by omega)))) rfl F40) | (have t := q83; exact ds_2n (by omega) (q83.2 (by omega)) rfl) | exact ds_1n (by omega) (Or.inl (by omega)) rfl FR.rf | exact ds_5 (by omega) rfl)⟩
      · refine l_aload_n rfl rfl ?_
        refine l_aload_n rfl rfl ?_
        refine l_gfr rfl rfl rfl rfl rfl (hH.r 904 20 918 rfl) ?_
        refine l_aload_n rfl rfl ?_
        refine l_gfr rfl rfl rfl rfl rfl (hH.r 904 22 920 rfl) ?_
        refine l_iconst rfl ?_
        refine l_iaload (n := 24) rfl rfl (by omega) (by omega) (by unfold rg; omega) ?_
        have w53 : -1 ≤ (Xi S 920 ((0 : Int).toNat)) ∧ (Xi S 920 ((0 : Int).toNat)) ≤ 23 := hH.c _ _
        have w54 : (Xi S 920 ((0 : Int).toNat)) = Xi S 920 0 := rfl
        have t151 : Xi S 919 0 ≠ 0 → 0 ≤ Xi S 920 0 := hW 0 (by omega)
        refine l_iaload (n := 24) rfl rfl (by omega) (by omega) (by unfold rg; omega) ?_
        have w55 : 0 ≤ (Xi S 918 (((Xi S 920 ((0 : Int).toNat))).toNat)) ∧ (Xi S 918 (((Xi S 920 ((0 : Int).toNat))).toNat)) ≤ 15 := hH.c _ _
        refine l_iconst rfl ?_
        refine l_callV rfl rfl rfl (t_mo_isBelow__2 hH (Xi S 918 (((Xi S 920 ((0 : Int).toNat))).toNat)) 1 ⟨by omega, by omega⟩ ⟨by omega, by omega⟩ (by first | assumption | exact (ABV_FR hF rfl (by assumption : ABV S))) _) ?_
        rintro _ _ ⟨rfl, z57, rfl, w57, w56, f154⟩
        show Rl _ _ _ _ _ [iv z57] _ _
        have B154 : z57 = blR S (Xi S 918 (Xi S 920 0).toNat) 1 := f154
        refine l_if_eq rfl rfl (by unfold rg; omega) (fun w58 => ?_) (fun w59 => ?_)
        · refine l_iconst rfl ?_
          refine l_istore_n rfl rfl rfl ?_
          have Y175 : goR S noun = (-1) := by first | (have t := q168; exact goR_y (by omega) (by omega) q168) | exact goR_n (fun q => by have := q.1; have := q.2; omega)
          refine l_aload_n rfl rfl ?_
          refine l_gfr rfl rfl rfl rfl rfl (hH.r 904 22 920 rfl) ?_
          refine l_iconst rfl ?_
          refine l_iload_n rfl rfl ?_
          refine l_iconst rfl ?_
          refine l_icmp_ne rfl rfl (by unfold rg; omega) (by unfold rg; omega) (fun w60 => absurd w60 (by omega)) (fun w61 => ?_)
          · refine l_aload_n rfl rfl ?_
            refine l_gfr rfl rfl rfl rfl rfl (hH.r 904 22 920 rfl) ?_
            refine l_iconst rfl ?_
            refine l_iaload (n := 24) rfl rfl (by omega) (by omega) (by unfold rg; omega) ?_
            refine l_goto rfl rfl ?_
            refine l_iastore (n := 24) rfl rfl (by omega) (by omega) (by unfold rg; omega) ?_
            obtain ⟨U9, eU9⟩ : ∃ T : sS, T = uI S 920 ((0 : Int).toNat) (Int32.ofInt (Xi S 920 ((0 : Int).toNat))) := ⟨_, rfl⟩
            rw [← eU9]
            have hHU9 : HI U9 := by rw [eU9]; exact HI_w hH (show -1 ≤ (Xi S 920 ((0 : Int).toNat)) by omega) (show (Xi S 920 ((0 : Int).toNat)) ≤ 23 by omega)
            have hFU9 : FR md_mo_does_2__q S U9 := by rw [eU9]; exact FR.wI hF (mdf_i (r := (920, 921, 0, 100000)) (List.mem_of_getElem? (i := 3) rfl) (inR_i (by omega) (by omega) (by omega) (by omega)))
            have w62 : Xi U9 920 ((0 : Int).toNat) = (Xi S 920 ((0 : Int).toNat)) := by rw [eU9]; exact Xi_same (by unfold rg; omega)
            have W196 : WYM U9 := by first | exact wym_s eU9 rfl hW | exact wym_t eU9 (by omega) hW
            have Y196 := Y175
            refine l_iload_n rfl rfl ?_
            refine l_iconst rfl ?_
            refine l_icmp_eq rfl rfl (by unfold rg; omega) (by unfold rg; omega) (fun w63 => ?_) (fun w64 => absurd w64 (by omega))
            · refine l_iconst rfl ?_
              refine l_ireturn rfl rfl ?_
              exact ⟨hHU9, hFU9, _, rfl, ⟨by omega, by omega⟩, (by first | exact W78 | exact W114 | exact W196 | exact W126 | exact W40 | exact hW | assumption | exact WYM_FR hFU9 rfl hW), (by first | (have t := Y78; exact Y78) | (have t := Y114; exact Y114) | (have t := Y126; exact Y126) | (have t := Y196; exact ds_4 (by omega) Y196 eU9 (by omega)) | (have t := F40; exact ds_1n (by omega) (by first | exact Or.inr (Or.inl (by omega)) | exact Or.inr (Or.inr (Or.inl (B48.1 (by omega)))) | exact Or.inr (Or.inr (Or.inr (by omega)))) rfl F40) | (have t := q83; exact ds_2n (by omega) (q83.2 (by omega)) rfl) | exact ds_1n (by omega) (Or.inl (by omega)) rfl FR.rf | exact ds_5 (by omega) rfl)⟩
        · refine l_aload_n rfl rfl ?_
          refine l_aload_n rfl rfl ?_
          refine l_gfr rfl rfl rfl rfl rfl (hH.r 904 22 920 rfl) ?_
          refine l_iconst rfl ?_
          refine l_iaload (n := 24) rfl rfl (by omega) (by omega) (by unfold rg; omega) ?_
          refine l_iload_n rfl rfl ?_
          refine l_callV rfl rfl rfl (t_mo_leadsTo__q hH (Xi S 920 ((0 : Int).toNat)) noun ⟨by omega, by omega⟩ ⟨by omega, by omega⟩ _) ?_
          rintro _ _ ⟨rfl, z65, rfl, w65, q168⟩
          show Rl _ _ _ _ _ [iv z65] _ _
          refine l_goto rfl rfl ?_
          refine l_istore_n rfl rfl rfl ?_
          have Y175 : goR S noun = z65 := by first | (have t := q168; exact goR_y (by omega) (by omega) q168) | exact goR_n (fun q => by have := q.1; have := q.2; omega)
          refine l_aload_n rfl rfl ?_
          refine l_gfr rfl rfl rfl rfl rfl (hH.r 904 22 920 rfl) ?_
          refine l_iconst rfl ?_
          refine l_iload_n rfl rfl ?_
          refine l_iconst rfl ?_
          refine l_icmp_ne rfl rfl (by unfold rg; omega) (by unfold rg; omega) (fun w66 => ?_) (fun w67 => ?_)
          · refine l_iload_n rfl rfl ?_
            refine l_iastore (n := 24) rfl rfl (by omega) (by omega) (by unfold rg; omega) ?_
            obtain ⟨U10, eU10⟩ : ∃ T : sS, T = uI S 920 ((0 : Int).toNat) (Int32.ofInt z65) := ⟨_, rfl⟩
            rw [← eU10]
            have hHU10 : HI U10 := by rw [eU10]; exact HI_w hH (show -1 ≤ z65 by omega) (show z65 ≤ 23 by omega)
            have hFU10 : FR md_mo_does_2__q S U10 := by rw [eU10]; exact FR.wI hF (mdf_i (r := (920, 921, 0, 100000)) (List.mem_of_getElem? (i := 3) rfl) (inR_i (by omega) (by omega) (by omega) (by omega)))
            have w68 : Xi U10 920 ((0 : Int).toNat) = z65 := by rw [eU10]; exact Xi_same (by unfold rg; omega)
            have W196 : WYM U10 := by first | exact wym_s eU10 rfl hW | exact wym_t eU10 (by omega) hW
            have Y196 := Y175
            refine l_iload_n rfl rfl ?_
            refine l_iconst rfl ?_
            refine l_icmp_eq rfl rfl (by unfold rg; omega) (by unfold rg; omega) (fun w69 => ?_) (fun w70 => ?_)
            · refine l_iconst rfl ?_
              refine l_ireturn rfl rfl ?_
              exact ⟨hHU10, hFU10, _, rfl, ⟨by omega, by omega⟩, (by first | exact W78 | exact W114 | exact W196 | exact W126 | exact W40 | exact hW | assumption | exact WYM_FR hFU10 rfl hW), (by first | (have t := Y78; exact Y78) | (have t := Y114; exact Y114) | (have t := Y126; exact Y126) | (have t := Y196; exact ds_4 (by omega) Y196 eU10 (by omega)) | (have t := F40; exact ds_1n (by omega) (by first | exact Or.inr (Or.inl (by omega)) | exact Or.inr (Or.inr (Or.inl (B48.1 (by omega)))) | exact Or.inr (Or.inr (Or.inr (by omega)))) rfl F40) | (have t := q83; exact ds_2n (by omega) (q83.2 (by omega)) rfl) | exact ds_1n (by omega) (Or.inl (by omega)) rfl FR.rf | exact ds_5 (by omega) rfl)⟩
            · refine l_iconst rfl ?_
              refine l_goto rfl rfl ?_
              refine l_ireturn rfl rfl ?_
              exact ⟨hHU10, hFU10, _, rfl, ⟨by omega, by omega⟩, (by first | exact W78 | exact W114 | exact W196 | exact W126 | exact W40 | exact hW | assumption | exact WYM_FR hFU10 rfl hW), (by first | (have t := Y78; exact Y78) | (have t := Y114; exact Y114) | (have t := Y126; exact Y126) | (have t := Y196; exact ds_4 (by omega) Y196 eU10 (by omega)) | (have t := F40; exact ds_1n (by omega) (by first | exact Or.inr (Or.inl (by omega)) | exact Or.inr (Or.inr (Or.inl (B48.1 (by omega)))) | exact Or.inr (Or.inr (Or.inr (by omega)))) rfl F40) | (have t := q83; exact ds_2n (by omega) (q83.2 (by omega)) rfl) | exact ds_1n (by omega) (Or.inl (by omega)) rfl FR.rf | exact ds_5 (by omega) rfl)⟩
          · refine l_aload_n rfl rfl ?_
            refine l_gfr rfl rfl rfl rfl rfl (hH.r 904 22 920 rfl) ?_
            refine l_iconst rfl ?_
            refine l_iaload (n := 24) rfl rfl (by omega) (by omega) (by unfold rg; omega) ?_
            refine l_goto rfl rfl ?_
            refine l_iastore (n := 24) rfl rfl (by omega) (by omega) (by unfold rg; omega) ?_
            obtain ⟨U11, eU11⟩ : ∃ T : sS, T = uI S 920 ((0 : Int).toNat) (Int32.ofInt (Xi S 920 ((0 : Int).toNat))) := ⟨_, rfl⟩
            rw [← eU11]
            have hHU11 : HI U11 := by rw [eU11]; exact HI_w hH (show -1 ≤ (Xi S 920 ((0 : Int).toNat)) by omega) (show (Xi S 920 ((0 : Int).toNat)) ≤ 23 by omega)
            have hFU11 : FR md_mo_does_2__q S U11 := by rw [eU11]; exact FR.wI hF (mdf_i (r := (920, 921, 0, 100000)) (List.mem_of_getElem? (i := 3) rfl) (inR_i (by omega) (by omega) (by omega) (by omega)))
            have w71 : Xi U11 920 ((0 : Int).toNat) = (Xi S 920 ((0 : Int).toNat)) := by rw [eU11]; exact Xi_same (by unfold rg; omega)
            have W196 : WYM U11 := by first | exact wym_s eU11 rfl hW | exact wym_t eU11 (by omega) hW
            have Y196 := Y175
            refine l_iload_n rfl rfl ?_
            refine l_iconst rfl ?_
            refine l_icmp_eq rfl rfl (by unfold rg; omega) (by unfold rg; omega) (fun w72 => ?_) (fun w73 => ?_)
            · refine l_iconst rfl ?_
              refine l_ireturn rfl rfl ?_
              exact ⟨hHU11, hFU11, _, rfl, ⟨by omega, by omega⟩, (by first | exact W78 | exact W114 | exact W196 | exact W126 | exact W40 | exact hW | assumption | exact WYM_FR hFU11 rfl hW), (by first | (have t := Y78; exact Y78) | (have t := Y114; exact Y114) | (have t := Y126; exact Y126) | (have t := Y196; exact ds_4 (by omega) Y196 eU11 (by omega)) | (have t := F40; exact ds_1n (by omega) (by first | exact Or.inr (Or.inl (by omega)) | exact Or.inr (Or.inr (Or.inl (B48.1 (by omega)))) | exact Or.inr (Or.inr (Or.inr (by omega)))) rfl F40) | (have t := q83; exact ds_2n (by omega) (q83.2 (by omega)) rfl) | exact ds_1n (by omega) (Or.inl (by omega)) rfl FR.rf | exact ds_5 (by omega) rfl)⟩
            · refine l_iconst rfl ?_
              refine l_goto rfl rfl ?_
              refine l_ireturn rfl rfl ?_
              exact ⟨hHU11, hFU11, _, rfl, ⟨by omega, by omega⟩, (by first | exact W78 | exact W114 | exact W196 | exact W126 | exact W40 | exact hW | assumption | exact WYM_FR hFU11 rfl hW), (by first | (have t := Y78; exact Y78) | (have t := Y114; exact Y114) | (have t := Y126; exact Y126) | (have t := Y196; exact ds_4 (by omega) Y196 eU11 (by omega)) | (have t := F40; exact ds_1n (by omega) (by first | exact Or.inr (Or.inl (by omega)) | exact Or.inr (Or.inr (Or.inl (B48.1 (by omega)))) | exact Or.inr (Or.inr (Or.inr (by omega)))) rfl F40) | (have t := q83; exact ds_2n (by omega) (q83.2 (by omega)) rfl) | exact ds_1n (by omega) (Or.inl (by omega)) rfl FR.rf | exact ds_5 (by omega) rfl)⟩
    | n + 4, hii => exact absurd hii (by simp)
end
section
/-! A TURN of both: what is related while it goes on -/
noncomputable def itW (S : sS) (a : Int) : Int := if 0 < Xi S 904 160 - a ∧ ikR S (Xi S 904 160 - 1) = 153 then (if Xi S 904 160 - a = 1 ∨ (Xi S 904 160 - a = 2 ∧ ikR S a = 102) then -2 else -9) else
  (if fiR S (if 0 < Xi S 904 160 - a ∧ 100 ≤ ikR S a ∧ ikR S a ≤ 103 then a + 1 else a) (Xi S 904 160 - (if 0 < Xi S 904 160 - a ∧ 100 ≤ ikR S a ∧ ikR S a ≤ 103 then a + 1 else a)) ≠ -1 ∧ Xi S 914 (fiR S (if 0 < Xi S 904 160 - a ∧ 100 ≤ ikR S a ∧ ikR S a ≤ 103 then a + 1 else a) (Xi S 904 160 - (if 0 < Xi S 904 160 - a ∧ 100 ≤ ikR S a ∧ ikR S a ≤ 103 then a + 1 else a))).toNat = 4 then Xi S 915 (fiR S (if 0 < Xi S 904 160 - a ∧ 100 ≤ ikR S a ∧ ikR S a ≤ 103 then a + 1 else a) (Xi S 904 160 - (if 0 < Xi S 904 160 - a ∧ 100 ≤ ikR S a ∧ ikR S a ≤ 103 then a + 1 else a))).toNat else -9)
/-- the words at hand mean the thing t (and its property p) -/
def INT (S : sS) (t p : Int) : Prop := (isO S → itW S (ofR S + 1) = t ∧ ipR S = p ∧ p ≠ -1) ∧ (¬ isO S → itW S 0 = t ∧ p = -1) ∧ t ≠ -9
/-- the words in [ ] from o to q -/
def INX (S : sS) (e o q t p : Int) : Prop := ∃ (T : sS) (L : List (Int × Int)), KEP [(906, 907), (911, 917)] [(904, 15)] S T ∧ WLp (Xi S 906) e (o + 1) L q ∧ (q < e ∧ Xi S 906 q.toNat = 93) ∧ (RIW S T L ∧ L.length ≤ 64) ∧ INT T t p
def NML (S : sS) (so ix : Int) (P : List Int) : Prop := (∃ k : Nat, (k : Int) < Xi S 904 15 ∧ Xi S 914 k = so ∧ Xi S 915 k = ix ∧ (∀ l : Nat, (l : Int) < Xi S 904 15 → Xi S 914 l = so → Xi S 915 l = ix → l = k) ∧ P = bnL (fun i => byR S k i) 42 0) ∨ (¬ lxH S so ix ∧ P = [])
def PRP (S : sS) (w p : Int) (P : List Int) : Prop := (Xi S 928 p.toNat = 0 → P = nmL (nuR S w p)) ∧ (Xi S 928 p.toNat = 1 → P = txL S 906 (nuR S w p) (nlR S w p).toNat) ∧ (Xi S 928 p.toNat ≠ 0 → Xi S 928 p.toNat ≠ 1 → (nuR S w p = -1 → P = []) ∧ (nuR S w p ≠ -1 → NML S 6 (nuR S w p) P))
/-- what is written in the place of [ ] -/
def PCE (S : sS) (t p o : Int) (P : List Int) : Prop := (0 ≤ whU o t ∧ whU o t < Xi S 904 19) ∧ (p = -1 → NML S 4 (whU o t) P) ∧ (p ≠ -1 → (0 ≤ p ∧ p < Xi S 904 32) ∧ hsR S (Xi S 918 (whU o t).toNat) p ≠ 0 ∧ PRP S (whU o t) p P)
/-- what a text from p to e says -/
def WTX (S : sS) (e o : Int) : Nat → Int → List Int → Prop
  | 0, p, L => e ≤ p ∧ L = []
  | f + 1, p, L => (e ≤ p ∧ L = []) ∨ (p < e ∧ Xi S 906 p.toNat ≠ 91 ∧ Xi S 906 p.toNat ≠ 93 ∧ ∃ M : List Int, L = Xi S 906 p.toNat :: M ∧ WTX S e o f (p + 1) M) ∨ (p < e ∧ Xi S 906 p.toNat = 91 ∧ ∃ (q t r : Int) (P M : List Int), INX S e p q t r ∧ PCE S t r o P ∧ L = P ++ M ∧ WTX S e o f (q + 1) M)
/-- the noun's kind is one that a rule's text may speak of -/
def nkR (S : sS) (r : Nat) : Int := if Xi S 980 r ≠ -1 then Xi S 918 (Xi S 980 r).toNat else if Xi S 981 r ≠ -1 then Xi S 981 r else Xi S 942 (Xi S 979 r).toNat
def NKO (S : sS) (r : Nat) (o : Int) : Prop := nM S r → blR S (Xi S 918 o.toNat) (nkR S r) ≠ 0
abbrev clP (U S : sS) (r k : Nat) : Nat := (Xi U (248 + r) 7 + Xi U (248 + r) 4 + Xi S 985 r).toNat + k
def INW0 (U S : sS) : Prop := ∀ (r k : Nat) (no o : Int), (r : Int) < Xi U 246 2 → (k : Int) < Xi S 987 r → Xi S 976 ((Xi S 986 r).toNat + k) = 0 → NNR U (Xi S 979 r) no o → NKO S r o → ∀ q : Nat, (q : Int) = Xi S 977 ((Xi S 986 r).toNat + k) → WTX S (Xi S 973 q + Xi S 974 q) o 5001 (Xi S 973 q) (syA U (clP U S r k) no)
def ST0 (U S : sS) : Prop := SRT U U (Xi U 246 2) ∧ PLM S ∧ NMWD S ∧ True ∧ True ∧ (Xi S 922 0 ≠ -1 ∧ Xi S 928 0 = 1) ∧ (RLB U S → INW0 U S)
def cBS2 : List (Nat × Nat) := [(906, 907), (911, 919), (921, 925), (927, 930), (936, 940), (941, 950), (969, 988)]
/-- what no turn changes -/
def STC (U S : sS) : Prop := ∀ U1 S1 : sS, KEP cBU cBv U U1 → KEP cBS2 cBw S S1 → ST0 U1 S1
theorem kep_rf {ks fs : List (Nat × Nat)} {S : sS} : KEP ks fs S S := ⟨fun _ _ _ => ⟨rfl, rfl, rfl⟩, fun _ _ => ⟨rfl, rfl, rfl⟩⟩
theorem STC.k {U U1 S S1 : sS} (h : STC U S) (k : KEP cBU cBv U U1) (q : KEP cBS2 cBw S S1) : STC U1 S1 := fun _ _ a b => h _ _ (k.tr a) (q.tr b)
theorem STC.o {U S : sS} (h : STC U S) : ST0 U S := h U S kep_rf kep_rf
/-- ended, phrases done -/
def END (U S : sS) : Prop := (Xi U 900 6 = 0 ↔ Xi S 904 162 = 0) ∧ (Xi U 900 6 = 0 → Xi U 900 5 = Xi S 904 161)
def RT (U S : sS) : Prop := RLB U S ∧ EQO U S ∧ END U S ∧ Xi S 904 157 = 0 ∧ STC U S
def cTU : List (Nat × Nat) := [(2, 20), (21, 22), (196, 220), (221, 876), (883, 888), (901, 904)]
def cTv : List (Nat × Nat) := [(1, 3), (20, 1), (20, 12), (882, 3), (900, 4), (900, 5), (900, 6)]
def cTS : List (Nat × Nat) := [(906, 907), (911, 919), (921, 925), (927, 930), (936, 940), (941, 950), (969, 988), (993, 994)]
def cTw : List (Nat × Nat) := [(904, 15), (904, 16), (904, 18), (904, 19), (904, 23), (904, 30), (904, 32), (904, 41), (904, 47), (904, 49), (904, 51), (904, 55), (904, 117), (904, 125), (904, 130), (904, 156), (904, 157), (904, 161), (904, 162)]
/-- an act that writes nothing -/
theorem rt_l {U V S T : sS} (h : RT U S) (b : RLB V T) (k : KEP cTU cTv U V) (q : KEP cTS cTw S T) : RT V T ∧ KEP cBU cBv U V := by
  obtain ⟨_, ⟨e1, e2⟩, ⟨n1, n2⟩, d, s⟩ := h
  have u4 : Xi V 900 4 = Xi U 900 4 := k.f 900 4 (by decide)
  have u5 : Xi V 900 5 = Xi U 900 5 := k.f 900 5 (by decide)
  have u6 : Xi V 900 6 = Xi U 900 6 := k.f 900 6 (by decide)
  have s6 : Xi T 904 156 = Xi S 904 156 := q.f 904 156 (by decide)
  have s7 : Xi T 904 157 = Xi S 904 157 := q.f 904 157 (by decide)
  have s1 : Xi T 904 161 = Xi S 904 161 := q.f 904 161 (by decide)
  have s2 : Xi T 904 162 = Xi S 904 162 := q.f 904 162 (by decide)
  have kb : KEP cBU cBv U V := k.le rfl (by decide)
  refine ⟨⟨b, ⟨by rw [u4, s6]; exact e1, fun j hj => ?_⟩, ⟨by rw [u6, s2]; exact n1, fun z => ?_⟩, by rw [s7]; exact d, s.k kb (q.le rfl (by decide))⟩, kb⟩
  · rw [k.x 901 rfl, q.x 993 rfl]; exact e2 j (by rw [← u4]; exact hj)
  · rw [u5, s1]; exact n2 (by rw [← u6]; exact z)
theorem fr_wl : ∀ (L : List Int) {U : sS}, FR [(900, 901, 4, 5), (901, 902, 0, 100000)] U (wlF U L)
  | [], _ => FR.rf
  | b :: L, U => by
    have t : FR [(900, 901, 4, 5), (901, 902, 0, 100000)] U (wrU U b) := by
      unfold wrU
      split
      · refine FR.wI (FR.wI FR.rf ?_) rfl
        unfold mdf inR; simp; omega
      · exact FR.rf
    exact t.tr (fr_wl L) rfl
/-- both write the same -/
theorem rt_w {U S T : sS} {L : List Int} (h : RT U S) (o : OUP 993 904 156 S T L) (q : KEP [(906, 907), (911, 950), (969, 988)] [(904, 15), (904, 16), (904, 18), (904, 19), (904, 23), (904, 30), (904, 32), (904, 41), (904, 47), (904, 49), (904, 51), (904, 55), (904, 117), (904, 125), (904, 130), (904, 157), (904, 161), (904, 162)] S T) : RT (wlF U L) T ∧ KEP cBU cBv U (wlF U L) := by
  obtain ⟨a, e, ⟨n1, n2⟩, d, s⟩ := h
  have F := fr_wl L (U := U)
  have u5 : Xi (wlF U L) 900 5 = Xi U 900 5 := F.x 900 5 rfl
  have u6 : Xi (wlF U L) 900 6 = Xi U 900 6 := F.x 900 6 rfl
  have s1 : Xi T 904 161 = Xi S 904 161 := q.f 904 161 (by decide)
  have s2 : Xi T 904 162 = Xi S 904 162 := q.f 904 162 (by decide)
  refine ⟨⟨rlb_z a (F.kep rfl) (q.le rfl (by decide)), eqo_l e o, ⟨by rw [u6, s2]; exact n1, fun z => by rw [u5, s1]; exact n2 (by rw [← u6]; exact z)⟩, by rw [q.f 904 157 (by decide)]; exact d, s.k (F.kep rfl) (q.le rfl (by decide))⟩, F.kep rfl⟩
/-- one phrase more, in both -/
theorem rt_p {U S A : sS} (h : RT U S) (ne : Xi S 904 162 = 0) (hd : 0 ≤ Xi S 904 161 ∧ Xi S 904 161 < 300) (e : A = uI S 904 161 (Int32.ofInt (Xi S 904 161 + 1))) : RT (phI U) A ∧ KEP cBU cBv U (phI U) ∧ Xi (phI U) 900 6 = 0 := by
  obtain ⟨a, ⟨e1, e2⟩, ⟨n1, n2⟩, d, s⟩ := h
  have u6 := n1.2 ne
  have u5 := n2 u6
  have F : FR [(900, 901, 5, 7)] U (phI U) := by unfold phI; exact FR.wI (FR.wI FR.rf rfl) rfl
  have G : FR [(904, 905, 161, 162)] S A := by rw [e]; exact FR.wI FR.rf rfl
  have p6 : Xi (phI U) 900 6 = 0 := by unfold phI; rw [Xi_same (by unfold rg; split <;> omega), if_neg (by omega)]
  have p5 : Xi (phI U) 900 5 = Xi S 904 161 + 1 := by unfold phI; rw [Xi_ne (by omega), Xi_same (by unfold rg; omega)]; omega
  have p4 : Xi (phI U) 900 4 = Xi U 900 4 := F.x 900 4 rfl
  have a1 : Xi A 904 161 = Xi S 904 161 + 1 := by rw [e]; exact Xi_same (by unfold rg; omega)
  have a2 : Xi A 904 162 = Xi S 904 162 := G.x 904 162 rfl
  have a6 : Xi A 904 156 = Xi S 904 156 := G.x 904 156 rfl
  refine ⟨⟨rlb_z a (F.kep rfl) (G.kep rfl), ⟨by rw [p4, a6]; exact e1, fun j hj => ?_⟩, ⟨by rw [p6, a2, ne], fun _ => by rw [p5, a1]⟩, by rw [G.x 904 157 rfl]; exact d, s.k (F.kep rfl) (G.kep rfl)⟩, F.kep rfl, p6⟩
  rw [(F.cx 901 rfl j).1, (G.cx 993 rfl j).1]
  exact e2 j (by rw [← p4]; exact hj)
/-- too many phrases: both end -/
theorem rt_e {U S A : sS} (h : RT U S) (ne : Xi S 904 162 = 0) (hd : Xi S 904 161 = 300) (e : A = uI S 904 162 (Int32.ofInt 1)) : RT (phI U) A ∧ KEP cBU cBv U (phI U) ∧ Xi (phI U) 900 6 ≠ 0 := by
  obtain ⟨a, ⟨e1, e2⟩, ⟨n1, n2⟩, d, s⟩ := h
  have u6 := n1.2 ne
  have u5 := n2 u6
  have F : FR [(900, 901, 5, 7)] U (phI U) := by unfold phI; exact FR.wI (FR.wI FR.rf rfl) rfl
  have G : FR [(904, 905, 162, 163)] S A := by rw [e]; exact FR.wI FR.rf rfl
  have p6 : Xi (phI U) 900 6 = 1 := by unfold phI; rw [Xi_same (by unfold rg; split <;> omega), if_pos (by omega)]
  have p4 : Xi (phI U) 900 4 = Xi U 900 4 := F.x 900 4 rfl
  have a2 : Xi A 904 162 = 1 := by rw [e]; exact Xi_same (by unfold rg; omega)
  have a6 : Xi A 904 156 = Xi S 904 156 := G.x 904 156 rfl
  refine ⟨⟨rlb_z a (F.kep rfl) (G.kep rfl), ⟨by rw [p4, a6]; exact e1, fun j hj => ?_⟩, ⟨by rw [p6, a2], fun q => absurd (p6.symm.trans q) (by decide)⟩, by rw [G.x 904 157 rfl]; exact d, s.k (F.kep rfl) (G.kep rfl)⟩, F.kep rfl, by rw [p6]; decide⟩
  rw [(F.cx 901 rfl j).1, (G.cx 993 rfl j).1]
  exact e2 j (by rw [← p4]; exact hj)

/-! PHRASES of a rule, one after another, in both -/
theorem fr_plO {U : sS} {o h w : Int} (ho : 0 ≤ o ∧ o < 24) : FR [(22, 24, 0, 100000)] U (plO U o h w) := by unfold plO; exact FR.wI (FR.wI FR.rf (by unfold mdf inR; simp; omega)) (by unfold mdf inR; simp; omega)
/-- which clause and which entries a rule's k-th phrase are -/
theorem rph_q {U S : sS} {r k : Nat} (a : RLB U S) (hr : (r : Int) < Xi U 246 2) (hk : (k : Int) < Xi S 987 r) : ∃ fm n w h t g m : Int, CLM U (clP U S r k) fm n w h t g m ∧ PQF U S ((Xi S 986 r).toNat + k) ((Xi S 984 r + Xi S 985 r).toNat + k) fm n w h t g m := (a.2.2.2.2.2 r hr).2.2.2.2.2.2.2.2 k hk
abbrev lNW : List rec := [(925, 926, 0, 100000), (930, 931, 0, 100000), (931, 932, 0, 100000), (932, 933, 0, 100000), (940, 941, 0, 100000)]
/-- nouns of both where a phrase speaks of the noun -/
theorem nno {U S : sS} {r : Nat} {no o w t : Int} (a : RLB U S) (hr : (r : Int) < Xi U 246 2) (hn : NNR U (Xi S 979 r) no o) (h : TMK 53 (Xi U 5 2) w t) (k : thK S False (nM S r) t) (hw : w = -2) : no = o ∧ 0 ≤ no ∧ no < Xi U 5 2 := by
  have u1 := (a.2.2.2.2.2 r hr).2.1
  have c8 := a.1.2.2.1.2.2.2.2.2.2.2.2
  have a8 : Xi S 979 r < Xi U 5 8 := by
    rcases u1 with ⟨_, _, w1, _⟩ | ⟨_, aa, oo, kk, nn, _, ⟨w1, _⟩, ⟨q1, _⟩, _⟩
    · omega
    · omega
  have t := nnr_n a.1.2.2.2.2.2.2.2.2.1 a8 rfl hn (nnr_w h k (by decide) hw)
  omega
theorem thR_n {o no t : Int} (h : t = -2 → no = o) : thR (-1) o t = thR (-1) no t := by
  unfold thR
  by_cases q : t = -1
  · rw [if_pos q, if_pos q]
  · rw [if_neg q, if_neg q]
    by_cases r : t = -2
    · rw [if_pos r, if_pos r, h r]
    · rw [if_neg r, if_neg r]
theorem tmk_2 {n w t : Int} (h : TMK 53 n w t) (q : t = -2) : w = -2 := by
  rcases h with ⟨x, _⟩ | ⟨x, y⟩
  · exact x
  · omega
/-- NOW -/
theorem pa_now {U S T : sS} {r k : Nat} {no o : Int} {tr : sS → Int → Int → sS} (h : RT U S) (hr : (r : Int) < Xi U 246 2) (hk : (k : Int) < Xi S 987 r) (h6 : Xi S 976 ((Xi S 986 r).toNat + k) = 1) (hn : NNR U (Xi S 979 r) no o) (pq : PQ S (nM S r) ((Xi S 986 r).toNat + k)) {q : Nat} (hq : (q : Int) = Xi S 977 ((Xi S 986 r).toNat + k)) (F : FR lNW S T) (z : NOW S T q o) : RT (pfF tr U (clP U S r k) no) T ∧ KEP cBU cBv U (pfF tr U (clP U S r k) no) := by
  obtain ⟨a, _⟩ := id h
  obtain ⟨fm, n, w, hh, t, g, m, c, p1, p2⟩ := rph_q a hr hk
  have eq : q = (Xi S 984 r + Xi S 985 r).toNat + k := by omega
  subst eq
  rcases p2 with ⟨_, f⟩ | ⟨x, _⟩ | ⟨x, _⟩ | ⟨x, _⟩ | ⟨x, _⟩ | ⟨x, _⟩
  · have nq : NQ S (nM S r) ((Xi S 984 r + Xi S 985 r).toNat + k) := by
      have t := pq.2.2.1 h6
      rw [p1, show ((((Xi S 984 r + Xi S 985 r).toNat + k : Nat) : Int)).toNat = (Xi S 984 r + Xi S 985 r).toNat + k by omega] at t
      exact t
    have ct := a.1.2.2.1
    have b2 := ct.2.2.1
    have b3 := ct.2.2.2.1
    have b5 := ct.2.2.2.2.2.1
    have b6 := ct.2.2.2.2.2.2.1
    have w2 : w = -2 → no = o ∧ 0 ≤ no ∧ no < Xi U 5 2 := fun q => nno a hr hn f.2.1 nq.1.1 q
    have lw := tmk_lt (self := no) f.2.1 (fun q => (w2 q).2)
    have m2 : Xi S 969 ((Xi S 984 r + Xi S 985 r).toNat + k) = 5 → TMK 53 (Xi U 5 2) m (Xi S 975 ((Xi S 984 r + Xi S 985 r).toNat + k)) → m = -2 → no = o ∧ 0 ≤ no ∧ no < Xi U 5 2 := fun q5 tm q => nno a hr hn tm (nq.1.2.1 q5).1 q
    have zz : NOW S T ((Xi S 984 r + Xi S 985 r).toNat + k) no := by
      have e1 : thR (-1) o (Xi S 971 ((Xi S 984 r + Xi S 985 r).toNat + k)) = thR (-1) no (Xi S 971 ((Xi S 984 r + Xi S 985 r).toNat + k)) := thR_n (fun q => (w2 (tmk_2 f.2.1 q)).1)
      unfold NOW at z ⊢
      rw [← e1]
      rcases z with ⟨z1, z2⟩ | z | z | z
      · left
        refine ⟨z1, ?_⟩
        rw [← thR_n (o := o) (no := no) (t := Xi S 975 ((Xi S 984 r + Xi S 985 r).toNat + k)) (fun q => by
          rcases f.2.2 with ⟨_, k1, _, k3, _⟩ | ⟨_, k1, _⟩ | ⟨_, k1, _⟩ | ⟨_, k1, _⟩ | ⟨k0, _⟩ | ⟨_, k1, _⟩ | ⟨_, k1, _⟩
          · exact (m2 z1 k3 (tmk_2 k3 q)).1
          all_goals omega)]
        exact z2
      · exact Or.inr (Or.inl z)
      · exact Or.inr (Or.inr (Or.inl z))
      · exact Or.inr (Or.inr (Or.inr z))
    have key := now_s (tr := tr) a c f nq ⟨fun q => (w2 q).2, fun e6 q => by
      rcases f.2.2 with ⟨_, k1, _, k3, _⟩ | ⟨k0, k1, _⟩ | ⟨k0, k1, _⟩ | ⟨k0, k1, _⟩ | ⟨k0, _⟩ | ⟨k0, k1, _⟩ | ⟨k0, k1, _⟩
      · exact (m2 k1 k3 q).2
      all_goals omega⟩ F zz
    exact rt_l h key.1 (key.2.kep rfl) (F.kep rfl)
  all_goals omega
/-- MOVE -/
theorem pa_mov {U S T : sS} {r k : Nat} {no o : Int} {tr : sS → Int → Int → sS} (h : RT U S) (hr : (r : Int) < Xi U 246 2) (hk : (k : Int) < Xi S 987 r) (h6 : Xi S 976 ((Xi S 986 r).toNat + k) = 2) (hn : NNR U (Xi S 979 r) no o) (pq : PQ S (nM S r) ((Xi S 986 r).toNat + k)) {q : Nat} (hq : (q : Int) = Xi S 977 ((Xi S 986 r).toNat + k)) (F : FR [(919, 920, 0, 100000), (920, 921, 0, 100000)] S T) (z : T = mvR S (thR (-1) o (Xi S 971 q)) (thR (-1) o (Xi S 975 q))) : RT (pfF tr U (clP U S r k) no) T ∧ KEP cBU cBv U (pfF tr U (clP U S r k) no) := by
  obtain ⟨a, _⟩ := id h
  obtain ⟨fm, n, w, hh, t, g, m, c, p1, p2⟩ := rph_q a hr hk
  have eq : q = (Xi S 984 r + Xi S 985 r).toNat + k := by omega
  subst eq
  rcases p2 with ⟨x, _⟩ | ⟨x, _⟩ | ⟨_, e8, f1, f2⟩ | ⟨x, _⟩ | ⟨x, _⟩ | ⟨x, _⟩
  · omega
  · omega
  · obtain ⟨n1, n2⟩ := pq.2.2.2.1 h6
    rw [p1, show ((((Xi S 984 r + Xi S 985 r).toNat + k : Nat) : Int)).toNat = (Xi S 984 r + Xi S 985 r).toNat + k by omega] at n1 n2
    have w2 : w = -2 → no = o ∧ 0 ≤ no ∧ no < Xi U 5 2 := fun q => nno a hr hn f1 n1 q
    have m2 : m = -2 → no = o ∧ 0 ≤ no ∧ no < Xi U 5 2 := fun q => nno a hr hn f2 n2 q
    rw [thR_n (no := no) (fun q => (w2 (tmk_2 f1 q)).1), thR_n (o := o) (no := no) (t := Xi S 975 ((Xi S 984 r + Xi S 985 r).toNat + k)) (fun q => (m2 (tmk_2 f2 q)).1)] at z
    rw [e8] at c
    have key := mov_s (tr := tr) a c f1 f2 ⟨fun q => (w2 q).2, fun q => (m2 q).2⟩
    rw [← z] at key
    exact rt_l h key.1 (key.2.kep rfl) (F.kep rfl)
  all_goals omega
/-- more, less -/
theorem pa_add {U S T : sS} {r k : Nat} {no o b : Int} {tr : sS → Int → Int → sS} (h : RT U S) (hr : (r : Int) < Xi U 246 2) (hk : (k : Int) < Xi S 987 r) {q : Nat} (h6 : (Xi S 976 ((Xi S 986 r).toNat + k) = 3 ∧ b = Xi S 973 q) ∨ (Xi S 976 ((Xi S 986 r).toNat + k) = 4 ∧ b = -Xi S 973 q)) (hn : NNR U (Xi S 979 r) no o) (pq : PQ S (nM S r) ((Xi S 986 r).toNat + k)) (hq : (q : Int) = Xi S 977 ((Xi S 986 r).toNat + k)) (F : FR [(904, 905, 154, 155), (930, 931, 0, 100000), (931, 932, 0, 100000)] S T) (z : ADR S T (12 * thR (-1) o (Xi S 971 q) + Xi S 972 q).toNat (clW (adW (nuR S (thR (-1) o (Xi S 971 q)) (Xi S 972 q)) b))) : RT (pfF tr U (clP U S r k) no) T ∧ KEP cBU cBv U (pfF tr U (clP U S r k) no) := by
  obtain ⟨a, _⟩ := id h
  obtain ⟨fm, n, w, hh, t, g, m, c, p1, p2⟩ := rph_q a hr hk
  have eq : q = (Xi S 984 r + Xi S 985 r).toNat + k := by omega
  subst eq
  rcases p2 with ⟨x, _⟩ | ⟨x, _⟩ | ⟨x, _⟩ | ⟨x, e9, f1, f2, f3, f4⟩ | ⟨x, _⟩ | ⟨x, _⟩
  · omega
  · omega
  · omega
  · obtain ⟨n1, _⟩ := pq.2.2.2.2.1 (by omega)
    rw [p1, show ((((Xi S 984 r + Xi S 985 r).toNat + k : Nat) : Int)).toNat = (Xi S 984 r + Xi S 985 r).toNat + k by omega] at n1
    have w2 : w = -2 → no = o ∧ 0 ≤ no ∧ no < Xi U 5 2 := fun q => nno a hr hn f1 n1 q
    have eb : b = t := by omega
    rw [thR_n (no := no) (fun q => (w2 (tmk_2 f1 q)).1), eb] at z
    rw [e9] at c
    have key := add_s (tr := tr) a c f1 f2 f3 f4 (fun q => (w2 q).2) F z
    exact rt_l h key.1 (key.2.kep rfl) (F.kep rfl)
  all_goals omega
abbrev cSY : List (Nat × Nat) := [(904, 15), (904, 16), (904, 18), (904, 19), (904, 23), (904, 30), (904, 32), (904, 41), (904, 47), (904, 49), (904, 51), (904, 55), (904, 117), (904, 125), (904, 130), (904, 157), (904, 161), (904, 162)]
/-- SAY -/
theorem pa_say {U S A B T : sS} {r k : Nat} {no o : Int} (h : RT U S) (hr : (r : Int) < Xi U 246 2) (hk : (k : Int) < Xi S 987 r) (h6 : Xi S 976 ((Xi S 986 r).toNat + k) = 0) (hn : NNR U (Xi S 979 r) no o) (nk : NKO S r o) {q : Nat} (hq : (q : Int) = Xi S 977 ((Xi S 986 r).toNat + k)) (ro : -1 ≤ o ∧ o ≤ 23) (eA : A = uI S 904 158 (Int32.ofInt o)) (F : KEP [(906, 907), (911, 950), (969, 988)] cSY A B) (wr : ∀ L : List Int, WTX A (Xi A 973 q + Xi A 974 q) (Xi A 904 158) 5001 (Xi A 973 q) L → OUP 993 904 156 A B L) (G : KEP [(906, 907), (911, 950), (969, 988)] cSY B T) (pt : Xi B 904 157 = 0 → OUP 993 904 156 B T [10]) : RT (wlF U (syA U (clP U S r k) no ++ [10])) T ∧ KEP cBU cBv U (wlF U (syA U (clP U S r k) no ++ [10])) := by
  have fA : FR [(904, 905, 158, 159)] S A := by rw [eA]; exact FR.wI FR.rf rfl
  obtain ⟨a, e, n, d, s⟩ := id h
  have hA : RT U A ∧ KEP cBU cBv U U := rt_l h (rlb_z a kep_rf (fA.kep rfl)) kep_rf (fA.kep rfl)
  have iw : INW0 U A := (hA.1.2.2.2.2.o).2.2.2.2.2.2 hA.1.1
  have x : ∀ c j, (c ≠ 904 ∨ j ≠ 158) → Xi A c j = Xi S c j := fun c j q => by rw [eA, Xi_ne (by omega)]
  have kA : KEP cBS2 cBw S A := fA.kep rfl
  have hnA : NNR U (Xi A 979 r) no o := by rw [x 979 r (by omega)]; exact hn
  have nkA : NKO A r o := by
    unfold NKO nM nkR at nk ⊢
    rw [x 979 r (by omega), x 980 r (by omega), x 981 r (by omega), x 942 _ (by omega), x 918 _ (by omega), x 918 _ (by omega)]
    have e : ∀ (n : Nat) (i z : Int), blN A z n i = blN S z n i := fun n => by
      induction n with
      | zero => intro i z; rfl
      | succ n ih => intro i z; unfold blN; rw [x 917 _ (by omega), ih]
    intro y
    have t := nk y
    unfold blR at t ⊢
    rw [e]; exact t
  have t := iw r k no o hr (by rw [x 987 r (by omega)]; exact hk) (by rw [x 986 r (by omega), x 976 _ (by omega)]; exact h6) hnA nkA q (by rw [x 986 r (by omega), x 977 _ (by omega)]; exact hq)
  have e158 : Xi A 904 158 = o := by rw [eA]; exact Xi_same (by unfold rg; omega)
  have ecl : clP U A r k = clP U S r k := by unfold clP; rw [x 985 r (by omega)]
  rw [ecl] at t
  have o1 := wr _ (by rw [e158]; exact t)
  have d2 : Xi B 904 157 = 0 := by rw [F.f 904 157 (by decide)]; exact hA.1.2.2.2.1
  have o2 := pt d2
  have o3 := oup_tr (by have := hA.1.2.1.1; omega) o1 o2
  exact rt_w hA.1 o3 (F.tr G)
end
