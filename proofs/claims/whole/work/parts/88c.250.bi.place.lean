section
/-! class and reference: places, one object after the other -/
theorem iw_r {U S : sS} {x : Int} (ob : ROB U S) : ∀ (n : Nat) (o : Int), -1 ≤ o → o < Xi U 5 2 → isWn U x n o = wiN S x n o
  | 0, _, _, _ => rfl
  | n + 1, o, h0, h1 => by
    unfold isWn wiN
    by_cases q : o < 0
    · rw [if_pos q, if_pos (show o = -1 by omega)]
    · rw [if_neg q, if_neg (show ¬ o = -1 by omega)]
      by_cases w : o = x
      · rw [if_pos w, if_pos w]
      · rw [if_neg w, if_neg w]
        obtain ⟨⟨a, b⟩, c, d, e, f⟩ := ob.2 o.toNat (by omega)
        have t := iw_r (x := x) ob n (Xi U 23 o.toNat) e f
        by_cases g : Xi S 919 o.toNat = 0
        · rw [if_pos g, t, d.1 (by omega)]
        · rw [if_neg g, t, b]
/-- where one comes, step by step -/
def itS (U : sS) (y : Int) : Int := if y < 0 then y else Xi U 23 y.toNat
def itH (U : sS) : Nat → Int → Int
  | 0, x => x
  | n + 1, x => itS U (itH U n x)
theorem it_f {U : sS} : ∀ (n : Nat) (x : Int), itH U n (itS U x) = itH U (n + 1) x
  | 0, _ => rfl
  | n + 1, x => by
    show itS U (itH U n (itS U x)) = itS U (itH U (n + 1) x)
    rw [it_f n x]
theorem it_neg {U : sS} {x : Int} : ∀ (n i : Nat), itH U i x < 0 → itH U (i + n) x = itH U i x
  | 0, _, _ => rfl
  | n + 1, i, h => by
    show itS U (itH U (i + n) x) = itH U i x
    rw [it_neg n i h]
    unfold itS
    rw [if_pos h]
theorem it_b {U : sS} {x : Int} (hb : ∀ o : Nat, (o : Int) < Xi U 5 2 → Xi U 23 o < Xi U 5 2) (hx : x < Xi U 5 2) : ∀ n : Nat, itH U n x < Xi U 5 2
  | 0 => hx
  | n + 1 => by
    have t := it_b hb hx n
    show itS U (itH U n x) < _
    unfold itS
    by_cases q : itH U n x < 0
    · rw [if_pos q]; exact t
    · rw [if_neg q]; exact hb _ (by omega)
theorem iw_y {U : sS} {x : Int} (hx : 0 ≤ x) : ∀ (n : Nat) (o : Int), isWn U x n o = 1 ↔ ∃ k : Nat, k < n ∧ itH U k o = x
  | 0, o => ⟨fun h => absurd (show (0 : Int) = 1 from h) (by decide), fun ⟨k, h, _⟩ => absurd h (by omega)⟩
  | n + 1, o => by
    unfold isWn
    by_cases q : o < 0
    · rw [if_pos q]
      refine ⟨fun h => absurd h (by decide), fun ⟨k, _, e⟩ => ?_⟩
      have t := it_neg (U := U) (x := o) k 0 q
      rw [Nat.zero_add, e] at t
      have t : x = o := t
      omega
    · rw [if_neg q]
      by_cases w : o = x
      · rw [if_pos w]
        exact ⟨fun _ => ⟨0, by omega, w⟩, fun _ => rfl⟩
      · rw [if_neg w, iw_y hx n (Xi U 23 o.toNat)]
        have s : itS U o = Xi U 23 o.toNat := by unfold itS; rw [if_neg q]
        constructor
        · rintro ⟨k, h, e⟩
          rw [← s, it_f] at e
          exact ⟨k + 1, by omega, e⟩
        · rintro ⟨k, h, e⟩
          cases k with
          | zero => exact absurd e w
          | succ k =>
            rw [← it_f, s] at e
            exact ⟨k, by omega, e⟩
theorem it_rk {U : sS} {rk : Nat → Nat} {x : Int} (hr : ∀ o : Nat, (o : Int) < Xi U 5 2 → 0 ≤ Xi U 23 o → rk (Xi U 23 o).toNat < rk o) (hb : ∀ o : Nat, (o : Int) < Xi U 5 2 → Xi U 23 o < Xi U 5 2) (hx : x < Xi U 5 2) : ∀ k : Nat, 0 ≤ itH U k x → rk (itH U k x).toNat + k ≤ rk x.toNat
  | 0, _ => Nat.le_refl _
  | k + 1, h => by
    have b := it_b hb hx k
    have p : 0 ≤ itH U k x := by
      apply Classical.byContradiction
      intro c
      have t := it_neg (U := U) (x := x) 1 k (by omega)
      omega
    have t := it_rk hr hb hx k p
    have e : itH U (k + 1) x = Xi U 23 (itH U k x).toNat := by
      show itS U (itH U k x) = _
      unfold itS
      rw [if_neg (by omega)]
    rw [e] at h ⊢
    have u := hr (itH U k x).toNat (by omega) h
    omega
/-- within 25 steps, or never -/
theorem it_25 {U : sS} {rk : Nat → Nat} {x o : Int} (hr : ∀ o : Nat, (o : Int) < Xi U 5 2 → 0 ≤ Xi U 23 o → rk (Xi U 23 o).toNat < rk o) (hb : ∀ o : Nat, (o : Int) < Xi U 5 2 → Xi U 23 o < Xi U 5 2) (h24 : Xi U 5 2 ≤ 24) (hx : x < Xi U 5 2) (ho : 0 ≤ o) {k : Nat} (e : itH U k x = o) : k < 25 := by
  have p : ∀ i : Nat, i ≤ k → 0 ≤ itH U i x := fun i hi => by
    apply Classical.byContradiction
    intro c
    have t := it_neg (U := U) (x := x) (k - i) i (by omega)
    rw [show i + (k - i) = k by omega, e] at t
    omega
  have dec : ∀ d i : Nat, i + d ≤ k → rk (itH U (i + d) x).toNat + d ≤ rk (itH U i x).toNat := fun d i h => by
    have q := it_rk hr hb (it_b hb hx i) d
    have s : ∀ d : Nat, itH U d (itH U i x) = itH U (i + d) x := fun d => by
      induction d with
      | zero => rfl
      | succ d ih => show itS U (itH U d (itH U i x)) = itS U (itH U (i + d) x); rw [ih]
    rw [s] at q
    exact q (p _ h)
  have t := php 24 (k + 1) (fun i => (itH U i x).toNat) (fun i hi => by
    have a := it_b hb hx i
    have b := p i (by omega)
    show (itH U i x).toNat < 24
    omega) (fun i j hij hj e => by
    have e : (itH U i x).toNat = (itH U j x).toNat := e
    have d := dec (j - i) i (by omega)
    rw [show i + (j - i) = j by omega, ← e] at d
    omega)
  omega
/-- a place more: still no ring -/
theorem acy_p {U U1 S : sS} {o w : Int} (ob : ROB U S) (a : ACY U) (c : RCT U S) (ho : 0 ≤ o ∧ o < Xi U 5 2) (hw : 0 ≤ w ∧ w < Xi U 5 2) (n : isW U w o ≠ 1) (e5 : Xi U1 5 2 = Xi U 5 2) (e1 : Xi U1 23 o.toNat = w) (e2 : ∀ j : Nat, j ≠ o.toNat → Xi U1 23 j = Xi U 23 j) : ACY U1 := by
  obtain ⟨rk, hr⟩ := a
  have hb : ∀ o : Nat, (o : Int) < Xi U 5 2 → Xi U 23 o < Xi U 5 2 := fun o h => (ob.2 o h).2.2.2.2
  have c2 := c.2.2.1
  have nw : ¬ ∃ k : Nat, itH U k w = o := fun ⟨k, e⟩ => n ((iw_y ho.1 25 w).2 ⟨k, it_25 hr hb c2.2.2 hw.2 ho.1 e, e⟩)
  have dc : ∀ x : Int, ∃ v : Nat, ((∃ k : Nat, itH U k x = o) → v = rk w.toNat + 1) ∧ (¬ (∃ k : Nat, itH U k x = o) → v = 0) := fun x => by
    by_cases q : ∃ k : Nat, itH U k x = o
    · exact ⟨_, fun _ => rfl, fun y => absurd q y⟩
    · exact ⟨0, fun y => absurd y q, fun _ => rfl⟩
  refine ⟨fun x => rk x + Classical.choose (dc x), fun x hx hp => ?_⟩
  rw [e5] at hx
  have sx := Classical.choose_spec (dc x)
  show rk (Xi U1 23 x).toNat + Classical.choose (dc ((Xi U1 23 x).toNat : Nat)) < rk x + Classical.choose (dc x)
  by_cases q : x = o.toNat
  · subst q
    have oe : ((o.toNat : Nat) : Int) = o := by clear sx dc; omega
    have vx := sx.1 ⟨0, oe⟩
    have vw := (Classical.choose_spec (dc ((w.toNat : Nat) : Int))).2 (by rw [show ((w.toNat : Nat) : Int) = w by omega]; exact nw)
    rw [e1, vw, vx]
    omega
  · rw [e2 x q] at hp ⊢
    have lt := hr x hx hp
    have same : (∃ k : Nat, itH U k ((Xi U 23 x).toNat : Nat) = o) ↔ (∃ k : Nat, itH U k x = o) := by
      have s : itS U x = Xi U 23 x := by unfold itS; rw [if_neg (by omega), show ((x : Int)).toNat = x by omega]
      rw [show (((Xi U 23 x).toNat : Nat) : Int) = Xi U 23 x by omega]
      constructor
      · rintro ⟨k, e⟩
        rw [← s, it_f] at e
        exact ⟨k + 1, e⟩
      · rintro ⟨k, e⟩
        cases k with
        | zero => exact absurd (show x = o.toNat by have e : (x : Int) = o := e; omega) q
        | succ k => rw [← it_f, s] at e; exact ⟨k, e⟩
    have sh := Classical.choose_spec (dc ((Xi U 23 x).toNat : Nat))
    by_cases g : ∃ k : Nat, itH U k x = o
    · rw [sx.1 g, sh.1 (same.2 g)]; omega
    · rw [sx.2 g, sh.2 (fun y => g (same.1 y))]; omega
/-- a place, told to both -/
theorem tpl_r {B B' V : sS} {z o wy hd : Int} (h : RLV B B') (t3 : TX3 B) (ho : 0 ≤ o ∧ o < Xi B 5 2) (hw : 1 ≤ wy ∧ wy ≤ 5) (hh : 0 ≤ hd ∧ hd < Xi B 5 2) (e73 : Xi B' 904 73 = wy) (e74 : rnR B' (Xi B' 904 74) 4 = hd) (t : TPLC B V z o wy hd) : (PLN B' o → wiR B' hd o = 0 → z = 0 ∧ ∀ V' : sS, V' = uI (uI B' 919 o.toNat (Int32.ofInt wy)) 920 o.toNat (Int32.ofInt hd) → RLV V V' ∧ TX3 V ∧ FR [(22, 23, 0, 100000), (23, 24, 0, 100000)] B V ∧ FR [(919, 920, 0, 100000), (920, 921, 0, 100000)] B' V') ∧ (¬ PLN B' o → z = 5) ∧ (PLN B' o → wiR B' hd o ≠ 0 → z = 6) := by
  have c := h.2.2.1
  have c2 := c.2.2.1
  have kd := h.2.2.2.1
  have ob := h.2.2.2.2.2.2.2.2.2.1
  have acy := h.2.2.2.2.2.2.2.2.2.2.1
  have oo := ob.1.2 o.toNat (by omega)
  obtain ⟨⟨q1, q2⟩, q3, q4, q5, q6⟩ := ob.2 o.toNat (by omega)
  have e0 : isK B (Xi B 21 o.toNat) 0 = blR B' (Xi B' 918 o.toNat) 0 := by rw [oo.1]; exact isK_bl kd oo.2.2
  have o1 := bl_01 (S := B') (o := 0) 17 (Xi B' 918 o.toNat)
  have iw : isW B hd o = wiR B' hd o := iw_r ob 25 hd (by omega) hh.2
  have i01 : isW B hd o = 0 ∨ isW B hd o = 1 := by
    have : ∀ (n : Nat) (y : Int), isWn B o n y = 0 ∨ isWn B o n y = 1 := fun n => by
      induction n with
      | zero => intro y; exact Or.inl rfl
      | succ n ih =>
        intro y
        unfold isWn
        by_cases a : y < 0
        · rw [if_pos a]; exact Or.inl rfl
        · rw [if_neg a]
          by_cases b : y = o
          · rw [if_pos b]; exact Or.inr rfl
          · rw [if_neg b]; exact ih _
    exact this 25 hd
  have hb : ∀ o : Nat, (o : Int) < Xi B 5 2 → Xi B 23 o < Xi B 5 2 := fun o h => (ob.2 o h).2.2.2.2
  obtain ⟨t1, t2, t4, t5, t6⟩ := t
  have pln : PLN B' o ↔ isK B (Xi B 21 o.toNat) 0 = 1 ∧ (Xi B 22 o.toNat = 0 ∨ (Xi B 22 o.toNat = wy ∧ Xi B 23 o.toNat = hd)) := by
    unfold PLN
    rw [e73, e74, ← q1, ← q2, ← e0]
    unfold blR at e0
    constructor
    · intro y
      refine ⟨by omega, ?_⟩
      apply Classical.byContradiction
      intro g
      exact y (Or.inr (by omega))
    · rintro ⟨a, b⟩ y
      rcases y with y | y
      · omega
      · omega
  have place : isK B (Xi B 21 o.toNat) 0 = 1 → (V = B ∧ Xi B 22 o.toNat = wy ∧ Xi B 23 o.toNat = hd ∨ V = plO B o wy hd ∧ isW B hd o ≠ 1) → ∀ V' : sS, V' = uI (uI B' 919 o.toNat (Int32.ofInt wy)) 920 o.toNat (Int32.ofInt hd) → RLV V V' ∧ TX3 V ∧ FR [(22, 23, 0, 100000), (23, 24, 0, 100000)] B V ∧ FR [(919, 920, 0, 100000), (920, 921, 0, 100000)] B' V' := fun _ pv V' eV => by
    have F : FR [(22, 23, 0, 100000), (23, 24, 0, 100000)] B V := by
      rcases pv with ⟨pv, _⟩ | ⟨pv, _⟩
      · rw [pv]; exact FR.rf
      · rw [pv]; unfold plO
        refine FR.wI (FR.wI FR.rf ?_) ?_ <;> (unfold mdf inR; simp; omega)
    have G : FR [(919, 920, 0, 100000), (920, 921, 0, 100000)] B' V' := by
      rw [eV]
      refine FR.wI (FR.wI FR.rf ?_) ?_ <;> (unfold mdf inR; simp; omega)
    have rw' : rg wy := by unfold rg; omega
    have rh : rg hd := by unfold rg; omega
    have g1 : Xi V 22 o.toNat = wy ∧ Xi V 23 o.toNat = hd := by
      rcases pv with ⟨pv, a, b⟩ | ⟨pv, _⟩
      · rw [pv]; exact ⟨a, b⟩
      · rw [pv]; unfold plO; exact ⟨by rw [Xi_ne (by omega)]; exact Xi_same rw', Xi_same rh⟩
    have g2 : ∀ j : Nat, j ≠ o.toNat → Xi V 22 j = Xi B 22 j ∧ Xi V 23 j = Xi B 23 j := fun j hj => by
      rcases pv with ⟨pv, _⟩ | ⟨pv, _⟩
      · rw [pv]; exact ⟨rfl, rfl⟩
      · rw [pv]; unfold plO; exact ⟨by rw [Xi_ne (by omega), Xi_ne (by omega)], by rw [Xi_ne (by omega), Xi_ne (by omega)]⟩
    have g3 : Xi V' 919 o.toNat = wy ∧ Xi V' 920 o.toNat = hd := by rw [eV]; exact ⟨by rw [Xi_ne (by omega)]; exact Xi_same rw', Xi_same rh⟩
    have g4 : ∀ j : Nat, j ≠ o.toNat → Xi V' 919 j = Xi B' 919 j ∧ Xi V' 920 j = Xi B' 920 j := fun j hj => by rw [eV]; exact ⟨by rw [Xi_ne (by omega), Xi_ne (by omega)], by rw [Xi_ne (by omega), Xi_ne (by omega)]⟩
    have a : KEP [(2, 12), (13, 20), (21, 22), (25, 65), (66, 106), (107, 147), (148, 188), (189, 195), (196, 220), (221, 245), (245, 246), (902, 904)] [(1, 3), (20, 1), (20, 12)] B V := F.kep rfl
    have b : KEP [(906, 907), (912, 919), (921, 923), (924, 946)] [(904, 15), (904, 16), (904, 18), (904, 19), (904, 23), (904, 30), (904, 32), (904, 41), (904, 47), (904, 49), (904, 51)] B' V' := G.kep rfl
    have cc : ∀ j, Xi V 5 j = Xi B 5 j := a.x 5 rfl
    have d : ∀ j, Xi B 5 j ≤ Xi V 5 j := fun j => by rw [cc]; exact Int.le_refl _
    have ac : ACY V := by
      rcases pv with ⟨pv, _⟩ | ⟨pv, nw⟩
      · rw [pv]; exact acy
      · exact acy_p ob acy c ho hh nw (cc 2) g1.2 (fun j hj => (g2 j hj).2)
    obtain ⟨h1, h2, h3, h4, h5, h6, h7, h8, h9, h10, h11, h12, h13, h14⟩ := h
    refine ⟨⟨h1.k (a.le rfl (by decide)) (b.le rfl (by decide)), h2.k (a.le rfl (by decide)), h3.k (a.le rfl (by decide)) (b.le rfl (by decide)), h4.k (cc 0) (a.le rfl (by decide)) (b.le rfl (by decide)), h5.k (cc 0) (cc 4) (cc 5) (d 1) (a.le rfl (by decide)) (b.le rfl (by decide)), h6.k (cc 3) (d 0) (a.le rfl (by decide)) (b.le rfl (by decide)), h7.k (cc 6) (d 0) (a.le rfl (by decide)) (b.le rfl (by decide)), h8.k (d 2) (a.le rfl (by decide)) (b.le rfl (by decide)), h9.k (cc 7) (cc 8) (d 6) (d 0) (a.le rfl (by decide)) (b.le rfl (by decide)), ?_, ac, h12.k h3 (cc 2) (cc 0) (a.le rfl (by decide)) (b.le rfl (by decide)), h13.k h3 t3 (cc 2) (cc 0) (d 5) (a.le rfl (by decide)) (b.le rfl (by decide)) (fun p _ => b.x 928 rfl p), h14.k h3 (d 2) (a.le rfl (by decide)) (b.le rfl (by decide))⟩, by unfold TX3 at t3 ⊢; rw [txr_k a (by decide)]; exact t3, F, G⟩
    refine ⟨⟨by rw [cc, b.f 904 19 (by decide)]; exact h10.1.1, fun x hx => ?_⟩, fun x hx => ?_⟩
    · rw [cc] at hx ⊢
      rw [a.x 21 rfl, b.x 918 rfl]
      exact h10.1.2 x hx
    · rw [cc] at hx ⊢
      by_cases q : x = o.toNat
      · subst q
        rw [g1.1, g1.2, g3.1, g3.2]
        exact ⟨⟨rfl, rfl⟩, by omega, by omega, by omega, by omega⟩
      · rw [(g2 x q).1, (g2 x q).2, (g4 x q).1, (g4 x q).2]
        exact h10.2 x hx
  refine ⟨fun p w => ?_, fun p => ?_, fun p w => ?_⟩
  · obtain ⟨a, b⟩ := pln.1 p
    by_cases g : Xi B 22 o.toNat = 0
    · obtain ⟨z1, z2⟩ := t6 a g (by rw [iw, w]; decide)
      exact ⟨z1, place a (Or.inr ⟨z2, by rw [iw, w]; decide⟩)⟩
    · have b := b.resolve_left g
      obtain ⟨z1, z2⟩ := t2 a g b
      exact ⟨z1, place a (Or.inl ⟨z2, b⟩)⟩
  · by_cases a : isK B (Xi B 21 o.toNat) 0 = 1
    · have g : Xi B 22 o.toNat ≠ 0 := fun y => p (pln.2 ⟨a, Or.inl y⟩)
      exact (t4 a g (fun y => p (pln.2 ⟨a, Or.inr y⟩))).1
    · exact (t1 a).1
  · obtain ⟨a, b⟩ := pln.1 p
    have i1 : isW B hd o = 1 := by omega
    by_cases g : Xi B 22 o.toNat = 0
    · exact (t5 a g i1).1
    · have b := b.resolve_left g
      obtain ⟨rk, hr⟩ := acy
      obtain ⟨k, _, e⟩ := (iw_y ho.1 25 hd).1 i1
      have r := it_rk hr hb hh.2 k (by omega)
      have r2 := hr o.toNat (by omega) (by omega)
      rw [b.2] at r2
      rw [e] at r
      omega
end
section
/-! class and reference: the objects of a LIST, one after the other -/
def lCH : List rec := [(1, 2, 3, 4), (2, 3, 0, 100000), (3, 4, 0, 100000), (4, 5, 0, 100000), (5, 6, 0, 100000), (21, 22, 0, 100000), (22, 23, 0, 100000), (23, 24, 0, 100000), (25, 65, 0, 100000), (66, 106, 0, 100000), (107, 147, 0, 100000), (148, 188, 0, 100000)]
def lRH : List rec := [(904, 905, 15, 16), (904, 905, 19, 20), (912, 913, 0, 100000), (913, 914, 0, 100000), (914, 915, 0, 100000), (915, 916, 0, 100000), (916, 917, 0, 100000), (918, 919, 0, 100000), (919, 920, 0, 100000), (920, 921, 0, 100000), (925, 926, 0, 100000), (930, 931, 0, 100000), (904, 905, 60, 61), (930, 933, 0, 100000)]
def wdX (X : sS) (i : Nat) (j : Int) : Int := wRw X 879 (kr7 (ty7 X) i) (re7 (ty7 X) (kr7 (ty7 X) i)) j
/-- after n objects -/
def LIV (X T : sS) (n : Nat) (W W' : sS) : Prop := (RLV W W' ∧ TX3 W) ∧ (FR lCH X W ∧ FR lRH T W') ∧ ((∀ j, j ≠ 2 → Xi W 5 j = Xi X 5 j) ∧ Xi X 5 2 ≤ Xi W 5 2 ∧ Xi W 5 2 ≤ Xi X 5 2 + nwn X n) ∧ (∀ r s : Int, rnR T r s ≠ -1 → rnR W' r s = rnR T r s) ∧ (∀ x y z : Int, NOE X x y z → (∀ i : Nat, i < n → mI X i = -1 → ¬ (wdX X i 0 = x ∧ wdX X i 1 = y ∧ wdX X i 2 = z)) → NOE W x y z)
theorem liv_0 {X T : sS} (h : RLV X T) (t3 : TX3 X) : LIV X T 0 X T := ⟨⟨h, t3⟩, ⟨FR.rf, FR.rf⟩, ⟨fun _ _ => rfl, Int.le_refl _, by show Xi X 5 2 ≤ Xi X 5 2 + ((0 : Nat) : Int); omega⟩, fun _ _ _ => rfl, fun _ _ _ h _ => h⟩
/-- the sentence, later on -/
theorem scx_k {X T W W' : sS} {f : Nat} (h : SCX X T f) (F : FR lCH X W) (G : FR lRH T W') : SCX W W' f := by
  have a : KEP [(876, 880)] [] X W := F.kep rfl
  have b : KEP [(907, 911)] [] T W' := G.kep rfl
  refine ⟨fun r hr => ?_, by rw [a.x 876 rfl]; exact h.2⟩
  rw [a.x 876 rfl] at hr
  have t := h.1 r hr
  unfold TKW
  rw [a.x 877 rfl, a.x 878 rfl, a.j 879 rfl, b.x 907 rfl, b.x 908 rfl, b.x 909 rfl, b.j 910 rfl]
  exact t
theorem ty_k {X W : sS} (F : FR lCH X W) : ty7 W = ty7 X := FRT F rfl rfl
theorem rnr_k {X T W W' : sS} {f : Nat} {r x y : Int} (h : RNR X T f r x y) (F : FR lCH X W) (G : FR lRH T W') : RNR W W' f r x y := by
  have a : KEP [(876, 880)] [] X W := F.kep rfl
  have b : KEP [(950, 952)] [] T W' := G.kep rfl
  unfold RNR
  rw [ty_k F, a.x 876 rfl, b.x 950 rfl, b.x 951 rfl]
  exact h
/-- one object: its name -/
theorem liv_o {X T W W' A A' : sS} {f N n : Nat} {F o p k : Int} (h : LIV X T n W W') (hX : RLV X T) (sc : SCX X T f) (l : LRN X T f F N) (lo : LOO X N) (hn : n < N) (hk : 0 ≤ k ∧ k < Xi X 5 0) (ob : OBF W A o (kr7 (ty7 X) n) (re7 (ty7 X) (kr7 (ty7 X) n)) k) (ot : OTR W' A' p (F + n) k) (G : FR lOT W' A') : o = p ∧ LIV X T (n + 1) A A' ∧ (0 ≤ o ∧ o < Xi A 5 2) := by
  obtain ⟨⟨w1, w2⟩, ⟨w3, w4⟩, ⟨w5, w6, w7⟩, w8, w9⟩ := h
  have kr := l n hn
  have scW := scx_k sc w3 w4
  have krW := rnr_k kr w3 w4
  have hx := w1.1.2.2.2.1
  have h15 : 0 ≤ Xi W' 904 15 := by have := w1.1.1.1; omega
  have hxX := hX.1.2.2.2.1
  have h15X : 0 ≤ Xi T 904 15 := by have := hX.1.1.1; omega
  have fe : fnd W 2 (kr7 (ty7 X) n) (re7 (ty7 X) (kr7 (ty7 X) n)) = rnR W' (F + n) 4 := rn_fnd (s := 4) (scx_s scW w1.1) krW hx h15 (by omega)
  have feX : fnd X 2 (kr7 (ty7 X) n) (re7 (ty7 X) (kr7 (ty7 X) n)) = rnR T (F + n) 4 := rn_fnd (s := 4) (scx_s sc hX.1) kr hxX h15X (by omega)
  have c2 := hX.2.2.1.2.2.1
  have a9 : ∀ j, Xj W 879 j = Xj X 879 j := (w3.kep rfl : KEP [(879, 880)] [] X W).j 879 rfl
  have b9 : KEP [(910, 911), (950, 952)] [] T W' := w4.kep rfl
  have w8n := w8 (F + n) 4
  have nn : fnd W 2 (kr7 (ty7 X) n) (re7 (ty7 X) (kr7 (ty7 X) n)) = -1 → (mnV W (kr7 (ty7 X) n) (re7 (ty7 X) (kr7 (ty7 X) n)) = -1 ∧ re7 (ty7 X) (kr7 (ty7 X) n) - kr7 (ty7 X) n ≤ 3 ∧ Xi W 5 2 < 24) ∧ NWI X n := fun q => by
    rcases lo n hn with ⟨_, g⟩ | ⟨g, gc⟩
    · have g : rnR T (F + n) 4 ≠ -1 := by rw [← feX]; exact g
      have t := w8n g
      rw [← fe, q] at t
      exact absurd t.symm g
    · have b30 : re7 (ty7 X) (kr7 (ty7 X) n) ≤ 5130 := by have := kr.2.2.1; have := sc.2; omega
      have hs : 1 ≤ re7 (ty7 X) (kr7 (ty7 X) n) - kr7 (ty7 X) n := by have := kr.2.1; omega
      have no := w9 _ _ _ (new_ne hX.1.2.2.1 hX.1.1.1.2 ⟨kr.1, b30⟩ ⟨hs, g.2.1⟩ g.1) (fun i hi mi e => by
        have ki := l i (by omega)
        have gi : re7 (ty7 X) (kr7 (ty7 X) i) - kr7 (ty7 X) i ≤ 3 := by
          rcases lo i (by omega) with ⟨y, _⟩ | ⟨y, _⟩
          · exact absurd mi y
          · exact y.2.1
        exact g.2.2 i hi mi (al_wd ⟨by have := ki.2.1; omega, gi⟩ ⟨hs, g.2.1⟩ ki.1 kr.1 (scx_w sc ki.2.2.2.2.2) (scx_w sc kr.2.2.2.2.2) e.1 e.2.1 e.2.2))
      have m1 : mnV W (kr7 (ty7 X) n) (re7 (ty7 X) (kr7 (ty7 X) n)) = -1 := by
        unfold mnV
        rw [if_pos ⟨hs, g.2.1, kr.1, b30⟩]
        unfold mnR
        have e0 : Xj W 879 (kr7 (ty7 X) n).toNat = wRw X 879 (kr7 (ty7 X) n) (re7 (ty7 X) (kr7 (ty7 X) n)) 0 := by unfold wRw; rw [if_pos (by omega), Int.add_zero, a9]
        have e1 : (if 1 < (re7 (ty7 X) (kr7 (ty7 X) n) - kr7 (ty7 X) n).toNat then Xj W 879 ((kr7 (ty7 X) n).toNat + 1) else 0) = wRw X 879 (kr7 (ty7 X) n) (re7 (ty7 X) (kr7 (ty7 X) n)) 1 := by
          unfold wRw
          have k1 := kr.1
          by_cases y : kr7 (ty7 X) n + 1 < re7 (ty7 X) (kr7 (ty7 X) n)
          · rw [if_pos y, if_pos (by omega), a9, show (kr7 (ty7 X) n).toNat + 1 = (kr7 (ty7 X) n + 1).toNat by omega]
          · rw [if_neg y, if_neg (by omega)]
        have e2 : (if 2 < (re7 (ty7 X) (kr7 (ty7 X) n) - kr7 (ty7 X) n).toNat then Xj W 879 ((kr7 (ty7 X) n).toNat + 2) else 0) = wRw X 879 (kr7 (ty7 X) n) (re7 (ty7 X) (kr7 (ty7 X) n)) 2 := by
          unfold wRw
          have k1 := kr.1
          by_cases y : kr7 (ty7 X) n + 2 < re7 (ty7 X) (kr7 (ty7 X) n)
          · rw [if_pos y, if_pos (by omega), a9, show (kr7 (ty7 X) n).toNat + 2 = (kr7 (ty7 X) n + 2).toNat by omega]
          · rw [if_neg y, if_neg (by omega)]
        rw [e0, e1, e2]
        exact (noe_mn w1.1.2.2.1).1 no
      exact ⟨⟨m1, g.2.1, by omega⟩, g⟩
  have s := st_obv w1.r3 w2 scW krW (fun _ => rfl) ⟨fun _ => rfl, fun _ => rfl, fun _ => rfl⟩ (by rw [w5 0 (by omega)]; exact hk) (fun q => (nn q).1) (obx_of (SMO_rf W) ob.1 (SMO_rf A)) (ob.2.kep rfl) ot G fe
  obtain ⟨s1, s2, s3, s4, s5⟩ := s
  have Fo := ob.2
  have F2 : FR lCH X A := w3.tr Fo rfl
  have G2 : FR lRH T A' := w4.tr G rfl
  have wy := w1.2.2.2.2.2.2.2.2.2.2.2.2.2.k w1.2.2.1 s5 (Fo.kep rfl) (G.kep rfl)
  have nwx : nwn X (n + 1) = nwn X n + (if mI X n = -1 then 1 else 0) := rfl
  refine ⟨s1, ⟨⟨s2.v wy, s4⟩, ⟨F2, G2⟩, ⟨fun j hj => ?_, by omega, ?_⟩, fun r s q => ?_, fun x y z q d => ?_⟩, s3⟩
  · by_cases g : fnd W 2 (kr7 (ty7 X) n) (re7 (ty7 X) (kr7 (ty7 X) n)) = -1
    · rw [(ob.1.2 g).2.2.2.1 j hj]; exact w5 j hj
    · rw [(ob.1.1 g).2]; exact w5 j hj
  · by_cases g : fnd W 2 (kr7 (ty7 X) n) (re7 (ty7 X) (kr7 (ty7 X) n)) = -1
    · have e := (ob.1.2 g).2.2.1
      have m := (nn g).2.1
      rw [nwx, if_pos m, e]; omega
    · rw [(ob.1.1 g).2, nwx]; split <;> omega
  · have t := w8 r s q
    by_cases g : rnR W' (F + n) 4 = -1
    · obtain ⟨_, tl, _⟩ := ot.2 g
      have K : KEP [(910, 911), (950, 952)] [] W' A' := G.kep rfl
      rw [rnR_tl tl h15 (K.j 910 rfl) (K.x 950 rfl) (K.x 951 rfl) (by rw [t]; exact q), t]
    · rw [(ot.1 g).2, t]
  · by_cases g : fnd W 2 (kr7 (ty7 X) n) (re7 (ty7 X) (kr7 (ty7 X) n)) = -1
    · obtain ⟨_, ⟨i, tn⟩, _⟩ := ob.1.2 g
      have m := (nn g).2.1
      have f1 : FRS W 2 (Xi W 5 2) := frs_s w1.2.1 (by omega) (Int.le_refl _)
      refine noe_add tn f1 (w9 x y z q (fun i hi => d i (by omega))) (fun e => d n (by omega) m ?_)
      have e3 : ∀ j, wRw W 879 (kr7 (ty7 X) n) (re7 (ty7 X) (kr7 (ty7 X) n)) j = wdX X n j := fun j => by unfold wdX wRw; rw [a9]
      rw [e3, e3, e3] at e
      exact e
    · rw [(ob.1.1 g).2]; exact w9 x y z q (fun i hi => d i (by omega))
/-- what else is told of it changes no words -/
theorem liv_k {X T A A' B B' : sS} {n : Nat} {l m : List rec} (h : LIV X T n A A') (r : RLV B B') (t3 : TX3 B) (F : FR l A B) (G : FR m A' B') (e1 : sub l lCH = true) (e2 : sub m lRH = true) (e3 : kepC l [(2, 6)] [(1, 3)] = true) (e4 : (kdis m [(908, 909), (910, 911), (912, 917), (950, 952)] && !(mdf m 904 15)) = true) : LIV X T n B B' := by
  obtain ⟨_, ⟨w3, w4⟩, ⟨w5, w6, w7⟩, w8, w9⟩ := h
  have K := F.kep e3
  rw [Bool.and_eq_true] at e4
  have sm : SMR A' B' := SMR_FR G e4.1 (by simpa using e4.2)
  have c : ∀ j, Xi B 5 j = Xi A 5 j := K.x 5 rfl
  refine ⟨⟨r, t3⟩, ⟨w3.tr F e1, w4.tr G e2⟩, ⟨fun j hj => by rw [c]; exact w5 j hj, by rw [c]; exact w6, by rw [c]; exact w7⟩, fun x s q => by rw [rnR_sm sm]; exact w8 x s q, fun x y z q d j hj mt => ?_⟩
  rw [K.f 1 3 (by decide)] at hj
  exact w9 x y z q d j hj ((mt_k (fun a _ => K.j 2 rfl _)).1 mt)
end
section
/-! class and reference: an object of a LIST: all that is told of it -/
/-- what stays over the whole LIST -/
def LCX (X T : sS) (f N : Nat) (F ds k wy hd : Int) : Prop := (RLV X T ∧ SCX X T f ∧ LRN X T f F N ∧ LOO X N) ∧ (Xi T 904 71 = F) ∧ (ds = 0 ↔ Xi T 904 70 = 13) ∧ (ds ≠ 0 → 0 ≤ k ∧ k < Xi X 5 0) ∧ (ds ≠ 0 → k = Xi T 904 110 ∧ CDS X T X (Xi X 895 14).toNat ∧ (Xi T 904 112).toNat = (Xi X 895 14).toNat ∧ 0 ≤ Xi X 895 14) ∧ (wy = Xi T 904 73 ∧ 0 ≤ wy ∧ wy ≤ 5) ∧ (wy ≠ 0 → hd = rnR T (Xi T 904 74) 4 ∧ 0 ≤ hd ∧ hd < Xi X 5 2)
theorem liv_q {X T W W' A A' : sS} {f N n : Nat} {F ds k wy hd o p : Int} (c : LCX X T f N F ds k wy hd) (h : LIV X T n W W') (hn : n < N) (ob : OBF W A o (kr7 (ty7 X) n) (re7 (ty7 X) (kr7 (ty7 X) n)) (if ds = 0 then 0 else k)) (rq : RQA T W' A' p n) : o = p ∧ LIV X T (n + 1) A A' ∧ (0 ≤ o ∧ o < Xi A 5 2) ∧ Xi A' 904 60 = (if n = 0 then o else Xi W' 904 60) := by
  obtain ⟨⟨c1, c2, c3, c4⟩, c5, c6, c7, c8, _⟩ := c
  obtain ⟨B, ot, G, e⟩ := rq
  rw [c5] at ot
  have d0 := c1.2.2.1.1
  have kk : (if Xi T 904 70 = 13 then 0 else Xi T 904 110) = (if ds = 0 then 0 else k) := by
    by_cases q : ds = 0
    · rw [if_pos q, if_pos (c6.1 q)]
    · rw [if_neg q, if_neg (fun y => q (c6.2 y)), (c8 q).1]
  rw [kk] at ot
  have kb : 0 ≤ (if ds = 0 then 0 else k) ∧ (if ds = 0 then 0 else k) < Xi X 5 0 := by
    by_cases q : ds = 0
    · rw [if_pos q]; omega
    · rw [if_neg q]; exact c7 q
  obtain ⟨s1, s2, s3⟩ := liv_o h c1 c2 c3 c4 hn kb ob ot G
  have E : FR [(904, 905, 60, 61)] B A' := by rw [e]; unfold sD; exact FR.wI FR.rf rfl
  have c2' := s2.1.1.2.2.1.2.2.1
  refine ⟨s1, liv_k s2 (s2.1.1.k s2.1.2 KEP.rf (E.kep rfl)) s2.1.2 (FR.rf : FR [] A A) E rfl rfl rfl rfl, s3, ?_⟩
  · rw [e]
    unfold sD
    rw [Xi_same ?_, G.x 904 60 rfl, ← s1]
    by_cases q : n = 0
    · rw [if_pos q]; unfold rg; omega
    · rw [if_neg q]; have u : -2147483648 ≤ Xi B 904 60 ∧ Xi B 904 60 ≤ 2147483647 := Xi_rgI; unfold rg; omega
/-- kind and ADJECTIVES -/
theorem liv_d {X T A A' : sS} {f N n : Nat} {F ds k wy hd o : Int} (c : LCX X T f N F ds k wy hd) (hd0 : ds ≠ 0) (h : LIV X T n A A') (ho : 0 ≤ o ∧ o < Xi A 5 2) {C : sS} {z : Int} (tk : TKDC A C z o k) : (∀ C' : sS, RK1 A' C' o (Xi T 904 110) → z = 1 ∧ ∀ (B : sS) (y : Int), (y = 0 ∨ y = 1) → TAC C B y o → (∀ B' : sS, RAC T C' o (Xi T 904 112).toNat B' → y = 1 ∧ LIV X T n B B' ∧ Xi B 5 2 = Xi A 5 2 ∧ Xi B' 904 60 = Xi A' 904 60) ∧ ((∃ (D E : sS) (i : Nat), (i : Int) < Xi T 904 112 ∧ RAC T C' o i D ∧ TRD D E 0 o (Xi T 967 i) 1) → y = 0)) ∧ (RK0 A' o (Xi T 904 110) → z = 0) := by
  obtain ⟨⟨c1, c2, c3, c4⟩, c5, c6, c7, c8, _⟩ := c
  obtain ⟨k1, k2, k3, k4⟩ := c8 hd0
  have w5 := h.2.2.1.1
  rw [k1] at tk
  obtain ⟨t1, t2⟩ := tkd_r h.1.1 h.1.2 ho (by rw [w5 0 (by omega), ← k1]; exact c7 hd0) tk
  refine ⟨fun C' r => ?_, t2⟩
  obtain ⟨z1, u1, u2, u3, u4⟩ := t1 C' r
  refine ⟨z1, fun B y hy ta => ?_⟩
  have hC : LIV X T n C C' := liv_k h u1 u2 u3 u4 rfl rfl rfl rfl
  have FC := hC.2.1.1
  have K : KEP [(8, 10), (896, 898)] [(895, 14)] X C := FC.kep rfl
  have w5C := hC.2.2.1.1
  have e14 : Xi C 895 14 = Xi X 895 14 := K.f 895 14 (by decide)
  have cd : CDS C T C (Xi C 895 14).toNat := fun i hi => by
    rw [e14] at hi
    have t := k2 i hi
    rw [K.x 896 rfl, K.x 897 rfl, w5C 3 (by omega), w5C 4 (by omega), w5C 5 (by omega), K.x 8 rfl, K.x 9 rfl]
    exact t
  have cx : ∀ j, Xi C 5 j = Xi A 5 j := (u3.kep rfl : KEP [(5, 6)] [] A C).x 5 rfl
  obtain ⟨r1, r2⟩ := tac_r u1 u2 (by rw [cx]; exact ho) cd (by rw [e14]; exact k3) (by rw [e14]; exact k4) ta hy
  refine ⟨fun B' rb => ?_, r2⟩
  obtain ⟨y1, v1, v2, v3, v4⟩ := r1 B' rb
  refine ⟨y1, liv_k hC v1 v2 v3 v4 rfl rfl rfl rfl, ?_, ?_⟩
  · rw [(v3.kep rfl : KEP [(5, 6)] [] C B).x 5 rfl, cx]
  · rw [v4.x 904 60 rfl, u4.x 904 60 rfl]
/-- the place -/
theorem liv_p {X T B B' V : sS} {f N n : Nat} {F ds k wy hd o z : Int} (c : LCX X T f N F ds k wy hd) (w0 : wy ≠ 0) (h : LIV X T n B B') (ho : 0 ≤ o ∧ o < Xi B 5 2) (t : TPLC B V z o wy hd) : (PLN B' o → wiR B' (rnR B' (Xi B' 904 74) 4) o = 0 → z = 0 ∧ ∀ V' : sS, V' = uI (uI B' 919 o.toNat (Int32.ofInt (Xi B' 904 73))) 920 o.toNat (Int32.ofInt (rnR B' (Xi B' 904 74) 4)) → LIV X T n V V' ∧ Xi V 5 2 = Xi B 5 2 ∧ Xi V' 904 60 = Xi B' 904 60) ∧ (¬ PLN B' o → z = 5) ∧ (PLN B' o → wiR B' (rnR B' (Xi B' 904 74) 4) o ≠ 0 → z = 6) := by
  obtain ⟨⟨c1, c2, c3, c4⟩, c5, c6, c7, c8, c9, c10⟩ := c
  obtain ⟨d1, d2, d3⟩ := c10 w0
  have G := h.2.1.2
  have e73 : Xi B' 904 73 = wy := by rw [G.x 904 73 rfl]; exact c9.1.symm
  have e74 : rnR B' (Xi B' 904 74) 4 = hd := by
    rw [G.x 904 74 rfl, h.2.2.2.1 _ _ (by rw [← d1]; omega), ← d1]
  have w6 := h.2.2.1.2.1
  obtain ⟨r1, r2, r3⟩ := tpl_r h.1.1 h.1.2 ho (by omega) (by omega) e73 e74 t
  rw [e74]
  refine ⟨fun p w => ?_, r2, r3⟩
  obtain ⟨z1, g⟩ := r1 p w
  refine ⟨z1, fun V' e => ?_⟩
  rw [e73] at e
  obtain ⟨g1, g2, g3, g4⟩ := g V' e
  refine ⟨liv_k h g1 g2 g3 g4 rfl rfl rfl rfl, ?_, ?_⟩
  · rw [(g3.kep rfl : KEP [(5, 6)] [] B V).x 5 rfl]
  · rw [g4.x 904 60 rfl]
/-- one object, in both -/
theorem liv_s {X T W W' : sS} {f N n : Nat} {F ds k wy hd o p : Int} (c : LCX X T f N F ds k wy hd) (h : LIV X T n W W') (hn : n < N) : (∀ V V' : sS, DO1 W V o (kr7 (ty7 X) n) (re7 (ty7 X) (kr7 (ty7 X) n)) ds k wy hd → RO1 T W' V' p n → o = p ∧ LIV X T (n + 1) V V' ∧ (0 ≤ o ∧ o < Xi V 5 2) ∧ Xi V' 904 60 = (if n = 0 then o else Xi W' 904 60)) ∧ (∀ (V : sS) (e : Int), DO1 W V o (kr7 (ty7 X) n) (re7 (ty7 X) (kr7 (ty7 X) n)) ds k wy hd → ROF T W' p n e → False) ∧ (∀ (V' : sS) (d : Int), DOF W o (kr7 (ty7 X) n) (re7 (ty7 X) (kr7 (ty7 X) n)) ds k wy hd d → RO1 T W' V' p n → False) ∧ (∀ d e : Int, DOF W o (kr7 (ty7 X) n) (re7 (ty7 X) (kr7 (ty7 X) n)) ds k wy hd d → ROF T W' p n e → d = e) := by
  have c6 := c.2.2.1
  have c9 := c.2.2.2.2.2.1
  have n13 : ds ≠ 0 ↔ Xi T 904 70 ≠ 13 := ⟨fun y z => y (c6.2 z), fun y z => y (c6.1 z)⟩
  -- stage two: kind, ADJECTIVES
  have two : ∀ {A A' B B' : sS}, OBF W A o (kr7 (ty7 X) n) (re7 (ty7 X) (kr7 (ty7 X) n)) (if ds = 0 then 0 else k) → RQA T W' A' p n → (ds = 0 → B = A) → (ds ≠ 0 → ∃ C : sS, TKDC A C 1 o k ∧ TAC C B 1 o) → (Xi T 904 70 = 13 → B' = A') → (Xi T 904 70 ≠ 13 → ∃ C : sS, RK1 A' C p (Xi T 904 110) ∧ RAC T C p (Xi T 904 112).toNat B') → o = p ∧ LIV X T (n + 1) B B' ∧ (0 ≤ o ∧ o < Xi B 5 2) ∧ Xi B' 904 60 = (if n = 0 then o else Xi W' 904 60) := fun {A A' B B'} ob rq b0 b1 r0 r1 => by
    obtain ⟨s1, s2, s3, s4⟩ := liv_q c h hn ob rq
    by_cases q : ds = 0
    · rw [b0 q, r0 (c6.1 q)]; exact ⟨s1, s2, s3, s4⟩
    · obtain ⟨C, t1, t2⟩ := b1 q
      obtain ⟨C', t3, t4⟩ := r1 (n13.1 q)
      rw [← s1] at t3 t4
      obtain ⟨_, g⟩ := (liv_d c q s2 s3 t1).1 C' t3
      obtain ⟨_, g2, g3, g4⟩ := (g B 1 (Or.inr rfl) t2).1 B' t4
      exact ⟨s1, g2, by rw [g3]; exact s3, g4.trans s4⟩
  refine ⟨fun V V' a b => ?_, fun V e a b => ?_, fun V' d a b => ?_, fun d e a b => ?_⟩
  · obtain ⟨A, B, a1, a2, a3, a4, a5⟩ := a
    obtain ⟨B', ⟨A', b1, b2, b3⟩, b4, b5⟩ := b
    obtain ⟨s1, s2, s3, s4⟩ := two a1 b1 a2 a3 b2 b3
    by_cases q : wy = 0
    · rw [a4 q, b4 (by omega)]; exact ⟨s1, s2, s3, s4⟩
    · obtain ⟨p1, p2, p3⟩ := b5 (by omega)
      rw [← s1] at p1 p2 p3
      obtain ⟨_, g⟩ := (liv_p c q s2 s3 (a5 q)).1 p1 p2
      obtain ⟨g1, g2, g3⟩ := g V' p3
      exact ⟨s1, g1, by rw [g2]; exact s3, g3.trans s4⟩
  · obtain ⟨A, B, a1, a2, a3, a4, a5⟩ := a
    rcases b with ⟨b0, _, A', b1, b2⟩ | ⟨b0, _, A', C', D, E, i, b1, b2, b3, b4, b5⟩ | ⟨b0, B', ⟨A', b1, b2, b3⟩, b4⟩
    · obtain ⟨s1, s2, s3, s4⟩ := liv_q c h hn a1 b1
      obtain ⟨C, t1, _⟩ := a3 (n13.2 b0)
      rw [← s1] at b2
      have := (liv_d c (n13.2 b0) s2 s3 t1).2 b2
      omega
    · obtain ⟨s1, s2, s3, s4⟩ := liv_q c h hn a1 b1
      obtain ⟨C, t1, t2⟩ := a3 (n13.2 b0)
      rw [← s1] at b2 b4 b5
      obtain ⟨_, g⟩ := (liv_d c (n13.2 b0) s2 s3 t1).1 C' b2
      have := (g B 1 (Or.inr rfl) t2).2 ⟨D, E, i, b3, b4, b5⟩
      omega
    · obtain ⟨s1, s2, s3, s4⟩ := two a1 b1 a2 a3 b2 b3
      have q : wy ≠ 0 := by omega
      have t := liv_p c q s2 s3 (a5 q)
      rw [← s1] at b4
      rcases b4 with ⟨_, b4⟩ | ⟨_, b4, b5⟩
      · have := t.2.1 b4; omega
      · have := t.2.2 b4 b5; omega
  · obtain ⟨A, a1, a2⟩ := a
    obtain ⟨B', ⟨A', b1, b2, b3⟩, b4, b5⟩ := b
    rcases a2 with ⟨d0, _, C, t1⟩ | ⟨d0, _, C, B, t1, t2⟩ | ⟨w0, dn, B, V, e0, e1, t⟩
    · obtain ⟨s1, s2, s3, s4⟩ := liv_q c h hn a1 b1
      obtain ⟨C', r1, r2⟩ := b3 (n13.1 d0)
      rw [← s1] at r1
      have := ((liv_d c d0 s2 s3 t1).1 C' r1).1
      omega
    · obtain ⟨s1, s2, s3, s4⟩ := liv_q c h hn a1 b1
      obtain ⟨C', r1, r2⟩ := b3 (n13.1 d0)
      rw [← s1] at r1 r2
      obtain ⟨_, g⟩ := (liv_d c d0 s2 s3 t1).1 C' r1
      have := ((g B 0 (Or.inl rfl) t2).1 B' r2).1
      omega
    · obtain ⟨s1, s2, s3, s4⟩ := two a1 b1 e0 e1 b2 b3
      obtain ⟨p1, p2, p3⟩ := b5 (by omega)
      rw [← s1] at p1 p2
      have := ((liv_p c w0 s2 s3 t).1 p1 p2).1
      omega
  · obtain ⟨A, a1, a2⟩ := a
    rcases a2 with ⟨d0, d5, C, t1⟩ | ⟨d0, d5, C, B, t1, t2⟩ | ⟨w0, dn, B, V, e0, e1, t⟩
    · rcases b with ⟨b0, b5, _⟩ | ⟨b0, b5, _⟩ | ⟨b0, B', ⟨A', b1, b2, b3⟩, b4⟩
      · omega
      · omega
      · obtain ⟨s1, s2, s3, s4⟩ := liv_q c h hn a1 b1
        obtain ⟨C', r1, r2⟩ := b3 (n13.1 d0)
        rw [← s1] at r1
        have := ((liv_d c d0 s2 s3 t1).1 C' r1).1
        omega
    · rcases b with ⟨b0, b5, _⟩ | ⟨b0, b5, _⟩ | ⟨b0, B', ⟨A', b1, b2, b3⟩, b4⟩
      · omega
      · omega
      · obtain ⟨s1, s2, s3, s4⟩ := liv_q c h hn a1 b1
        obtain ⟨C', r1, r2⟩ := b3 (n13.1 d0)
        rw [← s1] at r1 r2
        obtain ⟨_, g⟩ := (liv_d c d0 s2 s3 t1).1 C' r1
        have := ((g B 0 (Or.inl rfl) t2).1 B' r2).1
        omega
    · rcases b with ⟨b0, _, A', b1, b2⟩ | ⟨b0, _, A', C', D, E, i, b1, b2, b3, b4, b5⟩ | ⟨b0, B', ⟨A', b1, b2, b3⟩, b4⟩
      · obtain ⟨s1, s2, s3, s4⟩ := liv_q c h hn a1 b1
        obtain ⟨C, t1, _⟩ := e1 (n13.2 b0)
        rw [← s1] at b2
        have := (liv_d c (n13.2 b0) s2 s3 t1).2 b2
        omega
      · obtain ⟨s1, s2, s3, s4⟩ := liv_q c h hn a1 b1
        obtain ⟨C, t1, t2⟩ := e1 (n13.2 b0)
        rw [← s1] at b2 b4 b5
        obtain ⟨_, g⟩ := (liv_d c (n13.2 b0) s2 s3 t1).1 C' b2
        have := (g B 1 (Or.inr rfl) t2).2 ⟨D, E, i, b3, b4, b5⟩
        omega
      · obtain ⟨s1, s2, s3, s4⟩ := two a1 b1 e0 e1 b2 b3
        have u := liv_p c w0 s2 s3 t
        rw [← s1] at b4
        rcases b4 with ⟨e5, b4⟩ | ⟨e6, b4, b5⟩
        · have := u.2.1 b4; omega
        · have := u.2.2 b4 b5; omega
/-- so many objects, in both -/
theorem liv_c {X T : sS} {f N : Nat} {F ds k wy hd : Int} (c : LCX X T f N F ds k wy hd) (t3 : TX3 X) : ∀ (n : Nat) (W W' : sS) (g : Int), n ≤ N → DOC X ds k wy hd n W g → RDC T n W' → LIV X T n W W' ∧ (n = 0 → g = -1) ∧ (n ≠ 0 → Xi W' 904 60 = g ∧ 0 ≤ g ∧ g < Xi W 5 2)
  | 0, W, W', g, _, a, b => by
    obtain ⟨a1, a2⟩ := a
    have b : W' = T := b
    subst a1
    subst b
    exact ⟨liv_0 c.1.1 t3, fun _ => a2, fun q => absurd rfl q⟩
  | n + 1, W, W', g, hn, a, b => by
    obtain ⟨V, o, g0, a1, a2, a3⟩ := a
    obtain ⟨V', p, b1, b2⟩ := b
    obtain ⟨r1, r2, r3⟩ := liv_c c t3 n V V' g0 (by omega) a1 b1
    obtain ⟨s1, s2, s3, s4⟩ := (liv_s (o := o) (p := p) c r1 (by omega)).1 W W' a2 b2
    refine ⟨s2, fun q => absurd q (by omega), fun _ => ?_⟩
    by_cases q : n = 0
    · rw [if_pos q] at s4
      rw [r2 q, if_pos rfl] at a3
      exact ⟨by omega, by omega, by omega⟩
    · rw [if_neg q] at s4
      obtain ⟨t1, t2, t4⟩ := r3 q
      rw [if_neg (by omega)] at a3
      have e1 := r1.2.2.1.2.1
      have mono : Xi V 5 2 ≤ Xi W 5 2 := by
        obtain ⟨A, B, a1', a2', a3', a4', a5'⟩ := a2
        have m1 : Xi V 5 2 ≤ Xi A 5 2 := by
          by_cases y : fnd V 2 (kr7 (ty7 X) n) (re7 (ty7 X) (kr7 (ty7 X) n)) = -1
          · have := (a1'.1.2 y).2.2.1; omega
          · rw [(a1'.1.1 y).2]; exact Int.le_refl _
        obtain ⟨B', ⟨A', b1', b2', b3'⟩, b4', b5'⟩ := b2
        have m2 : Xi B 5 2 = Xi A 5 2 := by
          by_cases y : ds = 0
          · rw [a2' y]
          · obtain ⟨C, t1, t2⟩ := a3' y
            obtain ⟨u1, u2, u3, u4⟩ := liv_q c r1 (by omega) a1' b1'
            obtain ⟨C', v1, v2⟩ := b3' (fun z => y (c.2.2.1.2 z))
            rw [← u1] at v1 v2
            obtain ⟨_, gg⟩ := (liv_d c y u2 u3 t1).1 C' v1
            exact ((gg B 1 (Or.inr rfl) t2).1 B' v2).2.2.1
        have m3 : Xi W 5 2 = Xi B 5 2 := by
          by_cases y : wy = 0
          · rw [a4' y]
          · have t := a5' y
            obtain ⟨x1, x2, x3, x4, x5⟩ := t
            by_cases y1 : isK B (Xi B 21 o.toNat) 0 = 1
            · by_cases y2 : Xi B 22 o.toNat = 0
              · by_cases y3 : isW B hd o = 1
                · rw [(x4 y1 y2 y3).2]
                · rw [(x5 y1 y2 y3).2]; unfold plO; rw [Xi_ne (by omega), Xi_ne (by omega)]
              · by_cases y3 : Xi B 22 o.toNat = wy ∧ Xi B 23 o.toNat = hd
                · rw [(x2 y1 y2 y3).2]
                · rw [(x3 y1 y2 y3).2]
            · rw [(x1 y1).2]
        omega
      exact ⟨by omega, by omega, by omega⟩
end
section
/-! class and reference: 12, 13 keep the relation -/
theorem doc_p {X : sS} {ds k wy hd : Int} : ∀ (n i : Nat) (V : sS) (g : Int), i < n → DOC X ds k wy hd n V g → ∃ (W Y : sS) (o q : Int), DOC X ds k wy hd i W q ∧ DO1 W Y o (kr7 (ty7 X) i) (re7 (ty7 X) (kr7 (ty7 X) i)) ds k wy hd
  | 0, i, _, _, h, _ => absurd h (by omega)
  | n + 1, i, V, g, h, a => by
    obtain ⟨W, o, q, a1, a2, _⟩ := a
    by_cases e : i = n
    · subst e; exact ⟨W, V, o, q, a1, a2⟩
    · exact doc_p n i W q (by omega) a1
theorem rdc_p {T : sS} : ∀ (n i : Nat) (V : sS), i < n → RDC T n V → ∃ (W Y : sS) (o : Int), RDC T i W ∧ RO1 T W Y o i
  | 0, i, _, h, _ => absurd h (by omega)
  | n + 1, i, V, h, a => by
    obtain ⟨W, o, a1, a2⟩ := a
    by_cases e : i = n
    · subst e; exact ⟨W, V, o, a1, a2⟩
    · exact rdc_p n i W (by omega) a1
/-- the objects of a LIST are told: both tell the same fault, or keep the relation -/
theorem dob_r {U X T U1 S1 : sS} {f : Nat} {F z ds : Int} (c : LCX X T f (nL X) F ds (Xi X 895 12) (Xi X 891 11) (Xi X 891 12)) (t3 : TX3 X) (n72 : (Xi T 904 72).toNat = nL X) (n1 : 1 ≤ nL X) (hz : z = 0 ∨ z = 1) (zf : z = 0 → Xi U1 876 8 ≠ 0) (x0 : (NT3 T).1 = 0) (d : DOB X U1 z ds) (r : RDB T S1) : STP U1 T S1 := by
  have sc := c.1.2.1
  have lr := c.1.2.2.1
  have hv := c.1.1.1
  have c5 := c.2.1
  unfold RDB at r
  rw [n72] at r
  rcases hz with q | q
  · obtain ⟨i, W, o, g, e, hi, d1, d2, d3⟩ := d.2 q
    have nz : Xi U1 876 8 ≠ 0 := zf q
    rcases r with ⟨_, r⟩ | ⟨_, i', W', p, e', hi', r1, r2, r3⟩
    · obtain ⟨W', Y', p, w1, w2⟩ := rdc_p _ i S1 hi r
      have l := (liv_c c t3 i W W' g (by omega) d1 w1).1
      exact ((liv_s (o := o) (p := p) c l hi).2.2.1 Y' e d2 w2).elim
    · rw [n72] at hi'
      rcases (by omega : i < i' ∨ i' < i ∨ i = i') with y | y | y
      · obtain ⟨V', Y', p2, w1, w2⟩ := rdc_p _ i W' y r1
        have l := (liv_c c t3 i W V' g (by omega) d1 w1).1
        exact ((liv_s (o := o) (p := p2) c l hi).2.2.1 Y' e d2 w2).elim
      · obtain ⟨V, Y, o2, g2, w1, w2⟩ := doc_p _ i' W g y d1
        have l := (liv_c c t3 i' V W' g2 (by omega) w1 r1).1
        exact ((liv_s (o := o2) (p := p) c l hi').2.1 Y e' w2 r2).elim
      · subst y
        have l := (liv_c c t3 i W W' g (by omega) d1 r1).1
        have ee := (liv_s (o := o) (p := p) c l hi).2.2.2 e e' d2 r2
        refine Or.inl ⟨nz, Or.inr ⟨x0, ?_⟩⟩
        rw [d3.1, d3.2, rn_pc (scx_s sc hv) (lr i hi), ee, ← c5]
        exact r3
  · obtain ⟨V, g, d1, d2, d3⟩ := d.1 q
    rcases r with ⟨r0, r⟩ | ⟨_, i', W', p, e', hi', r1, r2, r3⟩
    · obtain ⟨l, _, l3⟩ := liv_c c t3 _ V S1 g (Nat.le_refl _) d1 r
      obtain ⟨g1, g2, g3⟩ := l3 (by omega)
      have E : FR [(891, 892, 10, 11)] V U1 := by rw [d2]; exact FR.wI FR.rf rfl
      have b2 := l.1.1.2.2.1.2.2.1
      refine Or.inr ⟨d3, x0, r0, (l.1.1.k l.1.2 (E.kep rfl) KEP.rf).w ⟨?_, ?_, ?_⟩⟩
      · rw [d2, Xi_same (by unfold rg; omega)]; exact g1.symm
      · rw [d2, Xi_same (by unfold rg; omega)]; omega
      · rw [(E.kep rfl : KEP [(5, 6)] [] V U1).x 5 rfl, d2, Xi_same (by unfold rg; omega)]; exact g3
    · rw [n72] at hi'
      obtain ⟨W, Y, o, g2, w1, w2⟩ := doc_p _ i' V g hi' d1
      have l := (liv_c c t3 i' W W' g2 (by omega) w1 r1).1
      exact ((liv_s (o := o) (p := p) c l hi').2.1 Y e' w2 r2).elim
theorem scx_u {U X T : sS} {f : Nat} {l : List rec} (h : SCX U T f) (F : FR l U X) (e : kepC l [(877, 880)] [(876, 7)] = true) : SCX X T f := by
  have a := F.kep e
  refine ⟨fun r hr => ?_, by rw [a.f 876 7 (by decide)]; exact h.2⟩
  rw [a.f 876 7 (by decide)] at hr
  have t := h.1 r hr
  unfold TKW
  rw [a.x 877 rfl, a.x 878 rfl, a.j 879 rfl]
  exact t
theorem ty_u {U X : sS} {l : List rec} (F : FR l U X) (e : kepC l [(877, 880)] [(876, 7)] = true) : ty7 X = ty7 U := by
  have a := F.kep e
  funext i
  unfold ty7
  rw [a.f 876 7 (by decide), a.x 877 rfl]
theorem rnr_u {U X T : sS} {f : Nat} {l : List rec} {r x y : Int} (h : RNR U T f r x y) (F : FR l U X) (e : kepC l [(877, 880)] [(876, 7)] = true) : RNR X T f r x y := by
  unfold RNR
  rw [ty_u F e, (F.kep e).f 876 7 (by decide)]
  exact h
theorem lrn_u {U X T : sS} {f N : Nat} {l : List rec} {F : Int} (h : LRN U T f F N) (G : FR l U X) (e : kepC l [(877, 880)] [(876, 7)] = true) : LRN X T f F N := fun i hi => by
  rw [ty_u G e]
  exact rnr_u (h i hi) G e
theorem st_12 {U U1 S T S1 : sS} {f : Nat} {z : Int} (h : RLW U S) (t3 : TX3 U) (sc : SCX U S f) (l : LRN U S f (Xi S 904 71) (nL U)) (n72 : (Xi S 904 72).toNat = nL U) (n1 : 1 ≤ nL U) (hs : (Xi U 890 2 = 12 ∧ Xi S 904 70 = 12) ∨ (Xi U 890 2 = 13 ∧ Xi S 904 70 = 13)) (kD : Xi U 890 2 = 12 → RNR U S f (Xi S 904 78) (Xi U 890 3 + 2) (at12 U)) (k0 : ty7 U (at12 U) = 103 → Xi S 904 73 = 0) (k1 : ty7 U (at12 U) ≠ 103 → Xi S 904 73 = wyC (ty7 U (at12 U)) ∧ RNR U S f (Xi S 904 74) (rPl U (at12 U)) (re7 (ty7 U) (rPl U (at12 U)))) (hz : z = 0 ∨ z = 1) (zf : z = 0 → Xi U1 876 8 ≠ 0) (tc : TOJ U U1 z) (rc : RO12 S T (d12 U)) {la : List rec} (Fa : FR la S T) (ea : kepC la cSk cSf = true) (ea2 : kepC la [(907, 911), (950, 952)] [(904, 70), (904, 71), (904, 72), (904, 73), (904, 74)] = true) (rd : (NT3 T).1 = 0 → RDB T S1) : STP U1 T S1 := by
  have c2 := h.2.2.1.2.2.1
  have c5 := h.2.2.1.2.2.2.2.2.1
  have h32 : 0 ≤ Xi S 904 32 ∧ Xi S 904 32 ≤ 12 := by omega
  obtain ⟨t1, t2, t4, t5, t6⟩ := tc
  unfold RO12 at rc
  rw [n72] at rc
  obtain ⟨r1, r2, r4, r5, r6, r7⟩ := rc
  have rS := scx_s sc h.1
  have wb : 1 ≤ wyC (ty7 U (at12 U)) ∧ wyC (ty7 U (at12 U)) ≤ 5 := by unfold wyC; repeat (split; omega); omega
  by_cases lo : LOO U (nL U)
  · have lo' := (loo_r h.1 c2.1 sc l (Nat.le_refl _)).1 lo
    have ff : ∀ {e r p : Int}, (z = 0 ∧ FTO U U1 e r) → pc7 U r = p → NTB (NT3 T) e p → e ≠ 0 → STP U1 T S1 := fun a b cc d => by
      refine Or.inl ⟨by rw [a.2.1]; exact d, Or.inl ?_⟩
      rw [a.2.1, a.2.2, b]; exact cc
    have d1 : d12 U = 1 ↔ Xi U 890 2 = 12 := by unfold d12; by_cases q : Xi U 890 2 = 12 <;> simp [q]
    have eW : Xi U 890 2 = 12 → fW S = f + (Xi U 890 3 + 2) ∧ nW S = at12 U - (Xi U 890 3 + 2) := fun q => ⟨(kD q).2.2.2.1, (kD q).2.2.2.2.1⟩
    have cT : Xi U 890 2 = 12 → at12 U - (Xi U 890 3 + 2) ≤ 6 → ccT U (Xi U 890 3 + 2) (at12 U) 0 0 (-1) 4 = dcT S (fW S) (nW S) 0 0 (-1) 4 := fun q g => by
      rw [(eW q).1, (eW q).2]; exact ct_r h sc (kD q) g
    have ds : (Xi U 890 2 = 12 → DS1 U) ↔ (d12 U = 1 → DR1 S) := by
      rw [d1]
      constructor
      · intro y q
        have w := y q
        exact ⟨by rw [(eW q).2]; exact w.1, by rw [← cT q w.1]; exact w.2⟩
      · intro y q
        obtain ⟨w1, w2⟩ := y q
        rw [(eW q).2] at w1
        exact ⟨w1, by rw [cT q w1]; exact w2⟩
    by_cases D : Xi U 890 2 = 12 → DS1 U
    · have D' := ds.1 D
      have pl : (ty7 U (at12 U) ≠ 103 → PL1 U (at12 U)) ↔ (Xi S 904 73 ≠ 0 → PR1 S) := by
        by_cases q : ty7 U (at12 U) = 103
        · exact ⟨fun _ y => absurd (k0 q) y, fun _ y => absurd q y⟩
        · obtain ⟨k1a, k1b⟩ := k1 q
          have e := (pl_r h sc k1b k1a).1
          exact ⟨fun y _ => e.1 (y q), fun y _ => e.2 (y (by omega))⟩
      by_cases P : ty7 U (at12 U) ≠ 103 → PL1 U (at12 U)
      · have x0 := r6 lo' D' (pl.1 P)
        obtain ⟨X, ux, dx⟩ := t6 lo D P
        obtain ⟨u1, ⟨u2, u3, u4, u9⟩, ⟨u5, u6⟩, u7, u8, u10⟩ := ux
        have rd := rd x0
        have hT : RLW U T := h.k t3 KEP.rf (Fa.kep ea)
        have kT := Fa.kep ea2
        have sT := sc.kS (kT.le rfl (by decide))
        have lT := l.kS (kT.le rfl (by decide) : KEP [(950, 952)] [] S T)
        have e71 : Xi T 904 71 = Xi S 904 71 := kT.f 904 71 (by decide)
        have e72 : Xi T 904 72 = Xi S 904 72 := kT.f 904 72 (by decide)
        have e73 : Xi T 904 73 = Xi S 904 73 := kT.f 904 73 (by decide)
        have e74 : Xi T 904 74 = Xi S 904 74 := kT.f 904 74 (by decide)
        have e70 : Xi T 904 70 = Xi S 904 70 := kT.f 904 70 (by decide)
        have nx : nL X = nL U := by unfold nL; rw [u3, u6]
        have kX : KEP [(2, 12), (13, 20), (21, 24), (25, 65), (66, 106), (107, 147), (148, 188), (189, 195), (196, 220), (221, 245), (245, 246), (902, 904)] [(1, 3), (20, 1), (20, 12)] U X := u9.kep rfl
        have vX : RLV X T := hT.v.k t3 kX KEP.rf
        have tX : TX3 X := by unfold TX3 at t3 ⊢; rw [txr_k kX (by decide)]; exact t3
        have cX : ∀ j, Xi X 5 j = Xi U 5 j := kX.x 5 rfl
        have dd : d12 U = 0 ↔ Xi T 904 70 = 13 := by
          rw [e70]
          unfold d12
          rcases hs with ⟨a, b⟩ | ⟨a, b⟩
          · rw [if_pos a, b]; omega
          · rw [if_neg (by omega), b]; omega
        have wy : Xi X 891 11 = Xi S 904 73 := by
          by_cases q : ty7 U (at12 U) = 103
          · rw [u7 q, k0 q]
          · rw [(u8 q).1, (k1 q).1]
        have lc : LCX X T f (nL X) (Xi S 904 71) (d12 U) (Xi X 895 12) (Xi X 891 11) (Xi X 891 12) := by
          have dk : d12 U ≠ 0 → DSK X T (Xi U 5 3) (Xi U 5 4) (Xi U 5 5) U := fun q => by
            have q12 : Xi U 890 2 = 12 := by unfold d12 at q; by_cases y : Xi U 890 2 = 12; exact y; rw [if_neg y] at q; exact absurd rfl q
            obtain ⟨m, m1, m2, m3, m4⟩ := u10 q12
            have w := D q12
            obtain ⟨m', n1', n2', n3'⟩ := r7 (d1.2 q12) (D' (d1.2 q12))
            rw [(eW q12).1, (eW q12).2] at n2' n3'
            rw [(eW q12).2] at n1'
            exact dsk_of h sc (kD q12) w.1 m1 n1' w.2 m2 n2' m3 (by rw [show at12 U - m - (Xi U 890 3 + 2) = at12 U - m - (Xi U 890 3 + 2) from rfl] at m4; exact m4) n3'
          refine ⟨⟨vX, scx_u sT u9 rfl, by rw [nx]; exact lrn_u lT u9 rfl, by rw [nx]; exact (LOO_eq u2 u3 (cX 2)).2 lo⟩, e71, dd, fun q => ?_, fun q => ?_, ⟨by rw [wy, e73], ?_, ?_⟩, fun q => ?_⟩
          · have t := (dk q).2.1; rw [cX]; exact t
          · obtain ⟨a1, a2, a3, a4⟩ := dk q
            refine ⟨a1, fun i hi => ?_, by rw [a3], ?_⟩
            · rw [cX, cX, cX, kX.x 8 rfl, kX.x 9 rfl]
              exact a4 i (by omega)
            · have q12 : Xi U 890 2 = 12 := by unfold d12 at q; by_cases y : Xi U 890 2 = 12; exact y; rw [if_neg y] at q; exact absurd rfl q
              obtain ⟨m, m1, m2, m3, m4⟩ := u10 q12
              rw [m4.1]; exact Int.natCast_nonneg _
          · rw [wy]; by_cases y : ty7 U (at12 U) = 103
            · rw [k0 y]; omega
            · rw [(k1 y).1]; omega
          · rw [wy]; by_cases y : ty7 U (at12 U) = 103
            · rw [k0 y]; omega
            · rw [(k1 y).1]; omega
          · have n103 : ty7 U (at12 U) ≠ 103 := fun y => q (u7 y)
            obtain ⟨k1a, k1b⟩ := k1 n103
            have pe := (pl_r hT sT (by rw [e74]; exact k1b.kS (kT.le rfl (by decide))) (by rw [e73]; exact k1a)).2
            have lt : 0 ≤ hPl U (at12 U) ∧ hPl U (at12 U) < Xi U 5 2 := fnd_wc (by omega) h.1.2.2.1 h.2.1 (P n103).1
            rw [(u8 n103).2, cX]
            exact ⟨pe, lt⟩
        exact dob_r (U := U) lc tX (by rw [e72, nx]; exact n72) (by rw [nx]; exact n1) hz zf x0 dx rd
      · have n103 : ty7 U (at12 U) ≠ 103 := fun y => P (fun w => absurd y w)
        obtain ⟨k1a, k1b⟩ := k1 n103
        have np : ¬ PL1 U (at12 U) := fun y => P (fun _ => y)
        exact ff (t5 lo D n103 np) (rn_pc rS k1b) (r5 lo' D' (by omega) (fun y => np ((pl_r h sc k1b k1a).1.2 y))) (by decide)
    · have q12 : Xi U 890 2 = 12 := Classical.byContradiction (fun y => D (fun w => absurd w y))
      have nd : ¬ DS1 U := fun y => D (fun _ => y)
      by_cases g : at12 U - (Xi U 890 3 + 2) ≤ 6
      · have e := cT q12 g
        have nn : 0 ≤ ccT U (Xi U 890 3 + 2) (at12 U) 0 0 (-1) 4 := by rw [e]; exact dcT_nn h32
        by_cases w : ccT U (Xi U 890 3 + 2) (at12 U) 0 0 (-1) 4 = 0
        · exact ff (t2 lo q12 (Or.inr w)) (rn_pc rS (kD q12)) (r2 lo' (d1.2 q12) (Or.inr (by rw [← e]; exact w))) (by decide)
        · have w1 : 1 < ccT U (Xi U 890 3 + 2) (at12 U) 0 0 (-1) 4 := by
            apply Classical.byContradiction
            intro y
            exact nd ⟨g, by omega⟩
          exact ff (t4 lo q12 g w1) (rn_pc rS (kD q12)) (r4 lo' (d1.2 q12) (by rw [(eW q12).2]; exact g) (by rw [← e]; exact w1)) (by decide)
      · exact ff (t2 lo q12 (Or.inl (by omega))) (rn_pc rS (kD q12)) (r2 lo' (d1.2 q12) (Or.inl (by rw [(eW q12).2]; omega))) (by decide)
  · exact lob_f h.1 c2.1 sc l t1 r1 lo
end
section
/-! class and reference: 15 usually keeps the relation -/
theorem t1_k {W A D B : sS} {z y k m p c : Int} (h : RLW W D) (t3 : TX3 W) (hk : 0 ≤ k ∧ k < Xi W 5 0) (cd : COD m p c) (b1 : p = -1 → m < Xi W 5 3) (b2 : p ≠ -1 → p < Xi W 5 5 ∧ m < Xi W 5 4 ∧ Xi W 8 m.toNat ≠ 1 ∧ Xi W 9 p.toNat = Xi W 8 m.toNat) (t : T1C W A z (24 + k) m p 1) (u : RUK D B y k c) : z = y ∧ (z = 0 ∨ z = 1) ∧ (z = 1 → RLW A B ∧ TX3 A) := by
  have c3 := h.2.2.1.2.2.2.1
  have c5 := h.2.2.1.2.2.2.2.2.1
  rcases cd with ⟨q, e, m0, m1⟩ | ⟨q, e, m0, m1⟩
  · have t := t.1 q
    have u := u.1 (by omega)
    subst e
    obtain ⟨r1, r2, r3⟩ := raq_k h t3 hk ⟨m0, b1 q⟩ (by omega) t u
    exact ⟨r1, r2, fun z1 => ⟨(r3 z1).1, (r3 z1).2.1⟩⟩
  · have t := t.2 (by omega)
    have u := u.2 (by omega)
    have e1 : c % 100 = p := by omega
    have e2 : c / 100 - 1 = m := by omega
    rw [e1, e2] at u
    obtain ⟨g1, g2, g3, g4⟩ := b2 (by omega)
    have ty := h.2.2.2.2.1.2.1 p.toNat (by omega)
    have hv : VLQ W D p m 0 m 0 := ⟨fun y => by rw [← ty.1, g4] at y; exact absurd y g3, fun _ => rfl⟩
    have pr := (h.2.2.2.2.2.2.2.2.2.2.2.2.1.2.1 k.toNat p.toNat (by omega) (by omega)).1
    rw [show ((k.toNat : Nat) : Int) = k by omega, show ((p.toNat : Nat) : Int) = p by omega] at pr
    have tr := tpc_r pr hv ty.1 t u
    have rv : rg m ∧ rg 0 ∧ rg m ∧ rg 0 := by unfold rg; omega
    refine ⟨tr.1, tr.2.1, fun z1 => ?_⟩
    have y1 : y = 1 := by omega
    subst z1
    subst y1
    have w := rpr_k h t3 hk (by omega) hv rv t u
    exact ⟨w.1, w.2.1⟩
theorem ruk_n {S S1 : sS} {z k a : Int} (h : RUK S S1 z k a) : Xi S1 904 106 = Xi S 904 106 := by
  by_cases q : a < 100
  · obtain ⟨h1, h2⟩ := h.1 q
    by_cases w : Xi S 926 (24 * k + a).toNat = (if (1 : Int) = 0 then 1 else 2)
    · rw [(h1 w).2]
    · rw [(h2 w).2]
      unfold rIs
      split
      · rw [Xi_ne (by omega)]
      · rw [Xi_ne (by omega), Xi_ne (by omega)]
  · obtain ⟨h1, h2⟩ := h.2 (by omega)
    by_cases w : Xi S 933 (12 * k + a % 100).toNat ≠ 0 ∧ otwR S (a % 100) (Xi S (933 + 1) (12 * k + a % 100).toNat) (Xi S (933 + 2) (12 * k + a % 100).toNat) (a / 100 - 1) 0
    · rw [(h1 w).2]
    · rw [(h2 w).2]
      unfold tPR
      rw [Xi_ne (by omega), Xi_ne (by omega), Xi_ne (by omega)]
theorem adR_v1 {U S : sS} {t n k d v : Int} (c : RCT U S) : 0 ≤ adR S t n k d v := by
  have c5 := c.2.2.2.2.2.1
  unfold adR
  have m : ∀ t, 0 ≤ mtR S k t ∧ mtR S k t ≤ 12 := fun t => mtR_rg (by omega)
  split
  · omega
  · split
    · omega
    · split
      · exact (m _).1
      · omega
theorem st_15u {U U1 S T S1 : sS} {f : Nat} {z : Int} (h : RLW U S) (t3 : TX3 U) (sc : SCX U S f) (k0 : RNR U S f (Xi S 904 71) (bA (ty7 U) 0) (re7 (ty7 U) (bA (ty7 U) 0))) (s1 : 1 < Xi S 904 72 → sn2 U ≠ -1 ∧ pc7 U (sn2 U) = pR S (Xi S 904 71 + 1)) (s2 : Xi S 904 72 ≤ 1 → sn2 U = -1) (kw : RNR U S f (Xi S 904 78) (Xi U 890 3 + 2) (re7 (ty7 U) (Xi U 890 3 + 2))) (zf : z = 0 → Xi U1 876 8 ≠ 0) (tc : TUS md_me_readAdjective__p U U1 z (bA (ty7 U) 0) (re7 (ty7 U) (bA (ty7 U) 0)) (Xi U 890 3 + 2) (re7 (ty7 U) (Xi U 890 3 + 2))) (rc : ∃ P : sS, FR lA S P ∧ (Xi P 904 106 = 0 ∧ Xi P 904 108 = 0) ∧ RAU P T) (Fa : FR md_mo_asked__15a S T) (rd : (NT3 T).1 = 0 → RUS T S1 ∧ FR md_mo_does__15a T S1) : STP U1 T S1 := by
  obtain ⟨P, FP, _, a1, a2, a3, a4, a5, _⟩ := rc
  have hP : RLW U P := h.k t3 KEP.rf (FP.kep rfl)
  have KP : KEP [(907, 911), (950, 952)] [(904, 71), (904, 72), (904, 78)] S P := FP.kep rfl
  have sP := sc.kS (KP.le rfl (by decide))
  have kP0 := k0.kS (KP.le rfl (by decide) : KEP [(950, 952)] [] S P)
  have kPw := kw.kS (KP.le rfl (by decide) : KEP [(950, 952)] [] S P)
  have e71 : Xi P 904 71 = Xi S 904 71 := KP.f 904 71 (by decide)
  have e72 : Xi P 904 72 = Xi S 904 72 := KP.f 904 72 (by decide)
  have e78 : Xi P 904 78 = Xi S 904 78 := KP.f 904 78 (by decide)
  have pRP : ∀ r, pR P r = pR S r := fun r => by unfold pR; rw [KP.x 908 rfl, KP.x 950 rfl]
  have rP := scx_s sP hP.1
  have rS := scx_s sc h.1
  have hx := hP.1.2.2.2.1
  have h15 : 0 ≤ Xi P 904 15 := by have := hP.1.1.1; omega
  have fe : fnd U 0 (bA (ty7 U) 0) (re7 (ty7 U) (bA (ty7 U) 0)) = kU5 P := by unfold kU5; rw [e71]; exact rn_fnd (s := 0) rP kP0 hx h15 (by omega)
  have me : mnV U (Xi U 890 3 + 2) (re7 (ty7 U) (Xi U 890 3 + 2)) = mR P (fW P) (nW P) := by
    have u := rP.1 _ _ kPw.1 kPw.2.2.1 kPw.2.2.2.2.2
    unfold fW nW
    rw [e78, kPw.2.2.2.1, kPw.2.2.2.2.1]
    exact u
  have pw : pc7 U (Xi U 890 3 + 2) = Xi P 908 (fW P).toNat := by
    have t := rn_pc rP kPw
    unfold pR at t
    unfold fW
    rw [e78]; exact t
  obtain ⟨b1, b2, b3, b4⟩ := tc
  rw [fe] at b1 b2 b3 b4
  rw [e71, pRP] at a1
  rw [e71, pRP, e72] at a2
  rw [e72] at a3 a4 a5
  by_cases q : kU5 P = -1
  · obtain ⟨z0, t1, t2⟩ := b1 q
    refine Or.inl ⟨zf z0, Or.inl ?_⟩
    rw [t1, t2, rn_pc rS k0]
    exact a1 q
  · by_cases w : 1 < Xi S 904 72
    · obtain ⟨z0, t1, t2⟩ := b2 q (s1 w).1
      refine Or.inl ⟨zf z0, Or.inl ?_⟩
      rw [t1, t2, (s1 w).2]
      exact a2 q w
    · have sn := s2 (by omega)
      have kb : 0 ≤ kU5 P ∧ kU5 P < Xi U 5 0 := by rw [← fe] at q ⊢; exact fnd_wc (by omega) h.1.2.2.1 h.2.1 q
      obtain ⟨ae, ac⟩ := adj_r (v := 1) (d := 0) hP me kb
      have ce : raF U (kU5 P) (Xi U 890 3 + 2) (re7 (ty7 U) (Xi U 890 3 + 2)) 1 0 = cU5 P := ae
      rw [ce] at b3 b4
      by_cases c1 : cU5 P = 1
      · obtain ⟨x0, x1⟩ := a5 q (by omega) c1
        obtain ⟨A, B, y, FA, tt, g1, g2⟩ := b4 q sn c1
        obtain ⟨⟨D, y2, uk, cs⟩, Fd⟩ := rd x0
        have hT : RLW U T := h.k t3 KEP.rf (Fa.kep rfl)
        have KT : KEP [(907, 911), (950, 952)] [(904, 71), (904, 72), (904, 78)] S T := Fa.kep rfl
        have sT := sc.kS (KT.le rfl (by decide))
        have kT0 := k0.kS (KT.le rfl (by decide) : KEP [(950, 952)] [] S T)
        have eT71 : Xi T 904 71 = Xi S 904 71 := KT.f 904 71 (by decide)
        have rT := scx_s sT hT.1
        have fT : rnR T (Xi T 904 71) 0 = kU5 P := by
          rw [eT71, ← fe]
          exact (rn_fnd (s := 0) rT kT0 hT.1.2.2.2.1 (by have := hT.1.1.1; omega) (by omega)).symm
        rw [fT, x1] at uk
        have kA : KEP [(2, 12), (13, 25), (25, 65), (66, 106), (107, 147), (148, 188), (189, 195), (196, 220), (221, 245), (245, 246), (902, 904)] [(1, 3), (20, 1), (20, 12), (891, 10)] U A := FA.kep rfl
        have hA : RLW A T := hT.k t3 (FA.kep rfl) KEP.rf
        have tA : TX3 A := by unfold TX3 at t3 ⊢; rw [txr_k kA (by decide)]; exact t3
        obtain ⟨d1, d2, d3⟩ := ac c1
        have r := t1_k hA tA (by rw [kA.x 5 rfl]; exact kb) d1 (by rw [kA.x 5 rfl]; exact d2) (by rw [kA.x 5 rfl, kA.x 5 rfl, kA.x 8 rfl, kA.x 9 rfl]; exact d3) tt uk
        by_cases y1 : y = 1
        · obtain ⟨z1, e1, e2⟩ := g1 y1
          rcases cs with ⟨w1, w2⟩ | ⟨w1, w2⟩
          · subst w2
            subst e1
            exact Or.inr ⟨e2, x0, by rw [show (NT3 S1).1 = Xi S1 904 106 from rfl, ruk_n uk]; exact x0, (r.2.2 y1).1⟩
          · omega
        · obtain ⟨z0, t1, t2⟩ := g2 y1
          rcases cs with ⟨w1, w2⟩ | ⟨w1, w2⟩
          · omega
          · refine Or.inl ⟨zf z0, Or.inr ⟨x0, ?_⟩⟩
            rw [t1, t2, rn_pc rT kT0, ← eT71]
            exact w2
      · obtain ⟨z0, t1, t2⟩ := b3 q sn c1
        refine Or.inl ⟨zf z0, Or.inl ?_⟩
        by_cases c0 : cU5 P = 0
        · rw [if_pos c0] at t1
          rw [t1, t2, pw]
          exact a3 q (by omega) (by omega)
        · rw [if_neg c0] at t1
          have nn : 0 ≤ cU5 P := (adR_v1 (hP.2.2.1))
          rw [t1, t2, pw]
          exact a4 q (by omega) (by omega)
end
section
/-! class and reference: 15 plain, a DESCRIPTION -/
theorem tlo_0 {S S1 : sS} {z : Int} {N : Nat} (t : TLO S S1 z N) (q : ¬ LOO S N) : z = 0 := by
  obtain ⟨k, hk, lk, nk⟩ := loo_n N q
  obtain ⟨t1, t2, t3⟩ := t k hk lk
  by_cases m : mI S k = -1
  · by_cases w : NWI S k
    · by_cases g : 24 ≤ Xi S 5 2 + nwn S k
      · exact (t3 w g).1
      · exact absurd (Or.inr ⟨w, by omega⟩) nk
    · exact (t2 m w).1
  · by_cases g : fI S k = -1
    · exact (t1 m g).1
    · exact absurd (Or.inl ⟨m, g⟩) nk
theorem ah_r {U P : sS} {a b t n : Int} (h : RLW U P) (m : mnV U a b = mR P t n) : (mnV U a b / 256 = 3 ∨ mnV U a b / 256 = 4) ↔ (nmR P t n ≠ -1 ∧ (Xi P 914 (nmR P t n).toNat = 5 ∨ Xi P 914 (nmR P t n).toNat = 6)) := by
  have hx := h.1.2.2.2.1
  have h15 : 0 ≤ Xi P 904 15 := by have := h.1.1.1; omega
  rcases mR_cs (t := t) (n := n) hx h15 with ⟨q, e⟩ | ⟨q, e1, e2, e3, e4, e5⟩
  · constructor
    · intro w; rw [m, e] at w; exact absurd w (by decide)
    · intro w; exact absurd q w.1
  · rw [← m] at e1
    constructor
    · intro w
      rcases w with w | w
      · exact ⟨q, Or.inl (sg_inj ⟨e3, e4⟩ (by omega) (by rw [← e1]; exact w))⟩
      · exact ⟨q, Or.inr (sg_inj ⟨e3, e4⟩ (by omega) (by rw [← e1]; exact w))⟩
    · intro w
      rcases w.2 with w | w
      · left; rw [e1, w]; rfl
      · right; rw [e1, w]; rfl
/-- a plain sentence, as both have it -/
def PLX (U P : sS) (f : Nat) : Prop := RLW U P ∧ TX3 U ∧ SCX U P f ∧ LRN U P f (Xi P 904 71) (nL U) ∧ ((Xi P 904 72).toNat = nL U ∧ 1 ≤ nL U) ∧ RNR U P f (Xi P 904 78) (wh5 U) (eh5 U) ∧ (PLO P (Xi P 904 71) (nL U) (Xi P 904 78) ∧ Xi P 904 78 ≠ -1) ∧ (Xi P 904 77 ≠ 0 ↔ ty7 U (Xi U 890 3) = 5) ∧ (Xi P 904 75 = 0 ↔ nh5 U = 0)
theorem plx_f {U P : sS} {f : Nat} (x : PLX U P f) : fW P = f + wh5 U ∧ nW P = eh5 U - wh5 U ∧ mnV U (wh5 U) (eh5 U) = mR P (fW P) (nW P) ∧ pc7 U (wh5 U) = Xi P 908 (fW P).toNat := by
  obtain ⟨h, t3, sc, l, n, kw, po, _, _⟩ := x
  have rP := scx_s sc h.1
  have e1 : fW P = f + wh5 U := kw.2.2.2.1
  have e2 : nW P = eh5 U - wh5 U := kw.2.2.2.2.1
  refine ⟨e1, e2, ?_, rn_pc rP kw⟩
  rw [e1, e2]
  exact rP.1 _ _ kw.1 kw.2.2.1 kw.2.2.2.2.2
theorem plx_p {U P : sS} {f : Nat} (x : PLX U P f) : (ph5 U ↔ 0 < rd5 P) ∧ (ah5 U ↔ vA5 P) := by
  obtain ⟨f1, f2, f3, _⟩ := plx_f x
  obtain ⟨h, t3, sc, l, n, kw, po, h77, h75⟩ := x
  refine ⟨?_, ah_r h f3⟩
  unfold ph5 rd5
  by_cases q : Xi P 904 77 ≠ 0 ∧ Xi P 904 75 = 0
  · have q' : ty7 U (Xi U 890 3) = 5 ∧ nh5 U = 0 := ⟨h77.1 q.1, h75.1 q.2⟩
    by_cases g : nW P ≤ 6
    · have e := ct_r (pl := 1) (d := 0) (al := -1) h sc kw (by omega)
      rw [if_pos ⟨q, g⟩, f1, f2, ← e]
      exact ⟨fun y => y.2.2, fun y => ⟨q', by omega, y⟩⟩
    · rw [if_neg (fun y => g y.2)]
      exact ⟨fun y => by have := y.2.1; omega, fun y => absurd y (by decide)⟩
  · rw [if_neg (fun y => q y.1)]
    exact ⟨fun y => absurd ⟨h77.2 y.1.1, h75.2 y.1.2⟩ q, fun y => absurd y (by decide)⟩
theorem st_15A {U C U1 P T S1 : sS} {f : Nat} {z : Int} (x : PLX U P f) (FC : FR md_me_countReadings__p U C) (ph : ph5 U) (na : ¬ ah5 U) (w11 : Xi U 891 11 = 0) (hz : z = 0 ∨ z = 1) (zf : z = 0 → Xi U1 876 8 ≠ 0) (tc : TPNA C U1 z (wh5 U) (eh5 U)) (hP0 : Xi P 904 106 = 0) (h70 : Xi P 904 70 ≠ 13) (rc : RAX P T) {la : List rec} (Fa : FR la P T) (ea : kepC la cSk cSf = true) (ea2 : kepC la [(907, 911), (950, 952)] [(904, 70), (904, 71), (904, 72), (904, 74)] = true) (rd : (NT3 T).1 = 0 → Xi T 904 142 = 3 → RDB (uI T 904 73 (Int32.ofInt 0)) S1 ∧ NT3 (uI T 904 73 (Int32.ofInt 0)) = NT3 T) : STP U1 T S1 := by
  obtain ⟨f1, f2, f3, f4⟩ := plx_f x
  obtain ⟨p1, p2⟩ := plx_p x
  obtain ⟨h, t3, sc, l, ⟨n72, n1⟩, kw, ⟨po, w78⟩, _, _⟩ := x
  have r5 := p1.1 ph
  obtain ⟨e142, A', B', nn, ⟨dx, FA', nA'⟩, roi, nt, e110, e112, e967⟩ := rc.1 r5 (fun y => na (p2.2 y))
  obtain ⟨A, y, tob, FA, cs⟩ := tc
  have c2 := h.2.2.1.2.2.1
  have c5 := h.2.2.1.2.2.2.2.2.1
  have h32 : 0 ≤ Xi P 904 32 ∧ Xi P 904 32 ≤ 12 := by omega
  have kC : KEP [(2, 12), (13, 25), (25, 65), (66, 106), (107, 147), (148, 188), (189, 195), (196, 220), (221, 245), (245, 246), (902, 904)] [(1, 3), (20, 1), (20, 12), (891, 10)] U C := FC.kep rfl
  have hC : RLW C P := h.k t3 (FC.kep rfl) KEP.rf
  have tC : TX3 C := by unfold TX3 at t3 ⊢; rw [txr_k kC (by decide)]; exact t3
  have sC := scx_u sc FC rfl
  have tyC := ty_u FC rfl
  have nC : nL C = nL U := by unfold nL; rw [tyC, FC.x 890 3 rfl]
  have lC : LRN C P f (Xi P 904 71) (nL C) := by rw [nC]; exact lrn_u l FC rfl
  have cC : Xi C 5 2 = Xi P 904 19 := hC.2.2.1.2.2.1.1
  have FG : FR lX4 P (uI A' 904 142 (Int32.ofInt 3)) := FR.wI FA' rfl
  have g106 : (NT3 (uI A' 904 142 (Int32.ofInt 3))).1 = 0 := by
    show Xi (uI A' 904 142 (Int32.ofInt 3)) 904 106 = 0
    rw [Xi_ne (by omega)]
    have t := congrArg Prod.fst nA'
    exact (show Xi A' 904 106 = Xi P 904 106 from t).trans hP0
  obtain ⟨rl1, rl2⟩ := roi_sm (S := P) (SMR_FR FG rfl rfl) (FG.x 904 71 rfl) (FG.x 904 72 rfl) (FG.x 904 19 rfl) (by rw [FG.x 904 71 rfl, FG.x 904 72 rfl]; exact roi) g106
  have pw : pR P (Xi P 904 78) = Xi P 908 (fW P).toNat := rfl
  have rlT : RLO P (Xi P 904 71) (nL C) (NT3 T) := by
    rw [nC, ← n72]
    refine ntb_up (g := 0) (p := Xi P 908 (fW P).toNat) rl2 ?_ (fun k hk => ?_)
    · by_cases q : 2 ≤ rd5 P
      · rw [if_pos q] at nt; exact Or.inr ⟨7, nt⟩
      · rw [if_neg q] at nt; exact Or.inl nt
    · rw [← pw]; exact po.2 w78 k (by omega)
  by_cases lo : LOO C (nL C)
  · have y1 := (tob.2.1 lo).1
    rcases cs with ⟨y0, _⟩ | ⟨_, B, xx, td, FB, cs2⟩
    · omega
    have FCA : FR (md_me_countReadings__p ++ md_re_takeObjects__p) U A := FR.tr (FC.up rfl) FA rfl
    have kA : KEP [(2, 12), (13, 25), (25, 65), (66, 106), (107, 147), (148, 188), (189, 195), (196, 220), (221, 245), (245, 246), (902, 904)] [(1, 3), (20, 1), (20, 12), (891, 10)] U A := FCA.kep rfl
    have hA : RLW A P := h.k t3 (FCA.kep rfl) KEP.rf
    have tA : TX3 A := by unfold TX3 at t3 ⊢; rw [txr_k kA (by decide)]; exact t3
    have sA := scx_u sc FCA rfl
    have tyA := ty_u FCA rfl
    have kwA : RNR A P f (Xi P 904 78) (wh5 U) (eh5 U) := rnr_u kw FCA rfl
    have g6 : eh5 U - wh5 U ≤ 6 := ph.2.1
    have ce := ct_r (pl := 1) (d := 0) (al := -1) hA sA kwA g6
    rw [← f1, ← f2] at ce
    have lq : LOQ P (Xi P 904 71) (Xi P 904 72).toNat := by rw [n72, ← nC]; exact (loo_r hC.1 cC sC lC (Nat.le_refl _)).1 lo
    have nB := rl1 lq
    have r5e : rd5 P = dcT P (fW P) (nW P) 1 0 (-1) 4 := by
      unfold rd5 at r5 ⊢
      by_cases q : (Xi P 904 77 ≠ 0 ∧ Xi P 904 75 = 0) ∧ nW P ≤ 6
      · rw [if_pos q]
      · rw [if_neg q] at r5; exact absurd r5 (by decide)
    obtain ⟨_, td2, td3⟩ := td
    by_cases c1 : 1 < ccT A (wh5 U) (eh5 U) 1 0 (-1) 4
    · obtain ⟨x0, t8, t9⟩ := td2 g6 c1
      rcases cs2 with ⟨_, z0, e⟩ | ⟨q, _⟩
      · subst e
        rw [if_pos (by omega)] at nt
        refine Or.inl ⟨zf z0, Or.inl ?_⟩
        have pa : pc7 A (wh5 U) = Xi P 908 (fW P).toNat := rn_pc (scx_s sA hA.1) kwA
        rw [t8, t9, pa, nt]
        exact ntF_0 (by rw [nB]; exact g106)
      · exact absurd x0 q
    · have c1e : ccT A (wh5 U) (eh5 U) 1 0 (-1) 4 = 1 := by omega
      obtain ⟨x1, _, m, m1, m2, m3, m4, m5⟩ := td3 g6 c1e
      rcases cs2 with ⟨x0, _⟩ | ⟨_, dob⟩
      · omega
      rw [if_neg (by omega)] at nt
      have x0 : (NT3 T).1 = 0 := by rw [nt, nB]; exact g106
      obtain ⟨rdb, nu⟩ := rd x0 e142
      -- the description in the reference
      have dx1 := (dx.1 (by
        apply Classical.byContradiction
        intro q
        unfold rd5 at r5
        rw [if_neg (fun y => q y.1)] at r5
        exact absurd r5 (by decide))).1 (by omega)
      have z9 : Xi (z9S P) 904 109 = 0 := Xi_same (by unfold rg; omega)
      have d1 : dcT P (fW P) (nW P) 1 0 (-1) 4 = 1 := by rw [← ce]; exact c1e
      obtain ⟨k, k1, _, k3, k4⟩ := dx1.2.2 z9 (by rw [dcT_am z9_am, d1]; decide)
      rw [dcR_am z9_am] at k3
      have k5 : dcR P (fW P) (nW P) 1 0 (-1) k = 1 := dcT_1 d1 (by omega) (by omega) k3 h32
      have kr : KRD P T (fW P) (nW P) 1 0 k := krd_k (KRD_am z9_am k4) e110 e112 e967
      rw [f1, f2] at k5 kr
      have dk := dsk_of (U1 := B) (V := T) hA sA kwA g6 m1 (by omega) c1e m2 k5 m3 m5 kr
      -- the objects
      have FUB : FR (md_me_countReadings__p ++ md_re_takeObjects__p ++ md_re_takeDescription__p) U B := FR.tr (FCA.up rfl) FB rfl
      have kB : KEP [(2, 12), (13, 25), (25, 65), (66, 106), (107, 147), (148, 188), (189, 195), (196, 220), (221, 245), (245, 246), (902, 904)] [(1, 3), (20, 1), (20, 12), (891, 10), (891, 11)] U B := FUB.kep rfl
      have FT' : FR [(904, 905, 73, 74)] T (uI T 904 73 (Int32.ofInt 0)) := FR.wI FR.rf rfl
      have hT : RLW U T := h.k t3 KEP.rf (Fa.kep ea)
      have hT' : RLW U (uI T 904 73 (Int32.ofInt 0)) := hT.k t3 KEP.rf (FT'.kep rfl)
      have vB : RLV B (uI T 904 73 (Int32.ofInt 0)) := hT'.v.k t3 (FUB.kep rfl) KEP.rf
      have tB : TX3 B := by unfold TX3 at t3 ⊢; rw [txr_k kB (by decide)]; exact t3
      have KT := Fa.kep ea2
      have KT' : KEP [(907, 911), (950, 952)] [(904, 70), (904, 71), (904, 72), (904, 74), (904, 110), (904, 112)] T (uI T 904 73 (Int32.ofInt 0)) := FT'.kep rfl
      have sT := (sc.kS (KT.le rfl (by decide))).kS (KT'.le rfl (by decide))
      have lT := (l.kS (KT.le rfl (by decide) : KEP [(950, 952)] [] P T)).kS (KT'.le rfl (by decide) : KEP [(950, 952)] [] T _)
      have e71 : Xi (uI T 904 73 (Int32.ofInt 0)) 904 71 = Xi P 904 71 := (KT'.f 904 71 (by decide)).trans (KT.f 904 71 (by decide))
      have e72 : Xi (uI T 904 73 (Int32.ofInt 0)) 904 72 = Xi P 904 72 := (KT'.f 904 72 (by decide)).trans (KT.f 904 72 (by decide))
      have e70 : Xi (uI T 904 73 (Int32.ofInt 0)) 904 70 = Xi P 904 70 := (KT'.f 904 70 (by decide)).trans (KT.f 904 70 (by decide))
      have e73 : Xi (uI T 904 73 (Int32.ofInt 0)) 904 73 = 0 := Xi_same (by unfold rg; omega)
      have u110 : Xi (uI T 904 73 (Int32.ofInt 0)) 904 110 = Xi T 904 110 := KT'.f 904 110 (by decide)
      have u112 : Xi (uI T 904 73 (Int32.ofInt 0)) 904 112 = Xi T 904 112 := KT'.f 904 112 (by decide)
      have u967 : ∀ j, Xi (uI T 904 73 (Int32.ofInt 0)) 967 j = Xi T 967 j := fun j => Xi_ne (by omega)
      have tyB := ty_u FUB rfl
      have nB' : nL B = nL U := by unfold nL; rw [tyB, FUB.x 890 3 rfl]
      have e11 : Xi B 891 11 = 0 := (kB.f 891 11 (by decide)).trans w11
      have cB : ∀ j, Xi B 5 j = Xi A 5 j := fun j => (kB.x 5 rfl j).trans (kA.x 5 rfl j).symm
      have lc : LCX B (uI T 904 73 (Int32.ofInt 0)) f (nL B) (Xi P 904 71) 1 (Xi B 895 12) (Xi B 891 11) (Xi B 891 12) := by
        refine ⟨⟨vB, scx_u sT FUB rfl, by rw [nB']; exact lrn_u lT FUB rfl, ?_⟩, e71, ?_, fun _ => ?_, fun _ => ?_, ⟨by rw [e11, e73], by omega, by omega⟩, fun q => absurd e11 q⟩
        · rw [nB', ← nC]
          have KCB : SMV C B := SMV_FR (FR.tr (FA.up rfl : FR (md_re_takeObjects__p ++ md_re_takeDescription__p) C A) FB rfl) rfl rfl
          exact (LOO_eq KCB (by rw [tyB, tyC]) ((kB.x 5 rfl 2).trans (kC.x 5 rfl 2).symm)).2 lo
        · rw [e70]; exact ⟨fun q => absurd q (by decide), fun q => absurd q h70⟩
        · have t := dk.2.1; rw [cB]; exact t
        · obtain ⟨a1, a2, a3, a4⟩ := dk
          refine ⟨by rw [u110]; exact a1, fun i hi => ?_, by rw [u112, a3], ?_⟩
          · rw [u967, cB, cB, cB, (kB.x 8 rfl _).trans (kA.x 8 rfl _).symm, (kB.x 9 rfl _).trans (kA.x 9 rfl _).symm]
            exact a4 i (by omega)
          · rw [m5.1]; exact Int.natCast_nonneg _
      have st := dob_r (U := U) (T := uI T 904 73 (Int32.ofInt 0)) lc tB (by rw [e72, nB']; exact n72) (by rw [nB']; exact n1) hz zf (by rw [nu]; exact x0) dob rdb
      unfold STP at st ⊢
      rw [nu] at st
      exact st
  · rcases cs with ⟨y0, z0, e⟩ | ⟨q, _⟩
    · subst e
      exact lob_f hC.1 cC sC lC tob.1 rlT lo
    · exact absurd (tlo_0 tob.1 lo) q
end
section
/-! class and reference: 15 plain, an ADJECTIVE -/
theorem n4_0 {P : sS} {x : Int × Int × Int} : ∀ n : Nat, (∀ i : Nat, i < n → rnR P (Xi P 904 71 + i) 4 ≠ -1) → n4S P x n = x
  | 0, _ => rfl
  | n + 1, h => by
    show (if rnR P (Xi P 904 71 + n) 4 = -1 then ntF (n4S P x n) 4 (pR P (Xi P 904 71 + n)) else n4S P x n) = x
    rw [if_neg (h n (by omega))]
    exact n4_0 n (fun i hi => h i (by omega))
theorem n4_1 {P : sS} {x : Int × Int × Int} {N i : Nat} (x0 : x.1 = 0) (po : ∀ k i : Nat, k < i → i < N → pR P (Xi P 904 71 + k) < pR P (Xi P 904 71 + i)) (b : ∀ k : Nat, k < i → rnR P (Xi P 904 71 + k) 4 ≠ -1) (e : rnR P (Xi P 904 71 + i) 4 = -1) : ∀ n : Nat, i < n → n ≤ N → NTB (n4S P x n) 4 (pR P (Xi P 904 71 + i))
  | 0, h, _ => absurd h (by omega)
  | n + 1, h, g => by
    show NTB (if rnR P (Xi P 904 71 + n) 4 = -1 then ntF (n4S P x n) 4 (pR P (Xi P 904 71 + n)) else n4S P x n) 4 (pR P (Xi P 904 71 + i))
    by_cases q : i = n
    · subst q
      rw [if_pos e, n4_0 i b]
      exact ntF_0 x0
    · have ih := n4_1 x0 po b e n (by omega) (by omega)
      by_cases w : rnR P (Xi P 904 71 + n) 4 = -1
      · rw [if_pos w]; exact ntb_k ih (by decide) (po i n (by omega) (by omega))
      · rw [if_neg w]; exact ih
theorem a4_k {P : sS} {x : Int × Int × Int} {p : Int} (h : NTB x 4 p) (g : p < Xi P 908 (fW P).toNat) : ∀ n : Nat, NTB (a4S P x n) 4 p
  | 0 => h
  | n + 1 => by
    have ih := a4_k h g n
    show NTB (if rnR P (Xi P 904 71 + n) 4 = -1 then a4S P x n else a4N P n (if 0 < c4S P n then a4S P x n else ntF (a4S P x n) 4 (Xi P 908 (fW P).toNat))) 4 p
    by_cases w : rnR P (Xi P 904 71 + n) 4 = -1
    · rw [if_pos w]; exact ih
    · rw [if_neg w]
      have i2 : NTB (if 0 < c4S P n then a4S P x n else ntF (a4S P x n) 4 (Xi P 908 (fW P).toNat)) 4 p := by
        by_cases q : 0 < c4S P n
        · rw [if_pos q]; exact ih
        · rw [if_neg q]; exact ntb_k ih (by decide) g
      unfold a4N
      by_cases q : c4S P n < 2
      · rw [if_pos q]; exact i2
      · rw [if_neg q]; exact ntb_k i2 (by decide) g
theorem ntx4 {x : Int × Int × Int} {p : Int} (h : x.1 = 0) : ntF x 4 p = (4, p, 2) := by unfold ntF; rw [if_pos (Or.inl h)]; rfl
theorem ntx7 {x : Int × Int × Int} {p : Int} (h : x.1 = 0) : ntF x 7 p = (7, p, 3) := by unfold ntF; rw [if_pos (Or.inl h)]; rfl
theorem nt44 {p : Int} : ntF (4, p, 2) 4 p = (4, p, 2) := by unfold ntF rk7; simp
theorem nt47 {p : Int} : ntF (4, p, 2) 7 p = (4, p, 2) := by unfold ntF rk7; simp
theorem nt74 {p : Int} : ntF (7, p, 3) 4 p = (4, p, 2) := by unfold ntF rk7; simp
theorem nt77 {p : Int} : ntF (7, p, 3) 7 p = (7, p, 3) := by unfold ntF rk7; simp
/-- what the notes of an ADJECTIVE come to -/
theorem a4_c {P : sS} {x : Int × Int × Int} (x0 : x.1 = 0) : ∀ n : Nat, (∀ i : Nat, i < n → rnR P (Xi P 904 71 + i) 4 ≠ -1) → ((∀ i : Nat, i < n → c4S P i = 1) → a4S P x n = x) ∧ ((∃ i : Nat, i < n ∧ c4S P i ≤ 0) → a4S P x n = (4, Xi P 908 (fW P).toNat, 2)) ∧ ((∀ i : Nat, i < n → 0 < c4S P i) → (∃ i : Nat, i < n ∧ 2 ≤ c4S P i) → a4S P x n = (7, Xi P 908 (fW P).toNat, 3))
  | 0, _ => ⟨fun _ => rfl, fun ⟨_, h, _⟩ => absurd h (by omega), fun _ ⟨_, h, _⟩ => absurd h (by omega)⟩
  | n + 1, h => by
    obtain ⟨i1, i2, i3⟩ := a4_c x0 n (fun i hi => h i (by omega))
    have e : a4S P x (n + 1) = a4N P n (if 0 < c4S P n then a4S P x n else ntF (a4S P x n) 4 (Xi P 908 (fW P).toNat)) := by
      show (if rnR P (Xi P 904 71 + n) 4 = -1 then a4S P x n else a4N P n (if 0 < c4S P n then a4S P x n else ntF (a4S P x n) 4 (Xi P 908 (fW P).toNat))) = _
      rw [if_neg (h n (by omega))]
    rw [e]
    unfold a4N
    have tri : (∀ i : Nat, i < n → c4S P i = 1) ∨ (∃ i : Nat, i < n ∧ c4S P i ≤ 0) ∨ ((∀ i : Nat, i < n → 0 < c4S P i) ∧ ∃ i : Nat, i < n ∧ 2 ≤ c4S P i) := by
      by_cases a : ∃ i : Nat, i < n ∧ c4S P i ≤ 0
      · exact Or.inr (Or.inl a)
      · by_cases b : ∃ i : Nat, i < n ∧ 2 ≤ c4S P i
        · exact Or.inr (Or.inr ⟨fun i hi => by apply Classical.byContradiction; intro q; exact a ⟨i, hi, by omega⟩, b⟩)
        · refine Or.inl (fun i hi => ?_)
          have a' : ¬ c4S P i ≤ 0 := fun q => a ⟨i, hi, q⟩
          have b' : ¬ 2 ≤ c4S P i := fun q => b ⟨i, hi, q⟩
          omega
    by_cases c0 : c4S P n ≤ 0
    · rw [if_pos (by omega), if_neg (by omega)]
      have r : ntF (a4S P x n) 4 (Xi P 908 (fW P).toNat) = (4, Xi P 908 (fW P).toNat, 2) := by
        rcases tri with t | t | ⟨t, u⟩
        · rw [i1 t]; exact ntx4 x0
        · rw [i2 t]; exact nt44
        · rw [i3 t u]; exact nt74
      rw [r]
      exact ⟨fun q => by have := q n (by omega); omega, fun _ => rfl, fun q _ => by have := q n (by omega); omega⟩
    · rw [if_pos (show 0 < c4S P n by omega)]
      by_cases c2 : 2 ≤ c4S P n
      · rw [if_neg (by omega)]
        refine ⟨fun q => by have := q n (by omega); omega, fun ⟨i, hi, q⟩ => ?_, fun q _ => ?_⟩
        · rw [i2 ⟨i, by rcases (by omega : i < n ∨ i = n) with w | w; exact w; (subst w; omega), q⟩]; exact nt47
        · rcases tri with t | t | ⟨t, u⟩
          · rw [i1 t]; exact ntx7 x0
          · obtain ⟨i, hi, w⟩ := t; have := q i (by omega); omega
          · rw [i3 t u]; exact nt77
      · rw [if_pos (by omega)]
        refine ⟨fun q => i1 (fun i hi => q i (by omega)), fun ⟨i, hi, q⟩ => i2 ⟨i, by rcases (by omega : i < n ∨ i = n) with w | w; exact w; (subst w; omega), q⟩, fun q ⟨i, hi, w⟩ => i3 (fun i hi => q i (by omega)) ⟨i, by rcases (by omega : i < n ∨ i = n) with y | y; exact y; (subst y; omega), w⟩⟩
def lAC : List rec := [(25, 65, 0, 100000), (66, 106, 0, 100000), (107, 147, 0, 100000), (148, 188, 0, 100000), (895, 896, 8, 9), (895, 896, 9, 10)]
def lAR : List rec := [(925, 926, 0, 100000), (930, 933, 0, 100000), (904, 905, 60, 61), (904, 905, 64, 65), (904, 905, 113, 114)]
/-- an ADJECTIVE told of old objects, as both have it -/
def AJX (B T : sS) (f : Nat) (a t nt : Int) : Prop := RLW B T ∧ TX3 B ∧ SCX B T f ∧ LRN B T f (Xi T 904 71) (nL B) ∧ mnV B a t = mR T (fW T) (nW T) ∧ 1 - nt = h15R T ∧ (∀ i : Nat, i < nL B → oL B i ≠ -1) ∧ (∀ i : Nat, i < nL B → raF B (Xi B 21 (oL B i).toNat) a t (1 - nt) 0 = 1)
theorem ol_r {B T : sS} {f N i : Nat} {F : Int} (h : RVO B T) (sc : SCX B T f) (l : LRN B T f F N) (hi : i < N) : oL B i = rnR T (F + i) 4 := by
  have hx := h.2.2.2.1
  have h15 : 0 ≤ Xi T 904 15 := by have := h.1.1; omega
  exact rn_fnd (s := 4) (scx_s sc h) (l i hi) hx h15 (by omega)
theorem ajx_i {B T : sS} {f i : Nat} {a t nt : Int} (x : AJX B T f a t nt) (hi : i < nL B) : oL B i = o15R T i ∧ (0 ≤ oL B i ∧ oL B i < Xi B 5 2) ∧ COD (mnV B a t % 256) (rlF B (Xi B 21 (oL B i).toNat) a t (1 - nt)) (a15R T (o15R T i)) ∧ (rlF B (Xi B 21 (oL B i).toNat) a t (1 - nt) = -1 → mnV B a t % 256 < Xi B 5 3) ∧ (rlF B (Xi B 21 (oL B i).toNat) a t (1 - nt) ≠ -1 → rlF B (Xi B 21 (oL B i).toNat) a t (1 - nt) < Xi B 5 5 ∧ mnV B a t % 256 < Xi B 5 4 ∧ Xi B 8 (mnV B a t % 256).toNat ≠ 1 ∧ Xi B 9 (rlF B (Xi B 21 (oL B i).toNat) a t (1 - nt)).toNat = Xi B 8 (mnV B a t % 256).toNat) := by
  obtain ⟨h, t3, sc, l, m, e, ol, ra⟩ := x
  have oe : oL B i = o15R T i := ol_r h.1 sc l hi
  have ob : 0 ≤ oL B i ∧ oL B i < Xi B 5 2 := fnd_wc (by omega) h.1.2.2.1 h.2.1 (ol i hi)
  have oo := h.2.2.2.2.2.2.2.2.2.1.1.2 (oL B i).toNat (by omega)
  obtain ⟨a1, a2⟩ := adj_r (v := 1 - nt) (d := 0) h m (k := Xi B 21 (oL B i).toNat) (by rw [oo.1]; exact oo.2)
  have a3 := a2 (by rw [← a1]; exact ra i hi)
  refine ⟨oe, ob, ?_, a3.2.1, a3.2.2⟩
  have u : a15R T (o15R T i) = acR T (fW T) (nW T) (Xi B 21 (oL B i).toNat) 0 (1 - nt) := by
    unfold a15R
    rw [← e, ← oe, oo.1]
  rw [u]
  exact a3.1
/-- one object is told its ADJECTIVE -/
theorem ajx_s {B T W W' V V' : sS} {f i : Nat} {a t nt y y' : Int} (x : AJX B T f a t nt) (hi : i < nL B) (r : RLV W W') (tw : TX3 W) (F : FR lAC B W) (G : FR lAR T W') (d : DA1 md_me_readAdjective__p B W V i y a t nt) (u : RV1 T W' V' i y') : y = y' ∧ (y = 0 ∨ y = 1) ∧ (y = 1 → RLV V V' ∧ TX3 V ∧ FR lAC B V ∧ FR lAR T V' ∧ Xi V' 904 60 = (if i = 0 then oL B 0 else Xi W' 904 60)) := by
  obtain ⟨oe, ob, c1, c2, c3⟩ := ajx_i x hi
  obtain ⟨A, FA, ta⟩ := d
  obtain ⟨A', FA', e60, ta'⟩ := u
  have kW : KEP [(5, 6), (8, 10)] [] B W := F.kep rfl
  have kA0 : KEP [(5, 6), (8, 10)] [] W A := FA.kep rfl
  have kA : KEP [(5, 6), (245, 246), (902, 904)] [(20, 1)] W A := FA.kep rfl
  have rA : RLV A A' := r.k tw (FA.kep rfl) (FA'.kep rfl)
  have tA : TX3 A := by unfold TX3 at tw ⊢; rw [txr_k kA (by decide)]; exact tw
  have c5 : ∀ j, Xi A 5 j = Xi B 5 j := fun j => (kA0.x 5 rfl j).trans (kW.x 5 rfl j)
  have c8 : ∀ j, Xi A 8 j = Xi B 8 j := fun j => (kA0.x 8 rfl j).trans (kW.x 8 rfl j)
  have c9 : ∀ j, Xi A 9 j = Xi B 9 j := fun j => (kA0.x 9 rfl j).trans (kW.x 9 rfl j)
  rw [← oe] at ta' c1
  have rt := t1_r rA tA (by rw [c5]; exact ob) c1 (by rw [c5]; exact c2) (by rw [c5, c5, c8, c9]; exact c3) (by rw [x.2.2.2.2.2.1]) ta (by rw [oe] at ta' ⊢; exact ta')
  refine ⟨rt.1, rt.2.1, fun y1 => ?_⟩
  obtain ⟨s1, s2, s3, s4⟩ := rt.2.2 y1
  refine ⟨s1, s2, (F.tr FA rfl).tr s3 rfl, (G.tr FA' rfl).tr s4 rfl, ?_⟩
  rw [(s4.kep rfl : KEP [] [(904, 60)] A' V').f 904 60 (by decide), e60]
  by_cases q : i = 0
  · subst q; rw [if_pos rfl, if_pos rfl, oe]
  · rw [if_neg q, if_neg q]
theorem ajx_c {B T : sS} {f : Nat} {a t nt : Int} (x : AJX B T f a t nt) : ∀ (n : Nat) (V V' : sS), n ≤ nL B → DAC md_me_readAdjective__p B a t nt n V → RVC T n V' → RLV V V' ∧ TX3 V ∧ FR lAC B V ∧ FR lAR T V' ∧ (n ≠ 0 → Xi V' 904 60 = oL B 0)
  | 0, V, V', _, d, u => by
    have d : V = B := d
    have u : V' = T := u
    subst d
    subst u
    exact ⟨x.1.v, x.2.1, FR.rf, FR.rf, fun q => absurd rfl q⟩
  | n + 1, V, V', hn, d, u => by
    obtain ⟨W, d1, d2⟩ := d
    obtain ⟨W', u1, u2⟩ := u
    obtain ⟨r1, r2, r3, r4, r5⟩ := ajx_c x n W W' (by omega) d1 u1
    obtain ⟨s1, s2, s3, s4, s5⟩ := (ajx_s x (by omega) r1 r2 r3 r4 d2 u2).2.2 rfl
    refine ⟨s1, s2, s3, s4, fun _ => ?_⟩
    rw [s5]
    by_cases q : n = 0
    · rw [if_pos q]
    · rw [if_neg q]; exact r5 q
theorem dac_p {g : List rec} {S : sS} {a t nt : Int} : ∀ (n i : Nat) (V : sS), i < n → DAC g S a t nt n V → ∃ W Y : sS, DAC g S a t nt i W ∧ DA1 g S W Y i 1 a t nt
  | 0, i, _, h, _ => absurd h (by omega)
  | n + 1, i, V, h, d => by
    obtain ⟨W, a1, a2⟩ := d
    by_cases e : i = n
    · subst e; exact ⟨W, V, a1, a2⟩
    · exact dac_p n i W (by omega) a1
theorem rvc_p {S : sS} : ∀ (n i : Nat) (V : sS), i < n → RVC S n V → ∃ W Y : sS, RVC S i W ∧ RV1 S W Y i 1
  | 0, i, _, h, _ => absurd h (by omega)
  | n + 1, i, V, h, d => by
    obtain ⟨W, a1, a2⟩ := d
    by_cases e : i = n
    · subst e; exact ⟨W, V, a1, a2⟩
    · exact rvc_p n i W (by omega) a1
theorem ajx_d {B T U1 S1 : sS} {f : Nat} {a t nt z : Int} (x : AJX B T f a t nt) (n72 : (Xi T 904 72).toNat = nL B) (n1 : 1 ≤ nL B) (hz : z = 0 ∨ z = 1) (zf : z = 0 → Xi U1 876 8 ≠ 0) (x0 : (NT3 T).1 = 0) (d : DAD md_me_readAdjective__p B U1 z a t nt) (r : RVB4 T S1) : STP U1 T S1 := by
  have rT := scx_s x.2.2.1 x.1.1
  have lr := x.2.2.2.1
  unfold RVB4 at r
  rw [n72] at r
  have cmp : ∀ (i : Nat) (W W' V V' : sS) (y y' : Int), i < nL B → DAC md_me_readAdjective__p B a t nt i W → RVC T i W' → DA1 md_me_readAdjective__p B W V i y a t nt → RV1 T W' V' i y' → y = y' := fun i W W' V V' y y' hi d1 u1 d2 u2 => by
    obtain ⟨r1, r2, r3, r4, _⟩ := ajx_c x i W W' (by omega) d1 u1
    exact (ajx_s x hi r1 r2 r3 r4 d2 u2).1
  rcases hz with q | q
  · obtain ⟨i, W, V, hi, d1, d2, d3⟩ := d.2 q
    have nz := zf q
    rcases r with ⟨_, r⟩ | ⟨_, i', W', V', hi', r1, r2, r3⟩
    · obtain ⟨W', Y', w1, w2⟩ := rvc_p _ i S1 hi r
      exact absurd (cmp i W W' V Y' 0 1 hi d1 w1 d2 w2) (by decide)
    · rw [n72] at hi'
      rcases (by omega : i < i' ∨ i' < i ∨ i = i') with y | y | y
      · obtain ⟨X', Y', w1, w2⟩ := rvc_p _ i W' y r1
        exact absurd (cmp i W X' V Y' 0 1 hi d1 w1 d2 w2) (by decide)
      · obtain ⟨X, Y, w1, w2⟩ := dac_p _ i' W y d1
        exact absurd (cmp i' X W' Y V' 1 0 hi' w1 r1 w2 r2) (by decide)
      · subst y
        refine Or.inl ⟨nz, Or.inr ⟨x0, ?_⟩⟩
        rw [d3.1, d3.2, rn_pc rT (lr i hi)]
        exact r3
  · obtain ⟨V, d1, d2, d3⟩ := d.1 q
    rcases r with ⟨r0, r⟩ | ⟨_, i', W', V', hi', r1, r2, r3⟩
    · obtain ⟨s1, s2, s3, s4, s5⟩ := ajx_c x _ V S1 (Nat.le_refl _) d1 r
      have E : FR [(891, 892, 10, 11)] V U1 := by rw [d2]; exact FR.wI FR.rf rfl
      obtain ⟨_, ob, _⟩ := ajx_i x (i := 0) (by omega)
      have c2 := x.1.2.2.1.2.2.1
      have fs : fsO B (nL B) = oL B 0 := by unfold fsO; rw [if_neg (by omega)]
      have e10 : Xi U1 891 10 = oL B 0 := by rw [d2, fs]; exact Xi_same (by unfold rg; omega)
      have c5 : Xi U1 5 2 = Xi B 5 2 := ((E.kep rfl : KEP [(5, 6)] [] V U1).x 5 rfl 2).trans ((s3.kep rfl : KEP [(5, 6)] [] B V).x 5 rfl 2)
      refine Or.inr ⟨d3, x0, r0, (s1.k s2 (E.kep rfl) KEP.rf).w ⟨?_, ?_, ?_⟩⟩
      · rw [e10, s5 (by omega)]
      · rw [e10]; omega
      · rw [e10, c5]; exact ob.2
    · rw [n72] at hi'
      obtain ⟨X, Y, w1, w2⟩ := dac_p _ i' V hi' d1
      exact absurd (cmp i' X W' Y V' 1 0 hi' w1 r1 w2 r2) (by decide)
end
section
/-! class and reference: 15 plain keeps the relation -/
theorem adR_0 {P : sS} {k d v : Int} (h : ¬ vA5 P) : adR P (fW P) (nW P) k d v = 0 := by
  unfold adR
  unfold vA5 at h
  split
  · rfl
  · next q =>
    split
    · next w => exact absurd ⟨q, Or.inl w.1⟩ h
    · split
      · next w => exact absurd ⟨q, Or.inr w.1⟩ h
      · rfl
theorem ra_c4 {B P : sS} {f i : Nat} {a t nt : Int} (h : RLW B P) (sc : SCX B P f) (l : LRN B P f (Xi P 904 71) (nL B)) (m : mnV B a t = mR P (fW P) (nW P)) (e : 1 - nt = h15R P) (hi : i < nL B) (ol : oL B i ≠ -1) : raF B (Xi B 21 (oL B i).toNat) a t (1 - nt) 0 = c4S P i ∧ 0 ≤ c4S P i := by
  have oe := ol_r h.1 sc l hi
  have ob : 0 ≤ oL B i ∧ oL B i < Xi B 5 2 := fnd_wc (by omega) h.1.2.2.1 h.2.1 ol
  have oo := h.2.2.2.2.2.2.2.2.2.1.1.2 (oL B i).toNat (by omega)
  have a1 := (adj_r (v := 1 - nt) (d := 0) h m (k := Xi B 21 (oL B i).toNat) (by rw [oo.1]; exact oo.2)).1
  refine ⟨?_, adR_v1 h.2.2.1⟩
  unfold c4S
  rw [a1, ← e, ← oe, oo.1]
theorem st_15B {U C U1 P T S1 : sS} {f : Nat} {z : Int} (x : PLX U P f) (FC : FR md_me_countReadings__p U C) (hn : ¬ ph5 U ∨ ah5 U) (hz : z = 0 ∨ z = 1) (zf : z = 0 → Xi U1 876 8 ≠ 0) (tc : TPNB md_me_readAdjective__p U C U1 z (wh5 U) (eh5 U) (nh5 U)) (hP0 : Xi P 904 106 = 0) (rc : RAX P T) {la : List rec} (Fa : FR la P T) (ea : kepC la cSk cSf = true) (ea2 : kepC la [(907, 911), (950, 952)] [(904, 71), (904, 72), (904, 75), (904, 78)] = true) (rd : (NT3 T).1 = 0 → Xi T 904 142 = 4 → RVB4 T S1) : STP U1 T S1 := by
  obtain ⟨f1, f2, f3, f4⟩ := plx_f x
  obtain ⟨p1, p2⟩ := plx_p x
  obtain ⟨h, t3, sc, l, ⟨n72, n1⟩, kw, ⟨po, w78⟩, _, h75⟩ := x
  obtain ⟨A, y, too, cs⟩ := tc
  obtain ⟨_, r2, r3, r4⟩ := rc
  rw [n72] at r2 r3 r4
  have x0 : (NT3 P).1 = 0 := hP0
  have hC : RLW C P := h.k t3 (FC.kep rfl) KEP.rf
  have sC := scx_u sc FC rfl
  have tyC := ty_u FC rfl
  have nC : nL C = nL U := by unfold nL; rw [tyC, FC.x 890 3 rfl]
  have lC : LRN C P f (Xi P 904 71) (nL C) := by rw [nC]; exact lrn_u l FC rfl
  have kC : RNR C P f (Xi P 904 78) (wh5 U) (eh5 U) := rnr_u kw FC rfl
  have rC := scx_s sC hC.1
  have mC : mnV C (wh5 U) (eh5 U) = mR P (fW P) (nW P) := by rw [f1, f2]; exact rC.1 _ _ kC.1 kC.2.2.1 kC.2.2.2.2.2
  have pw : pR P (Xi P 904 78) = Xi P 908 (fW P).toNat := rfl
  have n01 : nh5 U = 0 ∨ nh5 U = 1 := by unfold nh5; split <;> omega
  have eh : 1 - nh5 U = h15R P := by
    unfold h15R
    by_cases q : Xi P 904 75 = 0
    · rw [if_pos q, h75.1 q]; omega
    · rw [if_neg q]
      rcases n01 with w | w
      · exact absurd (h75.2 w) q
      · omega
  rcases cs with ⟨y0, z0, e⟩ | ⟨y1, ph, z0, t8, t9⟩ | ⟨y1, ph, B, xx, asp, FB, cs⟩
  · subst e
    obtain ⟨i, hi, bf, ei, t8, t9⟩ := too.2 y0
    rw [nC] at hi
    have nx := n4_1 (x := NT3 P) (i := i) x0 po.1 (fun k hk => by rw [← ol_r hC.1 sC lC (by omega)]; exact bf k hk) (by rw [← ol_r hC.1 sC lC (by omega)]; exact ei) (nL U) hi (Nat.le_refl _)
    have lt : pR P (Xi P 904 71 + i) < Xi P 908 (fW P).toNat := by rw [← pw]; exact po.2 w78 i hi
    refine Or.inl ⟨zf z0, Or.inl ?_⟩
    rw [t8, t9, rn_pc rC (lC i (by omega))]
    by_cases q : 0 < rd5 P
    · have va : vA5 P := by
        rcases hn with w | w
        · exact absurd (p1.2 q) w
        · exact p2.1 w
      rw [(r2 q va).2]
      exact ntb_k nx (by decide) lt
    · by_cases va : vA5 P
      · rw [(r4 q va).2]; exact a4_k nx lt _
      · rw [(r3 q va).2]; exact ntb_k nx (by decide) lt
  · obtain ⟨eA, ol⟩ := too.1 y1
    have n4 : n4S P (NT3 P) (nL U) = NT3 P := n4_0 _ (fun i hi => by rw [← ol_r hC.1 sC lC (by omega)]; exact ol i (by omega))
    have va : vA5 P := by
      rcases hn with w | w
      · exact absurd ph w
      · exact p2.1 w
    refine Or.inl ⟨zf z0, Or.inl ?_⟩
    rw [t8, t9, f4, (r2 (p1.1 ph) va).2, n4]
    exact ntF_0 x0
  · obtain ⟨eA, ol⟩ := too.1 y1
    subst eA
    have old : ∀ i : Nat, i < nL U → rnR P (Xi P 904 71 + i) 4 ≠ -1 := fun i hi => by rw [← ol_r hC.1 sC lC (by omega)]; exact ol i (by omega)
    have n4 : n4S P (NT3 P) (nL U) = NT3 P := n4_0 _ old
    have nr : ¬ 0 < rd5 P := fun q => ph (p1.2 q)
    have qe : ∀ i : Nat, i < nL A → qL A i (wh5 U) (eh5 U) (nh5 U) = c4S P i ∧ 0 ≤ c4S P i := fun i hi => by
      unfold qL
      rw [if_neg (ol i hi)]
      exact ra_c4 hC sC lC mC eh hi (ol i hi)
    have pa : pc7 A (wh5 U) = Xi P 908 (fW P).toNat := rn_pc rC kC
    obtain ⟨a1, a2, a3⟩ := asp
    have flt : ∀ e : Int, xx = 0 ∧ FTO A B e (wh5 U) → NTB (NT3 T) e (Xi P 908 (fW P).toNat) → STP U1 T S1 := fun e ⟨q0, t8, t9⟩ nb => by
      rcases cs with ⟨_, z0, eB⟩ | ⟨q, _⟩
      · subst eB
        refine Or.inl ⟨zf z0, Or.inl ?_⟩
        rw [t8, t9, pa]; exact nb
      · exact absurd q0 q
    by_cases va : vA5 P
    · obtain ⟨e142, nt⟩ := r4 nr va
      rw [n4] at nt
      obtain ⟨b1, b2, b3⟩ := a4_c (P := P) (x := NT3 P) x0 (nL U) old
      by_cases g0 : ∃ i : Nat, i < nL A ∧ qL A i (wh5 U) (eh5 U) (nh5 U) = 0
      · refine flt 4 (a1 g0) ?_
        obtain ⟨i, hi, q⟩ := g0
        rw [nt, b2 ⟨i, by omega, by rw [← (qe i hi).1, q]; omega⟩]
        exact ⟨rfl, rfl⟩
      · have g0' : ∀ i : Nat, i < nL A → qL A i (wh5 U) (eh5 U) (nh5 U) ≠ 0 := fun i hi q => g0 ⟨i, hi, q⟩
        have gp : ∀ i : Nat, i < nL U → 0 < c4S P i := fun i hi => by
          obtain ⟨u, v⟩ := qe i (by omega)
          have w := g0' i (by omega)
          rw [u] at w
          omega
        by_cases g1 : ∃ i : Nat, i < nL A ∧ 1 < qL A i (wh5 U) (eh5 U) (nh5 U)
        · refine flt 7 (a2 g0' g1) ?_
          obtain ⟨i, hi, q⟩ := g1
          rw [nt, b3 gp ⟨i, by omega, by rw [← (qe i hi).1]; omega⟩]
          exact ⟨rfl, rfl⟩
        · have g1' : ∀ i : Nat, i < nL A → qL A i (wh5 U) (eh5 U) (nh5 U) ≤ 1 := fun i hi => by
            apply Classical.byContradiction
            intro q
            exact g1 ⟨i, hi, by omega⟩
          have c1 : ∀ i : Nat, i < nL U → c4S P i = 1 := fun i hi => by
            have u := gp i hi
            have v := g1' i (by omega)
            rw [(qe i (by omega)).1] at v
            omega
          obtain ⟨x1, _⟩ := a3 g0' g1'
          rcases cs with ⟨q, _⟩ | ⟨_, dad⟩
          · omega
          have nT : (NT3 T).1 = 0 := by rw [nt, b1 c1]; exact x0
          have FUB : FR (md_me_countReadings__p ++ md_re_adjectiveSuits__p) U B := FR.tr (FC.up rfl) FB rfl
          have kB : KEP [(2, 12), (13, 25), (25, 65), (66, 106), (107, 147), (148, 188), (189, 195), (196, 220), (221, 245), (245, 246), (902, 904)] [(1, 3), (20, 1), (20, 12), (891, 10)] U B := FUB.kep rfl
          have tB : TX3 B := by unfold TX3 at t3 ⊢; rw [txr_k kB (by decide)]; exact t3
          have hB : RLW B P := h.k t3 (FUB.kep rfl) KEP.rf
          have hT : RLW B T := hB.k tB KEP.rf (Fa.kep ea)
          have KT := Fa.kep ea2
          have sB := scx_u sc FUB rfl
          have tyB := ty_u FUB rfl
          have nB : nL B = nL U := by unfold nL; rw [tyB, FUB.x 890 3 rfl]
          have lB : LRN B P f (Xi P 904 71) (nL B) := by rw [nB]; exact lrn_u l FUB rfl
          have kwB : RNR B P f (Xi P 904 78) (wh5 U) (eh5 U) := rnr_u kw FUB rfl
          have mB : mnV B (wh5 U) (eh5 U) = mR P (fW P) (nW P) := by rw [f1, f2]; exact (scx_s sB hB.1).1 _ _ kwB.1 kwB.2.2.1 kwB.2.2.2.2.2
          have sT := sB.kS (KT.le rfl (by decide))
          have e71 : Xi T 904 71 = Xi P 904 71 := KT.f 904 71 (by decide)
          have e72 : Xi T 904 72 = Xi P 904 72 := KT.f 904 72 (by decide)
          have e75 : Xi T 904 75 = Xi P 904 75 := KT.f 904 75 (by decide)
          have e78 : Xi T 904 78 = Xi P 904 78 := KT.f 904 78 (by decide)
          have fT : fW T = fW P := by unfold fW; rw [e78, KT.x 950 rfl]
          have nWT : nW T = nW P := by unfold nW; rw [e78, KT.x 951 rfl]
          have kwT : RNR B T f (Xi P 904 78) (wh5 U) (eh5 U) := kwB.kS (KT.le rfl (by decide) : KEP [(950, 952)] [] P T)
          have mT : mnV B (wh5 U) (eh5 U) = mR T (fW T) (nW T) := by rw [fT, nWT, f1, f2]; exact (scx_s sT hT.1).1 _ _ kwT.1 kwT.2.2.1 kwT.2.2.2.2.2
          have olB : ∀ i : Nat, i < nL B → oL B i ≠ -1 := fun i hi => by rw [ol_r hB.1 sB lB hi]; exact old i (by omega)
          have aj : AJX B T f (wh5 U) (eh5 U) (nh5 U) := ⟨hT, tB, sT, by rw [e71]; exact lB.kS (KT.le rfl (by decide) : KEP [(950, 952)] [] P T), mT, by unfold h15R at eh ⊢; rw [e75]; exact eh, olB, fun i hi => by rw [(ra_c4 hB sB lB mB eh hi (olB i hi)).1]; exact c1 i (by omega)⟩
          exact ajx_d aj (by rw [e72, nB]; exact n72) (by rw [nB]; exact n1) hz zf nT dad (rd nT e142)
    · obtain ⟨e142, nt⟩ := r3 nr va
      rw [n4] at nt
      refine flt 4 (a1 ⟨0, by omega, ?_⟩) ?_
      · rw [(qe 0 (by omega)).1]; unfold c4S; exact adR_0 va
      · rw [nt]; exact ntF_0 x0
end
section
/-! class and reference: lists that begin at another name; values -/
def LRNo (o : Nat) (U S : sS) (f : Nat) (F : Int) (n : Nat) : Prop := ∀ i : Nat, i < n → RNR U S f (F + i) (kr7 (ty7 U) (o + i)) (re7 (ty7 U) (kr7 (ty7 U) (o + i)))
theorem LRNo.kS {o : Nat} {U S T : sS} {f n : Nat} {F : Int} (h : LRNo o U S f F n) (b : KEP [(950, 952)] [] S T) : LRNo o U T f F n := fun i hi => (h i hi).kS b
theorem nwlo_r {U S : sS} {f i n o : Nat} {F : Int} (h : SRL U S f) (l : LRNo o U S f F n) (hx : LXR S) (h15 : 0 ≤ Xi S 904 15) (hi : i < n) : NWLo o U i ↔ NWR S F i := by
  have k := l i hi
  have m := rn_mn h k hx h15
  have e : Xi S 951 (F + i).toNat = re7 (ty7 U) (kr7 (ty7 U) (o + i)) - kr7 (ty7 U) (o + i) := k.2.2.2.2.1
  unfold NWLo NWR nwR0
  rw [m, e]
  constructor
  · rintro ⟨a, b, c⟩
    exact ⟨⟨b, a⟩, fun j hj y => c j hj ((rn_al h (l j (by omega)) k).2 y)⟩
  · rintro ⟨⟨b, a⟩, c⟩
    exact ⟨a, b, fun j hj y => c j hj ((rn_al h (l j (by omega)) k).1 y)⟩
theorem loko_r {U S : sS} {f n m o : Nat} {F c M : Int} (h : SRL U S f) (l : LRNo o U S f F n) (hx : LXR S) (h15 : 0 ≤ Xi S 904 15) (hm : m ≤ n) : LOKo o U c M m ↔ LKR S F c M m :=
  ⟨fun a i hi => ⟨(nwlo_r h l hx h15 (by omega)).1 (a i hi).1, (a i hi).2⟩, fun a i hi => ⟨(nwlo_r h l hx h15 (by omega)).2 (a i hi).1, (a i hi).2⟩⟩
theorem loko_n {o : Nat} {U : sS} {c M : Int} : ∀ n : Nat, ¬ LOKo o U c M n → ∃ k : Nat, k < n ∧ LOKo o U c M k ∧ (¬ NWLo o U k ∨ (NWLo o U k ∧ M ≤ c + k))
  | 0, h => absurd (fun i hi => absurd hi (by omega)) h
  | n + 1, h => by
    by_cases q : LOKo o U c M n
    · refine ⟨n, by omega, q, ?_⟩
      by_cases w : NWLo o U n
      · refine Or.inr ⟨w, ?_⟩
        apply Classical.byContradiction
        intro v
        refine h (fun i hi => ?_)
        by_cases e : i = n
        · subst e; exact ⟨w, by omega⟩
        · exact q i (by omega)
      · exact Or.inl w
    · obtain ⟨k, a, b⟩ := loko_n n q
      exact ⟨k, by omega, b⟩
theorem lso_same {U U1 S : sS} {f n o : Nat} {F c M z : Int} {x : Int × Int × Int} (h : SRL U S f) (l : LRNo o U S f F n) (hx : LXR S) (h15 : 0 ≤ Xi S 904 15) (t : TLSo o U U1 z c M n) (r : RLF S F c M n x) (q : ¬ LOKo o U c M n) : SFT U1 z x ∧ x.1 ≠ 0 := by
  obtain ⟨k, k1, k2, k3⟩ := loko_n n q
  have k2' := (loko_r h l hx h15 (by omega)).1 k2
  have w := nwlo_r h l hx h15 k1
  rcases k3 with v | ⟨v, g⟩
  · have y := (r k k1 k2').1 (fun y => v (w.2 y))
    exact ⟨sft_f (S := S) ((t k k1 k2).1 v) (rn_pc h (l k k1)) y, by rw [y.1]; decide⟩
  · have y := (r k k1 k2').2 (w.1 v) g
    exact ⟨sft_f (S := S) ((t k k1 k2).2 v g) (rn_pc h (l k k1)) y, by rw [y.1]; decide⟩
/-- names of a LIST, told to both -/
theorem rvo_listo {U S : sS} {f N o : Nat} {F so rs c : Int} (h : RVO U S) (sc : SCX U S f) (l : LRNo o U S f F N) (ok : ∀ i : Nat, i < N → NWLo o U i) (fr : ∀ w, c ≤ w → FRS U so w) (hs : so = sg7 rs) (hr : 0 ≤ rs ∧ rs ≤ 12) (hc : 0 ≤ c ∧ c + N ≤ 64) : ∀ (n : Nat) (V V1 : sS), n ≤ N → TNLo o U so c n V → TLL S rs c F n V1 → RVO V V1 ∧ (∀ w, c + n ≤ w → FRS V so w) ∧ (∀ s w, s ≠ so → FRS U s w → FRS V s w) ∧ (∀ x y z, NOE U x y z → (∀ i : Nat, i < n → ¬ (wRw U 879 (kr7 (ty7 U) (o + i)) (re7 (ty7 U) (kr7 (ty7 U) (o + i))) 0 = x ∧ wRw U 879 (kr7 (ty7 U) (o + i)) (re7 (ty7 U) (kr7 (ty7 U) (o + i))) 1 = y ∧ wRw U 879 (kr7 (ty7 U) (o + i)) (re7 (ty7 U) (kr7 (ty7 U) (o + i))) 2 = z)) → NOE V x y z) ∧ Xi V 1 3 = Xi U 1 3 + n ∧ (∀ d : Int → Int, WHG d U → (∀ i : Nat, i < n → c + i < d so) → WHG d V) ∧ (∀ i : Nat, i < n → ∃ j : Nat, (j : Int) < Xi V 1 3 ∧ mtC V (wRw U 879 (kr7 (ty7 U) (o + i)) (re7 (ty7 U) (kr7 (ty7 U) (o + i))) 0) (wRw U 879 (kr7 (ty7 U) (o + i)) (re7 (ty7 U) (kr7 (ty7 U) (o + i))) 1) (wRw U 879 (kr7 (ty7 U) (o + i)) (re7 (ty7 U) (kr7 (ty7 U) (o + i))) 2) j ∧ Xi V 3 j = so)
  | 0, V, V1, _, t, u => by
    have t0 : SMV U V := t
    have u0 : SMR S V1 := u
    have fk : ∀ s w, FRS U s w → FRS V s w := fun s w q j hj e => by
      rw [t0.1] at hj
      rw [t0.2.2.1] at e
      rw [t0.2.2.2.1]
      exact q j hj e
    refine ⟨h.s t0 u0, fun w hw => fk so w (fr w (by omega)), fun s w _ q => fk s w q, fun x y z q _ j hj m => ?_, by rw [t0.1]; omega, fun d q _ j hj => ?_, fun i hi => absurd hi (by omega)⟩
    · rw [t0.1] at hj
      exact q j hj ((mt_k (fun a _ => t0.2.1 _)).1 m)
    · rw [t0.1] at hj
      rw [t0.2.2.1, t0.2.2.2.1]
      exact q j hj
  | n + 1, V, V1, hn, t, u => by
    obtain ⟨W, i, t1, t2⟩ := t
    obtain ⟨W1, u1, u2⟩ := u
    obtain ⟨r1, r2, r2b, r3, r4, r5, r6⟩ := rvo_listo h sc l ok fr hs hr hc n W W1 (by omega) t1 u1
    have k := l n (by omega)
    have nw := ok n (by omega)
    have f1 : FRS W so (c + n) := r2 _ (Int.le_refl _)
    have hC := h.2.2.1
    have h0 := h.1.1.2
    have no := noe_run hC h0 k sc.2 nw.2.1 nw.1
    have df : ∀ j : Nat, j < n → ¬ (wRw U 879 (kr7 (ty7 U) (o + j)) (re7 (ty7 U) (kr7 (ty7 U) (o + j))) 0 = wRw U 879 (kr7 (ty7 U) (o + n)) (re7 (ty7 U) (kr7 (ty7 U) (o + n))) 0 ∧ wRw U 879 (kr7 (ty7 U) (o + j)) (re7 (ty7 U) (kr7 (ty7 U) (o + j))) 1 = wRw U 879 (kr7 (ty7 U) (o + n)) (re7 (ty7 U) (kr7 (ty7 U) (o + n))) 1 ∧ wRw U 879 (kr7 (ty7 U) (o + j)) (re7 (ty7 U) (kr7 (ty7 U) (o + j))) 2 = wRw U 879 (kr7 (ty7 U) (o + n)) (re7 (ty7 U) (kr7 (ty7 U) (o + n))) 2) := fun j hj e => by
      have kj := l j (by omega)
      exact nw.2.2 j hj (al_wd ⟨by have := kj.2.1; omega, (ok j (by omega)).2.1⟩ ⟨by have := k.2.1; omega, nw.2.1⟩ kj.1 k.1 (scx_w sc kj.2.2.2.2.2) (scx_w sc k.2.2.2.2.2) e.1 e.2.1 e.2.2)
    obtain ⟨g1, g2, g3⟩ := rvo_run r1 sc k nw.2.1 t2 u2 f1 hs hr (by omega) (r3 _ _ _ no df)
    refine ⟨g1, fun w hw => frs_add t2 f1 (r2 w (by omega)) (fun e => by omega), fun s w q v => frs_add t2 f1 (r2b s w q v) (fun e => q e.1.symm), fun x y z q d => ?_, by omega, fun d q v => whg_add (r5 d q (fun j hj => v j (by omega))) t2 f1 (v n (by omega)), fun j hj => ?_⟩
    · exact noe_add t2 f1 (r3 x y z q (fun j hj => d j (by omega))) (d n (by omega))
    · by_cases e : j = n
      · subst e
        exact ⟨i, by omega, ⟨t2.1.2.2.1, t2.1.2.2.2.1, t2.1.2.2.2.2⟩, t2.1.1⟩
      · obtain ⟨m, m1, m2, m3⟩ := r6 j (by omega)
        have q : m ≠ i := by omega
        exact ⟨m, by omega, (mt_k (t2.2.1 m q).2.2).2 m2, by rw [(t2.2.1 m q).1]; exact m3⟩
theorem nwR_av {A W : sS} {F : Int} {n : Nat} (sm : SMR A W) (e1 : Xi W 904 108 = n) (e2 : ∀ i : Nat, i < n → Xi W 966 i = F + i) : nwR W (F + n) ↔ NWR A F n := by
  unfold nwR NWR nwR0
  rw [sm.2.1 951 _ (by omega), rmR_sm sm, e1]
  constructor
  · rintro ⟨a, b, c⟩
    exact ⟨⟨a, b⟩, fun j hj y => c j (by omega) (by rw [e2 j hj, alR_sm sm]; exact y)⟩
  · rintro ⟨⟨a, b⟩, c⟩
    exact ⟨a, b, fun j hj y => c j (by omega) (by rw [e2 j (by omega), alR_sm sm] at y; exact y)⟩
/-- the values that the reference is asked for -/
theorem av_c {A : sS} {tp : Int} (a8 : Xi A 904 108 = 0) : ∀ (n : Nat) (V : sS) (k : Int), AVC A tp n V k → FR md_mo_mustBeNew__p A V ∧ ((∀ i : Nat, i < n → NWR A (Xi A 904 78) i) → Xi V 904 108 = n ∧ (∀ i : Nat, i < n → Xi V 966 i = Xi A 904 78 + i) ∧ k = cv6 A tp (Xi A 904 30).toNat + n ∧ ((1 < tp → ∀ i : Nat, i < n → cv6 A tp (Xi A 904 30).toNat + i < 8) → NT3 V = NT3 A))
  | 0, V, k, h => by
    obtain ⟨h1, h2⟩ := h
    subst h1
    exact ⟨FR.rf, fun _ => ⟨by rw [a8]; rfl, fun i hi => absurd hi (by omega), by rw [h2]; omega, fun _ => rfl⟩⟩
  | n + 1, V, k, h => by
    obtain ⟨W, k0, h1, F, ⟨m1, m2⟩, k1, k2⟩ := h
    obtain ⟨g1, g2⟩ := av_c a8 n W k0 h1
    refine ⟨g1.tr F rfl, fun nw => ?_⟩
    obtain ⟨e1, e2, e3, e4⟩ := g2 (fun i hi => nw i (by omega))
    have w := (nwR_av (SMR_FR g1 rfl rfl) e1 e2).2 (nw n (by omega))
    obtain ⟨b1, b2, b3, b4⟩ := m1 w
    refine ⟨by rw [b2, e1]; omega, fun i hi => ?_, by rw [k1 w, e3]; omega, fun ok => ?_⟩
    · by_cases q : i = n
      · subst q
        rw [e1] at b3
        rw [show ((i : Int)).toNat = i by omega] at b3
        exact b3
      · rw [b4 i (by omega)]; exact e2 i (by omega)
    · rw [b1]
      have t : (if 1 < tp then k0 else 0) < 8 := by
        by_cases q : 1 < tp
        · rw [if_pos q, e3]; exact ok q n (by omega)
        · rw [if_neg q]; omega
      rw [if_pos t]
      exact e4 (fun q i hi => ok q i (by omega))
theorem av_f {A : sS} {tp : Int} {N : Nat} (a8 : Xi A 904 108 = 0) (x0 : (NT3 A).1 = 0) (t1 : 1 < tp) (po : ∀ k i : Nat, k < i → i < N → pR A (Xi A 904 78 + k) < pR A (Xi A 904 78 + i)) : ∀ (n : Nat) (V : sS) (k : Int), n ≤ N → AVC A tp n V k → RLF A (Xi A 904 78) (cv6 A tp (Xi A 904 30).toNat) 8 n (NT3 V)
  | 0, V, k, _, h => fun i hi => absurd hi (by omega)
  | n + 1, V, k, hn, h => by
    obtain ⟨W, k0, h1, F, ⟨m1, m2⟩, k1, k2⟩ := h
    obtain ⟨g1, g2⟩ := av_c a8 n W k0 h1
    have ih := av_f a8 x0 t1 po n W k0 (by omega) h1
    have sm := SMR_FR g1 rfl rfl
    have up : ∀ (e : Int) (i : Nat), i < n → e ≠ 0 → NTB (NT3 W) e (pR A (Xi A 904 78 + i)) → NTB (NT3 V) e (pR A (Xi A 904 78 + i)) := fun e i hi he q => by
      have lt := po i n hi (by omega)
      by_cases w : nwR W (Xi A 904 78 + n)
      · rw [(m1 w).1]
        by_cases v : (if 1 < tp then k0 else 0) < 8
        · rw [if_pos v]; exact q
        · rw [if_neg v, pR_sm sm]; exact ntb_k q he lt
      · rw [(m2 w).1, pR_sm sm]; exact ntb_k q he lt
    intro i hi li
    by_cases q : i = n
    · subst q
      obtain ⟨e1, e2, e3, e4⟩ := g2 (fun j hj => (li j hj).1)
      have wv := nwR_av sm e1 e2
      have x1 : (NT3 W).1 = 0 := by rw [e4 (fun _ j hj => (li j hj).2)]; exact x0
      refine ⟨fun w => ?_, fun w g => ?_⟩
      · rw [(m2 (fun y => w (wv.1 y))).1, pR_sm sm]; exact ntF_0 x1
      · rw [(m1 (wv.2 w)).1, if_pos t1, if_neg (by omega), pR_sm sm]; exact ntF_0 x1
    · obtain ⟨u1, u2⟩ := ih i (by omega) li
      exact ⟨fun w => up 3 i (by omega) (by decide) (u1 w), fun w g => up 9 i (by omega) (by decide) (u2 w g)⟩
/-- an earlier note stays -/
theorem av_k {A : sS} {tp e p : Int} {N : Nat} (a8 : Xi A 904 108 = 0) (he : e ≠ 0) (q : NTB (NT3 A) e p) (po : ∀ i : Nat, i < N → p < pR A (Xi A 904 78 + i)) : ∀ (n : Nat) (V : sS) (k : Int), n ≤ N → AVC A tp n V k → NTB (NT3 V) e p
  | 0, V, k, _, h => by
    obtain ⟨h1, h2⟩ := h
    subst h1
    exact q
  | n + 1, V, k, hn, h => by
    obtain ⟨W, k0, h1, F, ⟨m1, m2⟩, k1, k2⟩ := h
    obtain ⟨g1, g2⟩ := av_c a8 n W k0 h1
    have ih := av_k a8 he q po n W k0 (by omega) h1
    have sm := SMR_FR g1 rfl rfl
    have lt := po n (by omega)
    by_cases w : nwR W (Xi A 904 78 + n)
    · rw [(m1 w).1]
      by_cases v : (if 1 < tp then k0 else 0) < 8
      · rw [if_pos v]; exact ih
      · rw [if_neg v, pR_sm sm]; exact ntb_k ih he lt
    · rw [(m2 w).1, pR_sm sm]; exact ntb_k ih he lt
end
section
/-! class and reference: 15, 16 values keep the relation -/
theorem vals_c {U : sS} {t : Int} : ∀ n : Nat, valn U t n 0 0 = cvC U t n
  | 0 => rfl
  | n + 1 => by
    rw [valn_app, vals_c n, show ((0 : Int) + n).toNat = n by omega]
    rfl
theorem cvC_sum {U : sS} : ∀ n : Nat, (∀ i : Nat, i < n → 2 ≤ Xi U 8 i ∧ Xi U 8 i ≤ 7) → cvC U 2 n + cvC U 3 n + cvC U 4 n + cvC U 5 n + cvC U 6 n + cvC U 7 n = n
  | 0, _ => rfl
  | n + 1, h => by
    have t := cvC_sum n (fun i hi => h i (by omega))
    have hb := h n (by omega)
    have u : ∀ t : Int, cvC U t (n + 1) = cvC U t n + (if Xi U 8 n = t then 1 else 0) := fun _ => rfl
    rw [u, u, u, u, u, u]
    have e : Xi U 8 n = 2 ∨ Xi U 8 n = 3 ∨ Xi U 8 n = 4 ∨ Xi U 8 n = 5 ∨ Xi U 8 n = 6 ∨ Xi U 8 n = 7 := by omega
    rcases e with e | e | e | e | e | e <;> (rw [e]; simp only [reduceIte, Int.reduceEq]; omega)
theorem cv_ext {U U1 : sS} {t : Int} {c : Nat} (h : ∀ j : Nat, j < c → Xi U1 8 j = Xi U 8 j) : ∀ n : Nat, n ≤ c → cvC U1 t n = cvC U t n
  | 0, _ => rfl
  | n + 1, hn => by
    show cvC U1 t n + (if Xi U1 8 n = t then 1 else 0) = cvC U t n + (if Xi U 8 n = t then 1 else 0)
    rw [cv_ext h n (by omega), h n (by omega)]
theorem cvC_ad {U1 : sS} {t tp : Int} {c m : Nat} (h : ∀ i : Nat, i < m → Xi U1 8 (c + i) = tp) : ∀ k : Nat, k ≤ m → cvC U1 t (c + k) = cvC U1 t c + (if tp = t then (k : Int) else 0)
  | 0, _ => by
    show cvC U1 t c = _
    split <;> omega
  | k + 1, hk => by
    have i := cvC_ad h k (by omega) (t := t)
    show cvC U1 t (c + k) + (if Xi U1 8 (c + k) = t then 1 else 0) = _
    rw [i, h k (by omega)]
    by_cases q : tp = t
    · rw [if_pos q, if_pos q, if_pos q]; omega
    · rw [if_neg q, if_neg q, if_neg q]; omega
theorem cv_r {U S : sS} {tp : Int} (ty : RTY U S) : ∀ n : Nat, (n : Int) ≤ Xi U 5 4 → cvC U tp n = cv6 S tp n
  | 0, _ => rfl
  | n + 1, hn => by
    show cvC U tp n + (if Xi U 8 n = tp then 1 else 0) = cv6 S tp n + (if Xi S 927 n = tp then 1 else 0)
    rw [cv_r ty n (by omega), (ty.1 n (by omega)).1]
def lTV : List rec := [(904, 905, 15, 16), (904, 905, 30, 31), (912, 913, 0, 100000), (913, 914, 0, 100000), (914, 915, 0, 100000), (915, 916, 0, 100000), (916, 917, 0, 100000), (927, 928, 0, 100000)]
theorem rtc_c {T : sS} {tp : Int} {N : Nat} (h0 : 0 ≤ Xi T 904 30 ∧ Xi T 904 30 + N ≤ 64) (ht : rg tp) : ∀ (n : Nat) (V : sS), n ≤ N → RTC T tp n V → FR lTV T V ∧ TLL T 6 (Xi T 904 30) (Xi T 904 78) n V ∧ Xi V 904 30 = Xi T 904 30 + n ∧ ARN T V 927 (Xi T 904 30) tp n
  | 0, V, _, h => by
    have h : V = T := h
    subst h
    exact ⟨FR.rf, SMR_FR (l := []) FR.rf rfl rfl, by omega, fun i hi => absurd hi (by omega), fun _ _ => rfl⟩
  | n + 1, V, hn, h => by
    obtain ⟨W, h1, A, B, eA, F, tl, eV⟩ := h
    obtain ⟨i1, i2, i3, i4, i5⟩ := rtc_c h0 ht n W (by omega) h1
    have kW : KEP [(910, 911), (950, 952)] [] T W := i1.kep rfl
    have FA : FR [(927, 928, 0, 100000)] W A := by rw [eA]; exact FR.wI FR.rf (by unfold mdf inR; simp; omega)
    have FV : FR [(904, 905, 30, 31)] B V := by rw [eV]; exact FR.wI FR.rf rfl
    have tw : TLW W V W 6 (Xi W 904 30) (Xi T 904 78 + n) := by
      have t := TLW_pre (S := W) (Z := W) tl (fun k j hk => by rw [eA, Xi_ne (by omega)]) (fun j => by rw [eA]; rfl) (by rw [eA, Xi_ne (by omega)]) (fun j => by rw [eA]; rfl) (fun j => by rw [eA, Xi_ne (by omega)]) (fun j => by rw [eA, Xi_ne (by omega)])
      exact TLR_post t (fun k j hk => by rw [eV, Xi_ne (by omega)]) (fun j => by rw [eV]; rfl) (by rw [eV, Xi_ne (by omega)])
    refine ⟨((i1.tr FA rfl).tr F rfl).tr FV rfl, tll_s i2 tw i3 rfl (kW.j 910 rfl) (kW.x 950 rfl) (kW.x 951 rfl), ?_, fun i hi => ?_, fun j hj => ?_⟩
    · rw [eV, Xi_same (by unfold rg; omega), i3]; omega
    · have e : ∀ j, Xi V 927 j = Xi A 927 j := fun j => by rw [eV, Xi_ne (by omega)]; exact F.x 927 j rfl
      rw [e, eA]
      by_cases q : i = n
      · rw [q, ← i3]; exact Xi_same ht
      · rw [Xi_ne (by omega)]; exact i4 i (by omega)
    · have e : ∀ j, Xi V 927 j = Xi A 927 j := fun j => by rw [eV, Xi_ne (by omega)]; exact F.x 927 j rfl
      rw [e, eA, Xi_ne (by omega)]; exact i5 j hj
theorem st_16 {U U1 S T S1 : sS} {f : Nat} {z : Int} {g la : List rec} (h : RLW U S) (t3 : TX3 U) (sc : SCX U S f) (k0 : RNR U S f (Xi S 904 71) (bA (ty7 U) 0) (re7 (ty7 U) (bA (ty7 U) 0))) (s1 : 1 < Xi S 904 72 → sn2 U ≠ -1 ∧ pc7 U (sn2 U) = pR S (Xi S 904 71 + 1)) (s2 : Xi S 904 72 ≤ 1 → sn2 U = -1) (h72 : 1 ≤ Xi S 904 72) (lv : LRNo (n0V U) U S f (Xi S 904 78) (nV5 U)) (n69 : (Xi S 904 69 - Xi S 904 78).toNat = nV5 U) (po0 : ∀ i : Nat, i < nV5 U → pR S (Xi S 904 71) < pR S (Xi S 904 78 + i)) (po1 : ∀ k i : Nat, k < i → i < nV5 U → pR S (Xi S 904 78 + k) < pR S (Xi S 904 78 + i)) (po2 : 1 < Xi S 904 72 → pR S (Xi S 904 71) < pR S (Xi S 904 71 + 1) ∧ ∀ i : Nat, i < nV5 U → pR S (Xi S 904 71 + 1) < pR S (Xi S 904 78 + i)) (zf : z = 0 → Xi U1 876 8 ≠ 0) (tc : TVL U U1 z) (Fc : FR md_re_tellValues__p U U1) (rc : ∃ P : sS, FR lA S P ∧ (Xi P 904 106 = 0 ∧ Xi P 904 108 = 0) ∧ RAW g P T) (eg : kepC g cSk cSf = true) (eg2 : kepC g [(907, 911), (950, 952)] [(904, 30), (904, 69), (904, 71), (904, 72), (904, 78)] = true) (Fa : FR la S T) (ea : kepC la cSk cSf = true) (ea2 : kepC la [(907, 911), (950, 952)] [(904, 30), (904, 69), (904, 71), (904, 72), (904, 78)] = true) (rd : (NT3 T).1 = 0 → RD16 T S1 ∧ FR md_mo_does__15bf T S1) : STP U1 T S1 := by
  obtain ⟨P, FP, ⟨hP0, _⟩, A, x1, FA, ⟨_, a8⟩, ex, ea', kk, av⟩ := rc
  have hP : RLW U P := h.k t3 KEP.rf (FP.kep rfl)
  have hA : RLW U A := hP.k t3 KEP.rf (FA.kep eg)
  have KP : KEP [(907, 911), (950, 952)] [(904, 30), (904, 69), (904, 71), (904, 72), (904, 78)] S P := FP.kep rfl
  have KA := FA.kep eg2
  have p71 : Xi P 904 71 = Xi S 904 71 := KP.f 904 71 (by decide)
  have p72 : Xi P 904 72 = Xi S 904 72 := KP.f 904 72 (by decide)
  have e69 : Xi A 904 69 = Xi S 904 69 := (KA.f 904 69 (by decide)).trans (KP.f 904 69 (by decide))
  have e78 : Xi A 904 78 = Xi S 904 78 := (KA.f 904 78 (by decide)).trans (KP.f 904 78 (by decide))
  have sP := sc.kS (KP.le rfl (by decide))
  have sA := sP.kS (KA.le rfl (by decide))
  have bP : KEP [(950, 952)] [] S P := KP.le rfl (by decide)
  have bA' : KEP [(950, 952)] [] P A := KA.le rfl (by decide)
  have pRP : ∀ r, pR P r = pR S r := fun r => by unfold pR; rw [KP.x 908 rfl, KP.x 950 rfl]
  have pRA : ∀ r, pR A r = pR S r := fun r => by unfold pR; rw [KA.x 908 rfl, KA.x 950 rfl, KP.x 908 rfl, KP.x 950 rfl]
  have rP := scx_s sP hP.1
  have rA := scx_s sA hA.1
  have rS := scx_s sc h.1
  have hxP := hP.1.2.2.2.1
  have h15P : 0 ≤ Xi P 904 15 := by have := hP.1.1.1; omega
  have hxA := hA.1.2.2.2.1
  have h15A : 0 ≤ Xi A 904 15 := by have := hA.1.1.1; omega
  have tm : tmC U (bA (ty7 U) 0) (re7 (ty7 U) (bA (ty7 U) 0)) = r2R P (Xi S 904 71) 2 3 := rn_tm rP (k0.kS bP) hxP h15P
  have tv : tV5 U = (if 1 < r2R P (Xi S 904 71) 2 3 then r2R P (Xi S 904 71) 2 3 else -1) := by unfold tV5 tv5; rw [tm]
  have x0 : (NT3 P).1 = 0 := hP0
  rw [p71, pRP] at ex
  rw [p72, p71, pRP] at ea'
  rw [e69, e78, n69] at av
  obtain ⟨b1, b2, b3, b4⟩ := tc
  by_cases q : 1 < r2R P (Xi S 904 71) 2 3
  · rw [if_pos q] at tv ex
    have nt : tV5 U ≠ -1 := by omega
    by_cases w : 1 < Xi S 904 72
    · obtain ⟨z0, t8, t9⟩ := b2 nt (s1 w).1
      rw [if_pos w, ex] at ea'
      refine Or.inl ⟨zf z0, Or.inl ?_⟩
      rw [t8, t9, (s1 w).2]
      exact av_k a8 (by decide) (by rw [ea']; exact ntF_0 x0) (fun i hi => by rw [pRA, e78]; exact (po2 w).2 i hi) _ T kk (Nat.le_refl _) av
    · rw [if_neg w, ex] at ea'
      have sn := s2 (by omega)
      have tu : tU5 P = tV5 U := by unfold tU5; rw [p72, p71, if_pos (by omega), tv]
      rw [tu] at av
      have c4 := hA.2.2.1.2.2.2.2.1
      have cv : cV5 U = cv6 A (tV5 U) (Xi A 904 30).toNat := by
        unfold cV5
        rw [cv_r hA.2.2.2.2.1 _ (by omega), c4.1]
      have lA' : LRNo (n0V U) U A f (Xi A 904 78) (nV5 U) := by rw [e78]; exact (lv.kS bP).kS bA'
      have xA : (NT3 A).1 = 0 := by rw [ea']; exact x0
      have rl := av_f a8 xA (by omega) (fun k i a b => by rw [pRA, pRA, e78]; exact po1 k i a b) _ T kk (Nat.le_refl _) av
      rw [← cv] at rl
      by_cases ok : LOKo (n0V U) U (cV5 U) 8 (nV5 U)
      · obtain ⟨z1, z2, tn, cn, cc, ar⟩ := b4 nt sn ok
        have ok' := (loko_r rA lA' hxA h15A (Nat.le_refl _)).1 ok
        have nT : (NT3 T).1 = 0 := by
          rw [((av_c a8 _ T kk av).2 (fun i hi => (ok' i hi).1)).2.2.2 (fun _ i hi => by rw [← cv]; exact (ok' i hi).2)]
          exact xA
        obtain ⟨rd, Fd⟩ := rd nT
        have hT : RLW U T := h.k t3 KEP.rf (Fa.kep ea)
        have KT := Fa.kep ea2
        have bT : KEP [(950, 952)] [] S T := KT.le rfl (by decide)
        have sT := sc.kS (KT.le rfl (by decide))
        have rT := scx_s sT hT.1
        have t71 : Xi T 904 71 = Xi S 904 71 := KT.f 904 71 (by decide)
        have t69 : Xi T 904 69 = Xi S 904 69 := KT.f 904 69 (by decide)
        have t78 : Xi T 904 78 = Xi S 904 78 := KT.f 904 78 (by decide)
        have tmT : tmC U (bA (ty7 U) 0) (re7 (ty7 U) (bA (ty7 U) 0)) = r2R T (Xi S 904 71) 2 3 := rn_tm rT (k0.kS bT) hT.1.2.2.2.1 (by have := hT.1.1.1; omega)
        have tb : 0 ≤ tV5 U ∧ tV5 U < Xi U 5 1 := by
          have t := tm_lt h.1.2.2.1 h.2.1 (a := bA (ty7 U) 0) (b := re7 (ty7 U) (bA (ty7 U) 0)) (by omega)
          omega
        obtain ⟨h1, h2, h3, h4, h5, h6, h7, h8, h9, h10, h11, h12, h13, h14, h15x⟩ := hT
        have c1 := h3.2.1
        have c4 := h3.2.2.2.2.1
        unfold RD16 at rd
        rw [t71, t69, t78, n69, ← tmT, show tmC U (bA (ty7 U) 0) (re7 (ty7 U) (bA (ty7 U) 0)) = tV5 U by omega] at rd
        have cl := cnt_le cn (by omega) cc
        -- the types of the values
        have y8 : ∀ i : Nat, (i : Int) < Xi U1 5 4 → ((i : Int) < Xi U 5 4 ∧ Xi U1 8 i = Xi U 8 i) ∨ (Xi U 5 4 ≤ (i : Int) ∧ Xi U1 8 i = tV5 U) := fun i hi => by
          by_cases y : (i : Int) < Xi U 5 4
          · exact Or.inl ⟨y, ar.2 i y⟩
          · refine Or.inr ⟨by omega, ?_⟩
            have t := ar.1 (i - (Xi U 5 4).toNat) (by omega)
            rw [show (Xi U 5 4 + ((i - (Xi U 5 4).toNat : Nat) : Int)).toNat = i by omega] at t
            exact t
        have y27 : ∀ i : Nat, (i : Int) < Xi U1 5 4 → 2 ≤ Xi U1 8 i ∧ Xi U1 8 i < Xi U 5 1 := fun i hi => by
          rcases y8 i hi with ⟨a, b⟩ | ⟨a, b⟩
          · rw [b]; exact (h5.1 i a).2
          · omega
        have n8 : nV5 U ≠ 0 → cV5 U + nV5 U ≤ 8 := fun y => by
          have t := (ok (nV5 U - 1) (by omega)).2; omega
        have vl : ∀ t : Int, cvC U1 t (Xi U1 5 4).toNat ≤ 8 := fun t => by
          have e1 := cvC_ad (U1 := U1) (t := t) (tp := tV5 U) (c := (Xi U 5 4).toNat) (m := nV5 U) (fun i hi => by
            have w := ar.1 i hi
            rw [show (Xi U 5 4 + (i : Int)).toNat = (Xi U 5 4).toNat + i by omega] at w
            exact w) (nV5 U) (Nat.le_refl _)
          have e2 := cv_ext (U := U) (U1 := U1) (t := t) (c := (Xi U 5 4).toNat) (fun j hj => ar.2 j (by omega)) _ (Nat.le_refl _)
          have e3 : cvC U t (Xi U 5 4).toNat ≤ 8 := by have w := h5.2.2.2 t; unfold vals at w; rw [vals_c] at w; exact w
          rw [show (Xi U1 5 4).toNat = (Xi U 5 4).toNat + nV5 U by omega, e1, e2]
          by_cases y : tV5 U = t
          · rw [if_pos y]
            by_cases v : nV5 U = 0
            · omega
            · have := n8 v
              unfold cV5 at this
              rw [y] at this
              exact this
          · rw [if_neg y]; omega
        have n48 : Xi U1 5 4 ≤ 48 := by
          have s := cvC_sum (U := U1) (Xi U1 5 4).toNat (fun i hi => by have := y27 i (by omega); omega)
          have v2 := vl 2
          have v3 := vl 3
          have v4 := vl 4
          have v5 := vl 5
          have v6 := vl 6
          have v7 := vl 7
          omega
        have rt := rtc_c (N := nV5 U) ⟨by omega, by omega⟩ (by unfold rg; omega) (nV5 U) S1 (Nat.le_refl _) rd
        obtain ⟨_, tl, r0, ar2⟩ := rt
        have e4 : Xi T 904 30 = Xi U 5 4 := c4.1.symm
        rw [e4] at tl r0 ar2
        rw [t78] at tl
        have lf := rvo_listo h1 sT (lv.kS bT) (fun i hi => (ok i hi).1) (so := 4) (rs := 6) (c := Xi U 5 4) (fun w hw => frs_s h2 (by omega) hw) (by decide) (by omega) (by omega) (nV5 U) U1 S1 (Nat.le_refl _) tn tl
        refine Or.inr ⟨z2, nT, nt_k (ks := []) (fs := [(904, 106)]) (Fd.kep rfl) (by decide) nT, lf.1, ?_, ?_, h4.k (cc 0 (by omega)) (Fc.kep rfl) (Fd.kep rfl), ?_, h6.k (cc 3 (by omega)) (cl 0) (Fc.kep rfl) (Fd.kep rfl), h7.k (cc 6 (by omega)) (cl 0) (Fc.kep rfl) (Fd.kep rfl), h8.k (cl 2) (Fc.kep rfl) (Fd.kep rfl), h9.k (cc 7 (by omega)) (cc 8 (by omega)) (cl 6) (cl 0) (Fc.kep rfl) (Fd.kep rfl), h10.k (cc 2 (by omega)) (cl 0) (Fc.kep rfl) (Fd.kep rfl), h11.k (cc 2 (by omega)) (Fc.kep rfl), h12.k h3 (cc 2 (by omega)) (cc 0 (by omega)) (Fc.kep rfl) (Fd.kep rfl), h13.k h3 t3 (cc 2 (by omega)) (cc 0 (by omega)) (cl 5) (Fc.kep rfl) (Fd.kep rfl) (fun p _ => (Fd.kep rfl : KEP [(928, 929)] [] T S1).x 928 rfl p), h14.k h3 (cl 2) (Fc.kep rfl) (Fd.kep rfl), h15x.k (cl 2) (Fc.kep rfl) (Fd.kep rfl)⟩
        · have w1 : wcU U1 4 = Xi U 5 4 + (nV5 U : Nat) := by rw [wc_s (by omega)]; exact cn
          exact lf.2.2.2.2.2.1 _ (whg_of h2 cl) (fun i hi => by rw [w1]; omega)
        · obtain ⟨d0, d1, d2, d3, d4, d5, d6, d7, d8⟩ := h3
          have s5 : ∀ j, j ∈ [16, 18, 19, 23, 32, 41, 47, 49] → Xi S1 904 j = Xi T 904 j := fun j hj => (Fd.kep rfl : KEP [] [(904, 16), (904, 18), (904, 19), (904, 23), (904, 32), (904, 41), (904, 47), (904, 49)] T S1).f 904 j (by revert hj; simp)
          rw [cn] at n48
          unfold RCT
          rw [cn, r0, cc 0 (by omega), cc 1 (by omega), cc 2 (by omega), cc 3 (by omega), cc 5 (by omega), cc 6 (by omega), cc 7 (by omega), cc 8 (by omega), s5 16 (by decide), s5 18 (by decide), s5 19 (by decide), s5 23 (by decide), s5 32 (by decide), s5 41 (by decide), s5 47 (by decide), s5 49 (by decide)]
          exact ⟨d0, d1, d2, d3, by omega, d5, d6, d7, d8⟩
        · have KU : KEP [(9, 10)] [] U U1 := Fc.kep rfl
          have KS : KEP [(928, 930)] [] T S1 := Fd.kep rfl
          refine ⟨fun i hi => ⟨?_, (y27 i hi).1, by rw [cc 1 (by omega)]; exact (y27 i hi).2⟩, fun i hi => ?_, fun k p hk hp y => ?_, fun t => by unfold vals; rw [vals_c]; exact vl t⟩
          · rcases y8 i hi with ⟨a, b⟩ | ⟨a, b⟩
            · rw [b, ar2.2 i a]; exact (h5.1 i a).1
            · have t := ar2.1 (i - (Xi U 5 4).toNat) (by omega)
              rw [show (Xi U 5 4 + ((i - (Xi U 5 4).toNat : Nat) : Int)).toNat = i by omega] at t
              rw [b, t]
          · rw [cc 5 (by omega)] at hi
            rw [KU.x 9 rfl, KS.x 928 rfl, cc 1 (by omega)]
            exact h5.2.1 i hi
          · rw [cc 0 (by omega)] at hk
            rw [KS.x 929 rfl] at y
            rw [cc 5 (by omega)]
            exact h5.2.2.1 k p hk hp y
      · obtain ⟨sf, nz⟩ := lso_same rA lA' hxA h15A (b3 nt sn) rl ok
        rcases sf with ⟨a, b⟩ | ⟨_, b, _⟩
        · exact Or.inl ⟨zf a, Or.inl b⟩
        · exact absurd b nz
  · rw [if_neg q] at tv ex
    obtain ⟨z0, t8, t9⟩ := b1 tv
    have n1 : NTB x1 4 (pR S (Xi S 904 71)) := by rw [ex]; exact ntF_0 x0
    have n2 : NTB (NT3 A) 4 (pR S (Xi S 904 71)) := by
      rw [ea']
      by_cases w : 1 < Xi S 904 72
      · rw [if_pos w]; exact ntb_k n1 (by decide) (po2 w).1
      · rw [if_neg w]; exact n1
    refine Or.inl ⟨zf z0, Or.inl ?_⟩
    rw [t8, t9, rn_pc rS k0]
    exact av_k a8 (by decide) n2 (fun i hi => by rw [pRA, e78]; exact po0 i hi) _ T kk (Nat.le_refl _) av
end
section
/-! class and reference: one pair is related -/
theorem gb_xor {x y p : Int} : gb (ixorF x y) p = (gb x p ^^ gb y p) := by
  unfold gb ixorF
  rw [ofI_toI]
  show ((Int32.ofInt x).toBitVec ^^^ (Int32.ofInt y).toBitVec).getLsbD _ = _
  rw [BitVec.getLsbD_xor]
theorem gb_m1 {p : Int} (h : 0 ≤ p ∧ p < 32) : gb (-1) p = true := by
  unfold gb
  have t : ∀ n : Nat, n < 32 → (Int32.ofInt (-1)).toBitVec.getLsbD n = true := by decide
  exact t _ (by omega)
theorem gb_z {x y : Int} : iandF x y = 0 ↔ ∀ p : Int, 0 ≤ p → p < 32 → gb (iandF x y) p = false := by
  constructor
  · intro h p _ _; rw [h]; exact gb_0
  · intro h
    have e : (Int32.ofInt (iandF x y)).toBitVec = 0#32 := by
      apply BitVec.eq_of_getLsbD_eq
      intro i hi
      have t := h i (by omega) (by omega)
      unfold gb at t
      rw [show ((i : Int)).toNat = i by omega] at t
      rw [t]; simp
    unfold iandF at e ⊢
    rw [ofI_toI] at e
    show (Int32.ofInt x &&& Int32.ofInt y).toBitVec.toInt = 0
    rw [e]; rfl
theorem bz_gb {x b : Int} (hb : 0 ≤ b ∧ b < 32) : bz7 x b ↔ ∀ p : Int, 0 ≤ p → p < 32 → p ≠ b → gb x p = false := by
  unfold bz7
  rw [gb_z]
  have e : ∀ p : Int, 0 ≤ p → p < 32 → gb (iandF x (ixorF (ishlF 1 b) (-1))) p = (gb x p && !(decide (p = b))) := fun p h0 h1 => by
    rw [gb_and, gb_xor, gb_shl ⟨h0, h1⟩ hb, gb_m1 ⟨h0, h1⟩]; simp
  constructor
  · intro h p h0 h1 ne
    have t := h p h0 h1
    rw [e p h0 h1] at t
    simpa [ne] using t
  · intro h p h0 h1
    rw [e p h0 h1]
    by_cases q : p = b
    · simp [q]
    · rw [h p h0 h1 q]; rfl
theorem rel_gb {S : sS} {r a b : Int} (hb : 0 ≤ b ∧ b < 32) : relF S r a b = 0 ↔ gb (Xi S (189 + r.toNat) a.toNat) b = false := by
  unfold relF
  rw [bt_gb hb]
  cases gb (Xi S (189 + r.toNat) a.toNat) b <;> simp
theorem okW_r {W D : sS} {R A B : Nat} (h : RLW W D) (hR : (R : Int) < Xi W 5 6) (hA : (A : Int) < Xi W 5 2) (hB : (B : Int) < Xi W 5 2) : okT W R A B ↔ okW D R A B := by
  have c2 := h.2.2.1.2.2.1
  have c6 := h.2.2.1.2.2.2.2.2.2.1
  obtain ⟨_, _, r6, r7⟩ := h.2.2.2.2.2.2.1 R hR
  have bt := h.2.2.2.2.2.2.2.1
  have ix : ∀ x y : Nat, rlB D R x y = Xi D 940 (576 * R + 24 * x + y) := fun x y => by
    unfold rlB
    rw [show (576 * (R : Int) + 24 * (x : Int) + (y : Int)).toNat = 576 * R + 24 * x + y by omega]
  unfold okT okW
  rw [show ((R : Nat) : Int).toNat = R by omega, show ((A : Nat) : Int).toNat = A by omega]
  constructor
  · rintro ⟨o1, o2⟩ x hx
    refine ⟨fun ⟨q1, q2, q3⟩ => ?_, fun ⟨q1, q2, q3⟩ => ?_⟩
    · rcases o2 with o | o
      · exact q1 (r6.1 o)
      · have t := (rel_gb ⟨by omega, by omega⟩).1 (o x (by omega) q2)
        rw [show ((R : Nat) : Int).toNat = R by omega, show ((x : Nat) : Int).toNat = x by omega] at t
        rw [ix] at q3
        have u := ((bt R x B (by omega) (by omega) (by omega)).2 (by omega)).2 q3
        rw [t] at u
        exact absurd u (by decide)
    · rcases o1 with o | o
      · exact q1 (r7.1 o)
      · have t := (bz_gb ⟨by omega, by omega⟩).1 o x (by omega) (by omega) q2
        rw [ix] at q3
        have u := ((bt R A x (by omega) (by omega) (by omega)).2 (by omega)).2 q3
        rw [t] at u
        exact absurd u (by decide)
  · intro o
    refine ⟨?_, ?_⟩
    · by_cases q : Xi W 17 R = 0
      · exact Or.inl q
      · refine Or.inr ((bz_gb ⟨by omega, by omega⟩).2 (fun p p0 p1 ne => ?_))
        obtain ⟨P, rfl⟩ := Int.eq_ofNat_of_zero_le p0
        apply Classical.byContradiction
        intro g
        have g : gb (Xi W (189 + R) A) (P : Int) = true := by simpa using g
        obtain ⟨b1, b2⟩ := bt R A P (by omega) (by omega) (by omega)
        have lt := (b1 g).2
        refine (o P (by omega)).2 ⟨fun y => q (r7.2 y), ne, ?_⟩
        rw [ix]
        exact (b2 (by omega)).1 g
    · by_cases q : Xi W 16 R = 0
      · exact Or.inl q
      · refine Or.inr (fun x hx ne => (rel_gb ⟨by omega, by omega⟩).2 ?_)
        rw [show ((R : Nat) : Int).toNat = R by omega, show ((x : Nat) : Int).toNat = x by omega]
        apply Classical.byContradiction
        intro g
        have g : gb (Xi W (189 + R) x) (B : Int) = true := by simpa using g
        obtain ⟨b1, b2⟩ := bt R x B (by omega) hx (by omega)
        have lt := (b1 g).1
        refine (o x (by omega)).1 ⟨fun y => q (r6.2 y), ne, ?_⟩
        rw [ix]
        exact (b2 (by omega)).1 g
def lRW : List rec := [(189, 195, 0, 100000)]
def lRD : List rec := [(940, 941, 0, 100000)]
/-- a pair is related, in both -/
theorem trt_r {W W1 D D1 : sS} {z y : Int} {R A B : Nat} (h : RLW W D) (t3 : TX3 W) (hR : (R : Int) < Xi W 5 6) (hA : (A : Int) < Xi W 5 2) (hB : (B : Int) < Xi W 5 2) (t : TRT W W1 z R A B) (u : TRR D D1 y R A B) : z = y ∧ (z = 0 ∨ z = 1) ∧ (z = 1 → RLW W1 D1 ∧ TX3 W1 ∧ FR lRW W W1 ∧ FR lRD D D1) := by
  have k := okW_r h hR hA hB
  have c2 := h.2.2.1.2.2.1
  have c6 := h.2.2.1.2.2.2.2.2.2.1
  by_cases q : okT W R A B
  · obtain ⟨z1, e1, e2⟩ := t.1 q
    have e0 := t.2.1 q
    obtain ⟨y1, d1⟩ := u.1 (k.1 q)
    rw [show ((R : Nat) : Int).toNat = R by omega, show ((A : Nat) : Int).toNat = A by omega] at e0 e1
    have F : FR lRW W W1 := by rw [e0]; exact FR.wI FR.rf (by unfold mdf inR lRW; simp; omega)
    have G : FR lRD D D1 := by rw [d1]; exact FR.wI FR.rf (by unfold mdf inR lRD; simp; omega)
    refine ⟨by omega, Or.inr z1, fun _ => ⟨?_, ?_, F, G⟩⟩
    · have a : KEP [(2, 12), (13, 20), (21, 24), (25, 65), (66, 106), (107, 147), (148, 188), (196, 220), (221, 245), (245, 246), (902, 904)] [(1, 3), (20, 1), (20, 12), (891, 10)] W W1 := F.kep rfl
      have b : KEP [(906, 907), (912, 923), (924, 940), (941, 946)] cSf D D1 := G.kep rfl
      obtain ⟨h1, h2, h3, h4, h5, h6, h7, h8, h9, h10, h11, h12, h13, h14, h15⟩ := h
      have c : ∀ j, Xi W1 5 j = Xi W 5 j := a.x 5 rfl
      have d : ∀ j, Xi W 5 j ≤ Xi W1 5 j := fun j => by rw [c]; exact Int.le_refl _
      refine ⟨h1.k (a.le rfl (by decide)) (b.le rfl (by decide)), h2.k (a.le rfl (by decide)), h3.k (a.le rfl (by decide)) (b.le rfl (by decide)), h4.k (c 0) (a.le rfl (by decide)) (b.le rfl (by decide)), h5.k (c 0) (c 4) (c 5) (d 1) (a.le rfl (by decide)) (b.le rfl (by decide)), h6.k (c 3) (d 0) (a.le rfl (by decide)) (b.le rfl (by decide)), h7.k (c 6) (d 0) (a.le rfl (by decide)) (b.le rfl (by decide)), ?_, h9.k (c 7) (c 8) (d 6) (d 0) (a.le rfl (by decide)) (b.le rfl (by decide)), h10.k (c 2) (d 0) (a.le rfl (by decide)) (b.le rfl (by decide)), h11.k (c 2) (a.le rfl (by decide)), h12.k h3 (c 2) (c 0) (a.le rfl (by decide)) (b.le rfl (by decide)), h13.k h3 t3 (c 2) (c 0) (d 5) (a.le rfl (by decide)) (b.le rfl (by decide)) (fun p _ => b.x 928 rfl p), h14.k h3 (d 2) (a.le rfl (by decide)) (b.le rfl (by decide)), h15.k (d 2) (a.le rfl (by decide)) (b.le rfl (by decide))⟩
      intro r x p hr hx hp
      rw [c]
      obtain ⟨b1, b2⟩ := h8 r x p hr hx hp
      have dx : Xi D1 940 (576 * r + 24 * x + p) = if 576 * r + 24 * x + p = 576 * R + 24 * A + B then 1 else Xi D 940 (576 * r + 24 * x + p) := by
        rw [d1, show (576 * (R : Int) + 24 * (A : Int) + (B : Int)).toNat = 576 * R + 24 * A + B by omega]
        by_cases w : 576 * r + 24 * x + p = 576 * R + 24 * A + B
        · rw [if_pos w, w]; exact Xi_same (by unfold rg; omega)
        · rw [if_neg w, Xi_ne (by omega)]
      by_cases w : r = R ∧ x = A
      · obtain ⟨w1, w2⟩ := w
        subst w1
        subst w2
        have g : gb (Xi W1 (189 + r) x) (p : Int) = (gb (Xi W (189 + r) x) (p : Int) || decide ((p : Int) = (B : Int))) := by
          rw [e1, gb_or, gb_shl ⟨by omega, by omega⟩ ⟨by omega, by omega⟩]
        rw [g, dx]
        by_cases v : p = B
        · subst v
          rw [if_pos rfl]
          exact ⟨fun _ => ⟨hA, hB⟩, fun _ => ⟨fun _ => by decide, fun _ => by simp⟩⟩
        · have v' : ¬ ((p : Int) = (B : Int)) := by omega
          rw [if_neg (by omega)]
          simp only [v', decide_false, Bool.or_false]
          exact ⟨b1, b2⟩
      · have e3 : Xi W1 (189 + r) x = Xi W (189 + r) x := by rw [e0, Xi_ne (by omega)]
        rw [e3]
        refine ⟨b1, fun hp2 => ?_⟩
        rw [dx, if_neg (by omega)]
        exact b2 hp2
    · have a : KEP [(5, 6), (245, 246), (902, 904)] [(20, 1)] W W1 := F.kep rfl
      unfold TX3 at t3 ⊢
      rw [txr_k a (by decide)]; exact t3
  · obtain ⟨z0, _⟩ := t.2.2 q
    obtain ⟨y0, _⟩ := u.2 (fun w => q (k.2 w))
    exact ⟨by omega, Or.inl z0, fun w => by omega⟩
end
section
/-! class and reference: 15 plain, both cases -/
theorem FR.sy {l : List rec} {S T : sS} (h : FR l S T) : FR l T S := fun k j e => by
  have t := h k j e
  exact ⟨t.1.symm, t.2.1.symm, t.2.2.symm⟩
theorem PLX.kS {U S P : sS} {f : Nat} (x : PLX U S f) (F : FR lA S P) : PLX U P f := by
  obtain ⟨h, t3, sc, l, n, kw, po, h77, h75⟩ := x
  have K : KEP [(907, 911), (950, 952)] [(904, 71), (904, 72), (904, 75), (904, 77), (904, 78)] S P := F.kep rfl
  have e71 : Xi P 904 71 = Xi S 904 71 := K.f 904 71 (by decide)
  have e72 : Xi P 904 72 = Xi S 904 72 := K.f 904 72 (by decide)
  have e75 : Xi P 904 75 = Xi S 904 75 := K.f 904 75 (by decide)
  have e77 : Xi P 904 77 = Xi S 904 77 := K.f 904 77 (by decide)
  have e78 : Xi P 904 78 = Xi S 904 78 := K.f 904 78 (by decide)
  have pr : ∀ r, pR P r = pR S r := fun r => by unfold pR; rw [K.x 908 rfl, K.x 950 rfl]
  have b : KEP [(950, 952)] [] S P := K.le rfl (by decide)
  refine ⟨h.k t3 KEP.rf (F.kep rfl), t3, sc.kS (K.le rfl (by decide)), by rw [e71]; exact l.kS b, by rw [e72]; exact n, by rw [e78]; exact kw.kS b, ⟨?_, by rw [e78]; exact po.2⟩, by rw [e77]; exact h77, by rw [e75]; exact h75⟩
  unfold PLO at po ⊢
  rw [e71, e78]
  simp only [pr]
  exact po.1
theorem st_15p {U U1 S T S1 : sS} {f : Nat} {z : Int} (x : PLX U S f) (w11 : Xi U 891 11 = 0) (h70 : Xi S 904 70 = 15) (hz : z = 0 ∨ z = 1) (zf : z = 0 → Xi U1 876 8 ≠ 0) (tc : TPN md_me_countReadings__p md_me_readAdjective__p U U1 z) (rc : ∃ P : sS, FR lA S P ∧ (Xi P 904 106 = 0 ∧ Xi P 904 108 = 0) ∧ RAX P T) (Fa : FR md_mo_asked__15cf S T) (rd3 : (NT3 T).1 = 0 → Xi T 904 142 = 3 → RDB (uI T 904 73 (Int32.ofInt 0)) S1) (rd4 : (NT3 T).1 = 0 → Xi T 904 142 = 4 → RVB4 T S1) : STP U1 T S1 := by
  obtain ⟨P, FP, ⟨hP0, _⟩, rx⟩ := rc
  have xP := x.kS FP
  have FT : FR (lA ++ md_mo_asked__15cf) P T := (FP.sy.up rfl : FR (lA ++ md_mo_asked__15cf) P S).tr Fa rfl
  have e70 : Xi P 904 70 = 15 := (FP.x 904 70 rfl).trans h70
  obtain ⟨C, FC, tc⟩ := tc
  rcases tc with ⟨ph, na, ta⟩ | ⟨hn, tb⟩
  · refine st_15A xP FC ph na w11 hz zf ta hP0 (by omega) rx FT rfl rfl (fun a b => ⟨rd3 a b, ?_⟩)
    unfold NT3
    rw [Xi_ne (by omega), Xi_ne (by omega), Xi_ne (by omega)]
  · exact st_15B xP FC hn hz zf tb hP0 rx FT rfl rfl rd4
end
section
/-! class and reference: 20, tokens of a list of objects -/
theorem tr_k {t : Int} (h : 0 ≤ t ∧ t ≤ 108) : (tr7 t = 3 ↔ t = 100) ∧ (tr7 t = 116 ↔ t = 16) ∧ (tr7 t = 44 ↔ t = 104) ∧ ((100 ≤ tr7 t ∧ tr7 t ≤ 103) ↔ (0 ≤ t ∧ t ≤ 3)) := by
  unfold tr7
  by_cases q : t < 100
  · rw [if_pos q]; omega
  · rw [if_neg q]
    have e : t = 100 ∨ t = 101 ∨ t = 102 ∨ t = 103 ∨ t = 104 ∨ t = 105 ∨ t = 106 ∨ t = 107 ∨ t = 108 := by omega
    rcases e with e | e | e | e | e | e | e | e | e <;> (subst e; decide)
theorem tk_907 {U S : sS} {f : Nat} {i : Int} (sc : SCX U S f) (h : 0 ≤ i ∧ i < Xi U 876 7) : Xi S 907 ((f : Int) + i).toNat = tr7 (ty7 U i) := by
  have t := (sc.1 i.toNat (by omega)).2.1
  rw [show ((f : Int) + i).toNat = f + i.toNat by omega, t]
  unfold ty7
  rw [if_pos h]
theorem ty_100 {U : sS} {i : Int} (h : ty7 U i = 100) : 0 ≤ i ∧ i < Xi U 876 7 ∧ Xi U 877 i.toNat = 100 := by
  unfold ty7 at h
  by_cases q : 0 ≤ i ∧ i < Xi U 876 7
  · rw [if_pos q] at h; exact ⟨q.1, q.2, h⟩
  · rw [if_neg q] at h; exact absurd h (by decide)
theorem ren_u {U : sS} {b : Int} : ∀ (m n : Nat) (r : Int), m < n → (∀ j : Int, r ≤ j → j < r + m → ty7 U j = 100) → r + m ≤ b → (r + m = b ∨ ty7 U (r + m) ≠ 100) → ren U b n r = r + m
  | 0, n, r, hn, _, hb, e => by
    have h : ¬ (0 ≤ r ∧ r < b ∧ r < Xi U 876 7 ∧ Xi U 877 r.toNat = 100) := fun ⟨a, c, d, w⟩ => by
      rcases e with e | e
      · omega
      · apply e
        rw [show r + ((0 : Nat) : Int) = r by omega]
        unfold ty7
        rw [if_pos ⟨a, d⟩]; exact w
    rw [ren_e h]; omega
  | m + 1, n, r, hn, k, hb, e => by
    obtain ⟨a, c, d⟩ := ty_100 (k r (by omega) (by omega))
    obtain ⟨n', rfl⟩ : ∃ n', n = n' + 1 := ⟨n - 1, by omega⟩
    have ih := ren_u (U := U) (b := b) m n' (r + 1) (by omega) (fun j j1 j2 => k j (by omega) (by omega)) (by omega) (by rw [show r + 1 + (m : Int) = r + ((m + 1 : Nat) : Int) by omega]; exact e)
    show ren U b (n' + 1) r = r + ((m + 1 : Nat) : Int)
    rw [ren, if_pos ⟨a, by omega, c, d⟩, ih]
    omega
/-- where a run ends, in the class -/
theorem ru_u {U : sS} {a b e : Int} (h0 : a ≤ e) (hb : e ≤ b) (hl : e - a ≤ 5130) (k : ∀ j : Int, a ≤ j → j < e → ty7 U j = 100) (q : e = b ∨ ty7 U e ≠ 100) : ruF U a b = e := by
  have t := ren_u (U := U) (b := b) (e - a).toNat 5131 a (by omega) (fun j j1 j2 => k j j1 (by omega)) (by omega) (by rw [show a + ((e - a).toNat : Int) = e by omega]; exact q)
  rw [show a + ((e - a).toNat : Int) = e by omega] at t
  exact t
/-- where a name of a list ends, in the reference -/
theorem nx_u {S : sS} {b e : Int} (q : b ≤ e ∨ Xi S 907 e.toNat = 116 ∨ Xi S 907 e.toNat = 44) : ∀ (m : Nat) (i : Int), i + m = e → e ≤ b → (∀ j : Int, i ≤ j → j < e → Xi S 907 j.toNat ≠ 116 ∧ Xi S 907 j.toNat ≠ 44) → nxS S b i = e
  | 0, i, hi, _, _ => by
    have : i = e := by omega
    subst this
    exact nx_e q
  | m + 1, i, hi, hb, k => by
    obtain ⟨k1, k2⟩ := k i (by omega) (by omega)
    rw [nx_s (by omega) k1 k2]
    exact nx_u q m (i + 1) (by omega) hb (fun j j1 j2 => k j (by omega) j2)
end
section
/-! class and reference: 20, one name of a list of objects -/
def NLO (U : sS) (b i e : Int) : Prop := bA (ty7 U) i < e ∧ e ≤ b ∧ (∀ j : Int, bA (ty7 U) i ≤ j → j < e → ty7 U j = 100) ∧ (e = b ∨ ty7 U e = 104 ∨ ty7 U e = 16)
theorem nlo_c {U : sS} {b i e : Int} (h : NLO U b i e) (h0 : 0 ≤ i) (hb : b ≤ 5130) : ruF U (bA (ty7 U) i) b = e := by
  have t := bA_b (T := ty7 U) (i := i)
  obtain ⟨h1, h2, h3, h4⟩ := h
  refine ru_u (by omega) h2 (by omega) h3 ?_
  rcases h4 with q | q | q
  · exact Or.inl q
  · exact Or.inr (by omega)
  · exact Or.inr (by omega)
theorem nlo_r {U S : sS} {f : Nat} {b i e : Int} (v : RVO U S) (sc : SCX U S f) (tb : ∀ i : Int, 0 ≤ ty7 U i ∧ ty7 U i ≤ 108) (h : NLO U b i e) (h0 : 0 ≤ i) (hb : b ≤ Xi U 876 7) : nxS S (f + b) (f + i) = f + e ∧ oaR S (f + i) (f + e) = f + bA (ty7 U) i ∧ obR S (f + i) (f + e) = (if fnd U 2 (bA (ty7 U) i) e = -1 then -9 else fnd U 2 (bA (ty7 U) i) e) := by
  obtain ⟨h1, h2, h3, h4⟩ := h
  have t := bA_b (T := ty7 U) (i := i)
  have b1 : bA (ty7 U) i ≤ i + 1 := by unfold bA; split <;> omega
  have n5 := sc.2
  have tk : ∀ j : Int, 0 ≤ j → j < b → Xi S 907 ((f : Int) + j).toNat = tr7 (ty7 U j) := fun j j0 j1 => tk_907 sc ⟨j0, by omega⟩
  have e1 : nxS S (f + b) (f + i) = f + e := by
    refine nx_u ?_ (e - i).toNat (f + i) (by omega) (by omega) (fun j j1 j2 => ?_)
    · by_cases q : e = b
      · exact Or.inl (by omega)
      · have u := tr_k (tb e)
        rw [tk e (by omega) (by omega)]
        rcases h4 with w | w | w
        · exact absurd w q
        · exact Or.inr (Or.inr (u.2.2.1.2 w))
        · exact Or.inr (Or.inl (u.2.1.2 w))
    · obtain ⟨x, rfl⟩ : ∃ x : Int, j = f + x := ⟨j - f, by omega⟩
      rw [tk x (by omega) (by omega)]
      have u := tr_k (tb x)
      have ne : ty7 U x ≠ 16 ∧ ty7 U x ≠ 104 := by
        by_cases w : bA (ty7 U) i ≤ x
        · rw [h3 x w (by omega)]; decide
        · have xi : x = i := by omega
          have ar : art7 (ty7 U i) := by
            apply Classical.byContradiction
            intro y
            unfold bA at w
            rw [if_neg y] at w
            omega
          unfold art7 at ar
          rw [xi]; omega
      exact ⟨fun w => ne.1 (u.2.1.1 w), fun w => ne.2 (u.2.2.1.1 w)⟩
  have e2 : oaR S (f + i) (f + e) = f + bA (ty7 U) i := by
    unfold oaR bA
    rw [tk i h0 (by omega)]
    have u := (tr_k (tb i)).2.2.2
    by_cases w : art7 (ty7 U i)
    · have w' : 0 ≤ ty7 U i ∧ ty7 U i ≤ 3 := w
      rw [if_pos ⟨by omega, (u.2 w').1, (u.2 w').2⟩, if_pos w]; omega
    · have w' : ¬ (0 ≤ ty7 U i ∧ ty7 U i ≤ 3) := w
      rw [if_neg (fun y => w' (u.1 ⟨y.2.1, y.2.2⟩)), if_neg w]
  refine ⟨e1, e2, ?_⟩
  have m := (scx_s sc v).1 (bA (ty7 U) i) e (by omega) (by omega) h3
  have fm : fnd U 2 (bA (ty7 U) i) e = msR S (f + bA (ty7 U) i) (e - bA (ty7 U) i) 4 := fnd_ms (s := 4) m v.2.2.2.1 (by have := v.1.1; omega) (by omega)
  have w3 : ∀ j : Nat, oaR S (f + i) (f + e) ≤ j → (j : Int) < f + e → Xi S 907 j = 3 := fun j j1 j2 => by
    rw [e2] at j1
    have w := tk (j - f) (by omega) (by omega)
    rw [show ((f : Int) + ((j : Int) - f)).toNat = j by omega] at w
    rw [w]
    exact (tr_k (tb _)).1.2 (h3 _ (by omega) (by omega))
  unfold obR
  rw [fm]
  by_cases q : msR S (f + bA (ty7 U) i) (e - bA (ty7 U) i) 4 = -1
  · rw [if_pos q, if_neg (fun y => y.2 (by rw [e2, show (f : Int) + e - (f + bA (ty7 U) i) = e - bA (ty7 U) i by omega]; exact q))]
  · rw [if_neg q, if_pos ⟨w3, by rw [e2, show (f : Int) + e - (f + bA (ty7 U) i) = e - bA (ty7 U) i by omega]; exact q⟩, e2, show (f : Int) + e - (f + bA (ty7 U) i) = e - bA (ty7 U) i by omega]
theorem nx_sp {S : sS} {b : Int} : ∀ (m : Nat) (i : Int), i + m = b → i ≤ nxS S b i ∧ nxS S b i ≤ b ∧ (nxS S b i = b ∨ Xi S 907 (nxS S b i).toNat = 116 ∨ Xi S 907 (nxS S b i).toNat = 44)
  | 0, i, hi => by
    rw [nx_e (Or.inl (by omega))]
    exact ⟨by omega, by omega, Or.inl (by omega)⟩
  | m + 1, i, hi => by
    by_cases q : Xi S 907 i.toNat = 116 ∨ Xi S 907 i.toNat = 44
    · rw [nx_e (Or.inr q)]
      exact ⟨by omega, by omega, Or.inr q⟩
    · rw [nx_s (by omega) (fun w => q (Or.inl w)) (fun w => q (Or.inr w))]
      have ih := nx_sp (S := S) (b := b) m (i + 1) (by omega)
      exact ⟨by omega, ih.2.1, ih.2.2⟩
theorem ms_pos {S : sS} {t n s : Int} (h : msR S t n s ≠ -1) : 1 ≤ n := by
  apply Classical.byContradiction
  intro q
  apply h
  have e : nmR S t n = -1 := by unfold nmR; rw [if_pos (by omega)]
  unfold msR
  rw [if_neg (fun y => y.1 e)]
/-- no name there: the reference finds none -/
theorem nlo_n {U S : sS} {f : Nat} {b i : Int} (sc : SCX U S f) (tb : ∀ i : Int, 0 ≤ ty7 U i ∧ ty7 U i ≤ 108) (h : ¬ ∃ e : Int, NLO U b i e) (h0 : 0 ≤ i) (hi : i ≤ b) (hb : b ≤ Xi U 876 7) : obR S (f + i) (nxS S (f + b) (f + i)) = -9 := by
  obtain ⟨s1, s2, s3⟩ := nx_sp (S := S) (b := f + b) (b - i).toNat (f + i) (by omega)
  have tk : ∀ j : Int, 0 ≤ j → j < b → Xi S 907 ((f : Int) + j).toNat = tr7 (ty7 U j) := fun j j0 j1 => tk_907 sc ⟨j0, by omega⟩
  obtain ⟨e, ee⟩ : ∃ e : Int, nxS S (f + b) (f + i) = f + e := ⟨nxS S (f + b) (f + i) - f, by omega⟩
  rw [ee] at s1 s2 s3 ⊢
  unfold obR
  apply if_neg
  rintro ⟨w3, w4⟩
  have p := ms_pos w4
  have e2 : oaR S (f + i) (f + e) = f + bA (ty7 U) i := by
    unfold oaR bA
    by_cases y : i < e
    · rw [tk i h0 (by omega)]
      have u := (tr_k (tb i)).2.2.2
      by_cases w : art7 (ty7 U i)
      · have w' : 0 ≤ ty7 U i ∧ ty7 U i ≤ 3 := w
        rw [if_pos ⟨by omega, (u.2 w').1, (u.2 w').2⟩, if_pos w]; omega
      · have w' : ¬ (0 ≤ ty7 U i ∧ ty7 U i ≤ 3) := w
        rw [if_neg (fun y => w' (u.1 ⟨y.2.1, y.2.2⟩)), if_neg w]
    · exfalso
      unfold oaR at p
      rw [if_neg (fun w => y (by omega))] at p
      omega
  have t := bA_b (T := ty7 U) (i := i)
  rw [e2] at p w3
  refine h ⟨e, by omega, by omega, fun j j1 j2 => ?_, ?_⟩
  · have w := w3 (f + j).toNat (by omega) (by omega)
    rw [tk j (by omega) (by omega)] at w
    exact (tr_k (tb j)).1.1 w
  · by_cases q : e = b
    · exact Or.inl q
    · rw [tk e (by omega) (by omega)] at s3
      have u := tr_k (tb e)
      rcases s3 with w | w | w
      · omega
      · exact Or.inr (Or.inr (u.2.1.1 w))
      · exact Or.inr (Or.inl (u.2.2.1.1 w))
end
section
/-! class and reference: 20, lists of objects -/
theorem ren_sp {U : sS} {b : Int} : ∀ (n : Nat) (r : Int), r ≤ b → r ≤ ren U b n r ∧ ren U b n r ≤ b ∧ ∀ j : Int, r ≤ j → j < ren U b n r → ty7 U j = 100
  | 0, r, h => ⟨Int.le_refl _, h, fun j j1 j2 => absurd j2 (by show ¬ j < r; omega)⟩
  | n + 1, r, h => by
    rw [ren]
    by_cases q : 0 ≤ r ∧ r < b ∧ r < Xi U 876 7 ∧ Xi U 877 r.toNat = 100
    · rw [if_pos q]
      obtain ⟨a, c, d⟩ := ren_sp (U := U) (b := b) n (r + 1) (by omega)
      refine ⟨by omega, c, fun j j1 j2 => ?_⟩
      by_cases w : j = r
      · rw [w]; unfold ty7; rw [if_pos ⟨q.1, q.2.2.1⟩]; exact q.2.2.2
      · exact d j (by omega) j2
    · rw [if_neg q]
      exact ⟨by omega, h, fun j j1 j2 => by omega⟩
/-- the objects of a list, as the class goes through it -/
def ioL (S : sS) (b k : Int) : Nat → Int → List Int → Option (List Int)
  | 0, _, _ => none
  | n + 1, i, c =>
    if b ≤ i then some []
    else if fnd S 2 (bA (ty7 S) i) (ruF S (bA (ty7 S) i) b) = -1 ∨ isK S (Xi S 21 (fnd S 2 (bA (ty7 S) i) (ruF S (bA (ty7 S) i) b)).toNat) k = 0 then some []
    else if ruF S (bA (ty7 S) i) b = b then some (c ++ [fnd S 2 (bA (ty7 S) i) (ruF S (bA (ty7 S) i) b)])
    else if ty7 S (ruF S (bA (ty7 S) i) b) = 104 then
      (if ty7 S (ruF S (bA (ty7 S) i) b + 1) = 16 then ioL S b k n (ruF S (bA (ty7 S) i) b + 2) (c ++ [fnd S 2 (bA (ty7 S) i) (ruF S (bA (ty7 S) i) b)]) else ioL S b k n (ruF S (bA (ty7 S) i) b + 1) (c ++ [fnd S 2 (bA (ty7 S) i) (ruF S (bA (ty7 S) i) b)]))
    else if ty7 S (ruF S (bA (ty7 S) i) b) = 16 then ioL S b k n (ruF S (bA (ty7 S) i) b + 1) (c ++ [fnd S 2 (bA (ty7 S) i) (ruF S (bA (ty7 S) i) b)])
    else some []
theorem iol_r {U S : sS} {f : Nat} {b k : Int} (h : RLW U S) (sc : SCX U S f) (tb : ∀ i : Int, 0 ≤ ty7 U i ∧ ty7 U i ≤ 108) (hb : b ≤ Xi U 876 7) (hd : ty7 U b ≠ 16) : ∀ (n : Nat) (i : Int) (c : List Int), 0 ≤ i → i ≤ b → ioL U b k n i c = lW S (f + b) k n (f + i) c
  | 0, i, c, _, _ => rfl
  | n + 1, i, c, h0, hi => by
    have n5 := sc.2
    have t := bA_b (T := ty7 U) (i := i)
    have b1 : bA (ty7 U) i ≤ i + 1 := by unfold bA; split <;> omega
    rw [ioL, lW]
    by_cases ex : ∃ e : Int, NLO U b i e
    · obtain ⟨e, nl⟩ := ex
      have rc := nlo_c nl h0 (by omega)
      obtain ⟨e1, e2, e3⟩ := nlo_r h.1 sc tb nl h0 hb
      obtain ⟨l1, l2, l3, l4⟩ := nl
      rw [rc, e1, e3, if_neg (show ¬ b ≤ i by omega)]
      by_cases q : fnd U 2 (bA (ty7 U) i) e = -1
      · rw [if_pos q, if_pos (Or.inl q), if_pos (Or.inl rfl)]
      · rw [if_neg q]
        have ob : 0 ≤ fnd U 2 (bA (ty7 U) i) e ∧ fnd U 2 (bA (ty7 U) i) e < Xi U 5 2 := fnd_wc (by omega) h.1.2.2.1 h.2.1 q
        have oo := h.2.2.2.2.2.2.2.2.2.1.1.2 (fnd U 2 (bA (ty7 U) i) e).toNat (by omega)
        have ik : isK U (Xi U 21 (fnd U 2 (bA (ty7 U) i) e).toNat) k = blR S (Xi S 918 (fnd U 2 (bA (ty7 U) i) e).toNat) k := by rw [oo.1]; exact isK_bl h.2.2.2.1 oo.2.2
        by_cases w : isK U (Xi U 21 (fnd U 2 (bA (ty7 U) i) e).toNat) k = 0
        · rw [if_pos (Or.inr w), if_pos (Or.inr (by rw [← ik]; exact w))]
        · rw [if_neg (fun y => by rcases y with y | y; exact q y; exact w y), if_neg (show ¬ (fnd U 2 (bA (ty7 U) i) e = -9 ∨ blR S (Xi S 918 (fnd U 2 (bA (ty7 U) i) e).toNat) k = 0) from fun y => by rcases y with y | y; omega; exact w (by rw [ik]; exact y))]
          by_cases v : e = b
          · rw [if_pos v, if_pos (by omega)]
          · rw [if_neg v, if_neg (show ¬ (f : Int) + b ≤ f + e by omega)]
            have tk : ∀ j : Int, 0 ≤ j → j < b → Xi S 907 ((f : Int) + j).toNat = tr7 (ty7 U j) := fun j j0 j1 => tk_907 sc ⟨j0, by omega⟩
            unfold nxP
            rw [tk e (by omega) (by omega)]
            have u := tr_k (tb e)
            rcases l4 with y | y | y
            · exact absurd y v
            · rw [if_pos y]
              have n1 : (f : Int) + e + 1 = f + (e + 1) := by omega
              have n2 : (f : Int) + e + 2 = f + (e + 2) := by omega
              by_cases g : ty7 U (e + 1) = 16
              · have lt : e + 1 < b := by
                  apply Classical.byContradiction
                  intro z
                  exact hd (by rw [show b = e + 1 by omega]; exact g)
                rw [if_pos g, if_pos ⟨by omega, u.2.2.1.2 y, by omega, by rw [n1, tk (e + 1) (by omega) lt]; exact (tr_k (tb _)).2.1.2 g⟩, n2]
                exact iol_r h sc tb hb hd n (e + 2) _ (by omega) (by omega)
              · rw [if_neg g, if_neg (fun z => g ((tr_k (tb _)).2.1.1 (by have s := z.2.2.2; rw [n1, tk (e + 1) (by omega) (by omega)] at s; exact s))), n1]
                exact iol_r h sc tb hb hd n (e + 1) _ (by omega) (by omega)
            · rw [if_neg (by omega), if_pos y, if_neg (fun z => by have s := u.2.2.1.1 z.2.1; omega), show (f : Int) + e + 1 = f + (e + 1) by omega]
              exact iol_r h sc tb hb hd n (e + 1) _ (by omega) (by omega)
    · rw [nlo_n sc tb ex h0 hi hb, if_pos (show (-9 : Int) = -9 ∨ _ from Or.inl rfl)]
      by_cases q0 : b ≤ i
      · rw [if_pos q0]
      · rw [if_neg q0]
        obtain ⟨r1, r2, r3⟩ := ren_sp (U := U) (b := b) 5131 (bA (ty7 U) i) (by omega)
        have r1 : bA (ty7 U) i ≤ ruF U (bA (ty7 U) i) b := r1
        have r2 : ruF U (bA (ty7 U) i) b ≤ b := r2
        have r3 : ∀ j : Int, bA (ty7 U) i ≤ j → j < ruF U (bA (ty7 U) i) b → ty7 U j = 100 := r3
        by_cases q : fnd U 2 (bA (ty7 U) i) (ruF U (bA (ty7 U) i) b) = -1 ∨ isK U (Xi U 21 (fnd U 2 (bA (ty7 U) i) (ruF U (bA (ty7 U) i) b)).toNat) k = 0
        · rw [if_pos q]
        · have lt := fnd_lt (S := U) (s := 2) (by omega) (fun y => q (Or.inl y))
          rw [if_neg q, if_neg (fun y => ex ⟨_, lt, r2, r3, Or.inl y⟩), if_neg (fun y => ex ⟨_, lt, r2, r3, Or.inr (Or.inl y)⟩), if_neg (fun y => ex ⟨_, lt, r2, r3, Or.inr (Or.inr y)⟩)]
/-- the class only asks whether there is such a list -/
theorem iow_l {S : sS} {b k : Int} : ∀ (n : Nat) (i : Int) (c l : List Int), ioL S b k n i c = some l → ioW S b k n i = some (if l = [] then 0 else 1)
  | 0, i, c, l, h => by cases h
  | n + 1, i, c, l, h => by
    rw [ioL] at h
    rw [ioW]
    split at h
    · rw [if_pos (by assumption)]; injection h with h; subst h; rfl
    rw [if_neg (by assumption)]
    split at h
    · rw [if_pos (by assumption)]; injection h with h; subst h; rfl
    rw [if_neg (by assumption)]
    split at h
    · rw [if_pos (by assumption)]; injection h with h; subst h; rw [if_neg (by simp)]
    rw [if_neg (by assumption)]
    split at h
    · rw [if_pos (by assumption)]
      split at h
      · rw [if_pos (by assumption)]; exact iow_l n _ _ l h
      · rw [if_neg (by assumption)]; exact iow_l n _ _ l h
    rw [if_neg (by assumption)]
    split at h
    · rw [if_pos (by assumption)]; exact iow_l n _ _ l h
    · rw [if_neg (by assumption)]; injection h with h; subst h; rfl
theorem iov_r {U S : sS} {f : Nat} {a b k : Int} (h : RLW U S) (sc : SCX U S f) (tb : ∀ i : Int, 0 ≤ ty7 U i ∧ ty7 U i ≤ 108) (ha : 0 ≤ a ∧ a ≤ b) (hb : b ≤ Xi U 876 7) (hd : ty7 U b ≠ 16) : ioV U a b k ≠ 0 ↔ lV S (f + a) (f + b) k ≠ [] := by
  have n5 := sc.2
  obtain ⟨l, el⟩ := lw_end (S := S) (b := f + b) (k := k) 6000 (f + a) [] (by omega)
  have e := iol_r (k := k) h sc tb hb hd 6000 a [] ha.1 ha.2
  rw [el] at e
  have w := iow_l 6000 a [] l e
  have v := lw_V el (by omega)
  unfold ioV
  rw [w, ← v]
  by_cases q : l = []
  · rw [if_pos q]; exact ⟨fun y => absurd rfl y, fun y => absurd q y⟩
  · rw [if_neg q]; exact ⟨fun _ => q, fun _ => by decide⟩
end
section
/-! class and reference: 20, verbs -/
theorem sg_fl {U S : sS} {f : Nat} (sc : SCX U S f) (tb : ∀ i : Int, 0 ≤ ty7 U i ∧ ty7 U i ≤ 108) : ∀ n : Nat, (n : Int) ≤ Xi U 876 7 → (sgF S f n ≠ 0 ↔ fl7 (ty7 U) n = 0)
  | 0, _ => ⟨fun _ => rfl, fun _ => by show (1 : Int) ≠ 0; decide⟩
  | n + 1, hn => by
    have ih := sg_fl sc tb n (by omega)
    have t := tk_907 (i := n) sc ⟨by omega, by omega⟩
    have u := tr_k (tb n)
    show (if sgF S f n ≠ 0 ∧ Xi S 907 ((f : Int) + n).toNat ≠ 116 ∧ Xi S 907 ((f : Int) + n).toNat ≠ 44 then (1 : Int) else 0) ≠ 0 ↔ (if fl7 (ty7 U) n ≠ 0 ∨ ty7 U n = 16 ∨ ty7 U n = 104 then (1 : Int) else 0) = 0
    rw [t]
    by_cases a : fl7 (ty7 U) n ≠ 0 ∨ ty7 U n = 16 ∨ ty7 U n = 104
    · rw [if_pos a, if_neg (fun y => by
        rcases a with a | a | a
        · exact a (ih.1 y.1)
        · exact y.2.1 (u.2.1.2 a)
        · exact y.2.2 (u.2.2.1.2 a))]
      exact ⟨fun y => absurd rfl y, fun y => absurd y (by decide)⟩
    · rw [if_neg a, if_pos ⟨ih.2 (by apply Classical.byContradiction; intro y; exact a (Or.inl y)), fun y => a (Or.inr (Or.inl (u.2.1.1 y))), fun y => a (Or.inr (Or.inr (u.2.2.1.1 y)))⟩]
      exact ⟨fun _ => rfl, fun _ => by decide⟩
theorem vb_r {U S : sS} {f n : Nat} (v : RVO U S) (sc : SCX U S f) (tb : ∀ i : Int, 0 ≤ ty7 U i ∧ ty7 U i ≤ 108) (hn : (n : Int) < Xi U 876 7) : vbL U n = vbA S f n := by
  have t := tk_907 (i := n) sc ⟨by omega, hn⟩
  have u := tr_k (tb n)
  have sg := sg_fl sc tb n (by omega)
  unfold vbL vbA
  rw [t]
  by_cases q : ty7 U n = 100
  · have e : fl7 (ty7 U) (n + 1) ≠ 0 ↔ fl7 (ty7 U) n ≠ 0 := by
      show (if fl7 (ty7 U) n ≠ 0 ∨ ty7 U n = 16 ∨ ty7 U n = 104 then (1 : Int) else 0) ≠ 0 ↔ _
      by_cases a : fl7 (ty7 U) n ≠ 0
      · rw [if_pos (Or.inl a)]; exact ⟨fun _ => a, fun _ => by decide⟩
      · rw [if_neg (fun y => by rcases y with y | y | y; exact a y; omega; omega)]; exact ⟨fun y => absurd rfl y, fun y => absurd y a⟩
    have m := (scx_s sc v).1 n (n + 1) (by omega) (by omega) (fun i i1 i2 => by rw [show i = n by omega]; exact q)
    rw [show (n : Int) + 1 - n = 1 by omega] at m
    rw [if_pos q, if_pos (u.1.2 q)]
    by_cases a : fl7 (ty7 U) n = 0
    · rw [if_neg (fun y => (e.1 y) a), if_pos (sg.2 a)]
      exact fnd_ms (s := 10) m v.2.2.2.1 (by have := v.1.1; omega) (by omega)
    · rw [if_pos (e.2 a), if_neg (fun y => a (sg.1 y))]
      exact fnd_ms (s := 9) m v.2.2.2.1 (by have := v.1.1; omega) (by omega)
  · rw [if_neg q, if_neg (fun y => q (u.1.1 y))]
theorem io_0 {U : sS} {b k : Int} : ioV U b b k = 0 := by
  unfold ioV
  rw [show (6000 : Nat) = 5999 + 1 from rfl, ioW, if_pos (Int.le_refl _)]
  rfl
theorem qv_r {U S : sS} {f n : Nat} {l : Int} (h : RLW U S) (sc : SCX U S f) (tb : ∀ i : Int, 0 ≤ ty7 U i ∧ ty7 U i ≤ 108) (hn : (n : Int) < l) (hl : l ≤ Xi U 876 7) (hd : ty7 U l ≠ 16) : qvL U l n ↔ qvR S f (f + l) n := by
  have e := vb_r (n := n) h.1 sc tb (by omega)
  unfold qvL qvR
  rw [← e]
  by_cases q : vbL U n = -1
  · exact ⟨fun y => absurd q y.1, fun y => absurd q y.1⟩
  · have t100 : ty7 U n = 100 := by
      apply Classical.byContradiction
      intro y
      apply q
      unfold vbL
      rw [if_neg y]
    have vb : 0 ≤ vbL U n ∧ vbL U n < Xi U 5 7 := by
      unfold vbL at q ⊢
      rw [if_pos t100] at q ⊢
      by_cases a : fl7 (ty7 U) (n + 1) ≠ 0
      · rw [if_pos a] at q ⊢; exact fnd_wc (by omega) h.1.2.2.1 h.2.1 q
      · rw [if_neg a] at q ⊢; exact fnd_wc (by omega) h.1.2.2.1 h.2.1 q
    have va := h.2.2.2.2.2.2.2.2.1.1 (vbL U n).toNat (by omega)
    have re := h.2.2.2.2.2.2.1 (Xi U 18 (vbL U n).toNat).toNat (by omega)
    have ra : rA S f n = Xi U 18 (vbL U n).toNat := by unfold rA; rw [← e]; exact va.1.symm
    unfold lA_ lB_
    rw [ra, ← re.1.1, ← re.1.2]
    have i1 := iov_r (a := 0) (b := n) (k := Xi U 14 (Xi U 18 (vbL U n).toNat).toNat) h sc tb ⟨by omega, by omega⟩ (by omega) (by omega)
    have i2 := iov_r (a := n + 1) (b := l) (k := Xi U 15 (Xi U 18 (vbL U n).toNat).toNat) h sc tb ⟨by omega, by omega⟩ hl hd
    rw [show (f : Int) + 0 = f by omega] at i1
    rw [show (f : Int) + ((n : Int) + 1) = f + n + 1 by omega] at i2
    rw [i1, i2]
    constructor
    · rintro ⟨a, b, c⟩
      refine ⟨a, ?_, ?_, b, c⟩
      · apply Classical.byContradiction
        intro y
        have n0 : n = 0 := by omega
        subst n0
        exact (i1.2 b) io_0
      · apply Classical.byContradiction
        intro y
        have n1 : (n : Int) + 1 = l := by omega
        exact (i2.2 c) (by rw [n1]; exact io_0)
    · rintro ⟨a, _, _, b, c⟩
      exact ⟨a, b, c⟩
theorem cn_r {U S : sS} {f : Nat} {l : Int} (h : RLW U S) (sc : SCX U S f) (tb : ∀ i : Int, 0 ≤ ty7 U i ∧ ty7 U i ≤ 108) (hl : l ≤ Xi U 876 7) (hd : ty7 U l ≠ 16) : ∀ n : Nat, (n : Int) ≤ l → cnL U l n = cnA S f (f + l) n
  | 0, _ => rfl
  | n + 1, hn => by
    have e := qv_r (n := n) h sc tb (by omega) hl hd
    rw [cnL, cnA, cn_r h sc tb hl hd n (by omega)]
    by_cases q : qvL U l n
    · rw [if_pos q, if_pos (e.1 q)]
    · rw [if_neg q, if_neg (fun y => q (e.2 y))]
end
section
/-! class and reference: 20, the one verb -/
theorem ps_r {U S : sS} {f : Nat} {l : Int} (h : RLW U S) (sc : SCX U S f) (tb : ∀ i : Int, 0 ≤ ty7 U i ∧ ty7 U i ≤ 108) (hl : l ≤ Xi U 876 7) (hd : ty7 U l ≠ 16) : ∀ n : Nat, (n : Int) ≤ l → 0 ≤ cnL U l n ∧ (cnL U l n = 0 → psL U l n = -1 ∧ psA S f (f + l) n = -1) ∧ (cnL U l n = 1 → psL U l n = psA S f (f + l) n ∧ 0 ≤ psL U l n ∧ psL U l n < n)
  | 0, _ => ⟨Int.le_refl _, fun _ => ⟨rfl, rfl⟩, fun q => absurd q (by show ¬ (0 : Int) = 1; decide)⟩
  | n + 1, hn => by
    have e := qv_r (n := n) h sc tb (by omega) hl hd
    obtain ⟨i1, i2, i3⟩ := ps_r h sc tb hl hd n (by omega)
    rw [cnL, psL, psA]
    by_cases q : qvL U l n
    · rw [if_pos q, if_pos q]
      refine ⟨by omega, fun y => by omega, fun y => ?_⟩
      obtain ⟨a, b⟩ := i2 (by omega)
      rw [if_pos ⟨b, e.1 q⟩]
      exact ⟨rfl, by omega, by omega⟩
    · rw [if_neg q, if_neg q, if_neg (fun y => q (e.2 y.2))]
      refine ⟨i1, i2, fun y => ?_⟩
      obtain ⟨a, b, c⟩ := i3 y
      exact ⟨a, b, by omega⟩
end
section
/-! class and reference: 20, where the names of a list begin -/
def bc7 (T : Int → Int) (a : Int) : Nat → Nat
  | 0 => 0
  | m + 1 => bc7 T a m + (if T (a + m) = 100 ∧ (m = 0 ∨ T (a + m - 1) ≠ 100) then 1 else 0)
theorem bc_n {T : Int → Int} {a r : Int} (h0 : a ≤ r) (h : T r ≠ 100) : bc7 T a (r + 1 - a).toNat = bc7 T a (r - a).toNat := by
  rw [show (r + 1 - a).toNat = (r - a).toNat + 1 by omega, bc7, if_neg (fun y => h (by rw [show r = a + ((r - a).toNat : Nat) by omega]; exact y.1))]
  omega
theorem bc_y {T : Int → Int} {a r : Int} (h0 : a ≤ r) (h : T r = 100) (g : r = a ∨ T (r - 1) ≠ 100) : bc7 T a (r + 1 - a).toNat = bc7 T a (r - a).toNat + 1 := by
  rw [show (r + 1 - a).toNat = (r - a).toNat + 1 by omega, bc7, if_pos]
  rw [show a + (((r - a).toNat : Nat) : Int) = r by omega]
  refine ⟨h, ?_⟩
  rcases g with g | g
  · exact Or.inl (by omega)
  · exact Or.inr g
theorem bc_r {T : Int → Int} {a s : Int} (h0 : a ≤ s) : ∀ m : Nat, (∀ j : Int, s ≤ j → j ≤ s + m → T j = 100) → bc7 T a (s + 1 + m - a).toNat = bc7 T a (s + 1 - a).toNat
  | 0, _ => by rw [show s + 1 + ((0 : Nat) : Int) - a = s + 1 - a by omega]
  | m + 1, k => by
    have ih := bc_r h0 m (fun j j1 j2 => k j j1 (by omega))
    rw [show (s + 1 + ((m + 1 : Nat) : Int) - a).toNat = (s + 1 + m - a).toNat + 1 by omega, bc7, if_neg, ih]
    · omega
    · rw [show a + (((s + 1 + (m : Int) - a).toNat : Nat) : Int) = s + 1 + m by omega]
      rintro ⟨_, y | y⟩
      · omega
      · exact y (by rw [show s + 1 + (m : Int) - 1 = s + m by omega]; exact k _ (by omega) (by omega))
/-- a run from s to e, that begins at s -/
theorem bc_run {T : Int → Int} {a s e : Int} (h0 : a ≤ s) (h1 : s < e) (k : ∀ j : Int, s ≤ j → j < e → T j = 100) (g : s = a ∨ T (s - 1) ≠ 100) : bc7 T a (e - a).toNat = bc7 T a (s - a).toNat + 1 := by
  have t := bc_r (T := T) h0 (e - s - 1).toNat (fun j j1 j2 => k j j1 (by omega))
  rw [show s + 1 + (((e - s - 1).toNat : Nat) : Int) - a = e - a by omega] at t
  rw [t, bc_y h0 (k s (by omega) h1) g]
theorem iol_c {S : sS} {a b k : Int} (hd : ty7 S b ≠ 16) : ∀ (n : Nat) (i : Int) (c l : List Int), ioL S b k n i c = some l → l ≠ [] → a ≤ i → i ≤ b → (i = a ∨ ty7 S (i - 1) ≠ 100) → c.length = bc7 (ty7 S) a (i - a).toNat → l.length = bc7 (ty7 S) a (b - a).toNat ∧ (∀ j : Nat, j < c.length → l.getD j 0 = c.getD j 0) ∧ ∀ r : Int, i ≤ r → r < b → ty7 S r = 100 → (r = a ∨ ty7 S (r - 1) ≠ 100) → l.getD (bc7 (ty7 S) a (r - a).toNat) 0 = fnd S 2 r (ruF S r b)
  | 0, i, c, l, h, _, _, _, _, _ => by cases h
  | n + 1, i, c, l, h, nl, ha, hb, hs, hc => by
    have t := bA_b (T := ty7 S) (i := i)
    have b1 : bA (ty7 S) i ≤ i + 1 := by unfold bA; split <;> omega
    rw [ioL] at h
    split at h
    · injection h with h; exact absurd h.symm nl
    split at h
    · injection h with h; exact absurd h.symm nl
    rename_i q0 q1
    have lt := fnd_lt (S := S) (s := 2) (by omega) (fun y => q1 (Or.inl y))
    obtain ⟨_, r2, r3⟩ := ren_sp (U := S) (b := b) 5131 (bA (ty7 S) i) (by omega)
    have r2 : ruF S (bA (ty7 S) i) b ≤ b := r2
    have r3 : ∀ j : Int, bA (ty7 S) i ≤ j → j < ruF S (bA (ty7 S) i) b → ty7 S j = 100 := r3
    generalize eo : fnd S 2 (bA (ty7 S) i) (ruF S (bA (ty7 S) i) b) = o at h
    generalize ee : ruF S (bA (ty7 S) i) b = e at h lt r2 r3
    have si : bA (ty7 S) i = a ∨ ty7 S (bA (ty7 S) i - 1) ≠ 100 := by
      by_cases w : art7 (ty7 S i)
      · right
        have : bA (ty7 S) i = i + 1 := by unfold bA; rw [if_pos w]
        rw [this, show i + 1 - 1 = i by omega]
        have w : 0 ≤ ty7 S i ∧ ty7 S i ≤ 3 := w
        omega
      · have : bA (ty7 S) i = i := by unfold bA; rw [if_neg w]
        rw [this]; exact hs
    have c0 : bc7 (ty7 S) a (bA (ty7 S) i - a).toNat = c.length := by
      by_cases w : art7 (ty7 S i)
      · have : bA (ty7 S) i = i + 1 := by unfold bA; rw [if_pos w]
        have w : 0 ≤ ty7 S i ∧ ty7 S i ≤ 3 := w
        rw [this, bc_n ha (by omega)]; exact hc.symm
      · have : bA (ty7 S) i = i := by unfold bA; rw [if_neg w]
        rw [this]; exact hc.symm
    have ce := bc_run (by omega) lt r3 si
    -- the one name between i and e
    have one : ∀ r : Int, i ≤ r → r < e → ty7 S r = 100 → (r = a ∨ ty7 S (r - 1) ≠ 100) → r = bA (ty7 S) i := fun r x1 x2 x3 x4 => by
      by_cases w : r < bA (ty7 S) i
      · have ri : r = i := by omega
        have ar : art7 (ty7 S i) := by
          apply Classical.byContradiction
          intro y
          unfold bA at w
          rw [if_neg y] at w
          omega
        have ar : 0 ≤ ty7 S i ∧ ty7 S i ≤ 3 := ar
        rw [ri] at x3
        omega
      · by_cases v : r = bA (ty7 S) i
        · exact v
        · rcases x4 with x4 | x4
          · omega
          · exact absurd (r3 (r - 1) (by omega) (by omega)) x4
    have len : (c ++ [o]).length = bc7 (ty7 S) a (e - a).toNat := by rw [ce, c0]; simp
    have lastc : (c ++ [o]).getD c.length 0 = o := by simp [List.getD]
    have oldc : ∀ j : Nat, j < c.length → (c ++ [o]).getD j 0 = c.getD j 0 := fun j hj => by simp [List.getD, List.getElem?_append_left hj]
    have fin : ∀ (i2 : Int) (m : Nat), e < i2 → i2 ≤ b → ty7 S e ≠ 100 → (∀ r : Int, e ≤ r → r < i2 → ty7 S r ≠ 100) → ioL S b k m i2 (c ++ [o]) = some l → m = n → l.length = bc7 (ty7 S) a (b - a).toNat ∧ (∀ j : Nat, j < c.length → l.getD j 0 = c.getD j 0) ∧ ∀ r : Int, i ≤ r → r < b → ty7 S r = 100 → (r = a ∨ ty7 S (r - 1) ≠ 100) → l.getD (bc7 (ty7 S) a (r - a).toNat) 0 = fnd S 2 r (ruF S r b) := fun i2 m g1 g2 g3 g4 g5 g6 => by
      subst g6
      have c2 : (c ++ [o]).length = bc7 (ty7 S) a (i2 - a).toNat := by
        rw [len]
        rcases (by omega : i2 = e + 1 ∨ e + 1 < i2) with w | w
        · rw [w, bc_n (by omega) g3]
        · have st : ∀ m : Nat, e + m ≤ i2 → bc7 (ty7 S) a (e + m - a).toNat = bc7 (ty7 S) a (e - a).toNat := fun m => by
            induction m with
            | zero => intro _; rw [show e + ((0 : Nat) : Int) - a = e - a by omega]
            | succ m ih =>
              intro hm
              rw [← ih (by omega), ← bc_n (r := e + m) (by omega) (g4 _ (by omega) (by omega)), show e + ((m + 1 : Nat) : Int) - a = e + m + 1 - a by omega]
          have := st (i2 - e).toNat (by omega)
          rw [show e + (((i2 - e).toNat : Nat) : Int) - a = i2 - a by omega] at this
          exact this.symm
      obtain ⟨f1, f2, f3⟩ := iol_c (a := a) hd m i2 (c ++ [o]) l g5 nl (by omega) g2 (Or.inr (g4 _ (by omega) (by omega))) c2
      refine ⟨f1, fun j hj => by rw [f2 j (by simp; omega), oldc j hj], fun r x1 x2 x3 x4 => ?_⟩
      by_cases w : r < e
      · have := one r x1 w x3 x4
        subst this
        rw [c0, f2 _ (by simp), lastc, ee, ← eo, ee]
      · by_cases v : r < i2
        · exact absurd x3 (g4 r (by omega) v)
        · exact f3 r (by omega) x2 x3 x4
    split at h
    · next v =>
      injection h with h
      subst h
      rw [v] at len one
      refine ⟨len, oldc, fun r x1 x2 x3 x4 => ?_⟩
      have := one r x1 x2 x3 x4
      subst this
      rw [c0, lastc, ee, ← eo, ee]
    split at h
    · next v v1 =>
      split at h
      · next v2 =>
        have lb : e + 2 ≤ b := by
          apply Classical.byContradiction
          intro y
          exact hd (by rw [show b = e + 1 by omega]; exact v2)
        exact fin (e + 2) n (by omega) lb (by omega) (fun r x1 x2 => by rcases (by omega : r = e ∨ r = e + 1) with w | w <;> rw [w] <;> omega) h rfl
      · exact fin (e + 1) n (by omega) (by omega) (by omega) (fun r x1 x2 => by rw [show r = e by omega]; omega) h rfl
    split at h
    · exact fin (e + 1) n (by omega) (by omega) (by omega) (fun r x1 x2 => by rw [show r = e by omega]; omega) h rfl
    · injection h with h; exact absurd h.symm nl
end
