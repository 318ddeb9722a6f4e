/-! SAFETY of methods: printed by wip/safe (vc.py, decl.py) -/
/-! SAFETY of the reference: what is told grows -/
def GR (T S : sS) : Prop := (Xi S 904 16 ≤ Xi T 904 16 ∧ Xi S 904 18 ≤ Xi T 904 18 ∧ Xi S 904 19 ≤ Xi T 904 19 ∧ Xi S 904 23 ≤ Xi T 904 23 ∧ Xi S 904 30 ≤ Xi T 904 30 ∧ Xi S 904 32 ≤ Xi T 904 32 ∧ Xi S 904 41 ≤ Xi T 904 41 ∧ Xi S 904 47 ≤ Xi T 904 47 ∧ Xi S 904 49 ≤ Xi T 904 49) ∧
  (∀ j : Nat, (j : Int) < Xi S 904 23 → Xi T 922 j = Xi S 922 j ∧ Xi T 923 j = Xi S 923 j ∧ Xi T 924 j = Xi S 924 j) ∧ (∀ j : Nat, (j : Int) < Xi S 904 32 → Xi T 928 j = Xi S 928 j) ∧ ∀ j : Nat, (j : Int) < Xi S 904 49 → Xi T 942 j = Xi S 942 j
theorem GR.rf {S : sS} : GR S S := ⟨⟨Int.le_refl _, Int.le_refl _, Int.le_refl _, Int.le_refl _, Int.le_refl _, Int.le_refl _, Int.le_refl _, Int.le_refl _, Int.le_refl _⟩, fun _ _ => ⟨rfl, rfl, rfl⟩, fun _ _ => rfl, fun _ _ => rfl⟩
theorem GR.tr {S T U : sS} (h : GR T S) (g : GR U T) : GR U S := by
  obtain ⟨⟨a1, a2, a3, a4, a5, a6, a7, a8, a9⟩, b, c, d⟩ := h
  obtain ⟨⟨x1, x2, x3, x4, x5, x6, x7, x8, x9⟩, y, z, w⟩ := g
  refine ⟨⟨by omega, by omega, by omega, by omega, by omega, by omega, by omega, by omega, by omega⟩, fun j hj => ?_, fun j hj => ?_, fun j hj => ?_⟩
  · obtain ⟨p, q, r⟩ := y j (by omega)
    obtain ⟨p2, q2, r2⟩ := b j hj
    exact ⟨p.trans p2, q.trans q2, r.trans r2⟩
  · exact (z j (by omega)).trans (c j hj)
  · exact (w j (by omega)).trans (d j hj)
def kGR : List (Nat × Nat) := [(922, 925), (928, 929), (942, 943)]
def jGR : List Nat := [16, 18, 19, 23, 30, 32, 41, 47, 49]
theorem GR_FR {l : List rec} {T U S : sS} (f : FR l T U) (e : (kdis l kGR && mD l jGR) = true) (h : GR T S) : GR U S := by
  rw [Bool.and_eq_true] at e
  have k := f.smk e.1
  refine GR.tr h ⟨⟨?_, ?_, ?_, ?_, ?_, ?_, ?_, ?_, ?_⟩, fun j _ => ⟨k.x 922 rfl j, k.x 923 rfl j, k.x 924 rfl j⟩, fun j _ => k.x 928 rfl j, fun j _ => k.x 942 rfl j⟩
  · exact Int.le_of_eq (mD_x f e.2 16 (by decide)).symm
  · exact Int.le_of_eq (mD_x f e.2 18 (by decide)).symm
  · exact Int.le_of_eq (mD_x f e.2 19 (by decide)).symm
  · exact Int.le_of_eq (mD_x f e.2 23 (by decide)).symm
  · exact Int.le_of_eq (mD_x f e.2 30 (by decide)).symm
  · exact Int.le_of_eq (mD_x f e.2 32 (by decide)).symm
  · exact Int.le_of_eq (mD_x f e.2 41 (by decide)).symm
  · exact Int.le_of_eq (mD_x f e.2 47 (by decide)).symm
  · exact Int.le_of_eq (mD_x f e.2 49 (by decide)).symm
theorem GR.w {T U S : sS} {k j : Nat} {v : Int} (h : GR T S) (e : U = uI T k j (Int32.ofInt v)) (hr : rg v) (hj : (k = 904 → (j = 16 → Xi S 904 16 ≤ v) ∧ (j = 18 → Xi S 904 18 ≤ v) ∧ (j = 19 → Xi S 904 19 ≤ v) ∧ (j = 23 → Xi S 904 23 ≤ v) ∧ (j = 30 → Xi S 904 30 ≤ v) ∧ (j = 32 → Xi S 904 32 ≤ v) ∧ (j = 41 → Xi S 904 41 ≤ v) ∧ (j = 47 → Xi S 904 47 ≤ v) ∧ (j = 49 → Xi S 904 49 ≤ v)) ∧ (k = 922 ∨ k = 923 ∨ k = 924 → Xi S 904 23 ≤ (j : Int)) ∧ (k = 928 → Xi S 904 32 ≤ (j : Int)) ∧ (k = 942 → Xi S 904 49 ≤ (j : Int))) : GR U S := by
  obtain ⟨⟨a1, a2, a3, a4, a5, a6, a7, a8, a9⟩, b, c, d⟩ := h
  obtain ⟨f, x, y, z⟩ := hj
  have fld : ∀ i : Nat, (k = 904 → j = i → Xi S 904 i ≤ v) → Xi S 904 i ≤ Xi T 904 i → Xi S 904 i ≤ Xi U 904 i := fun i q t => by
    by_cases m : k = 904 ∧ j = i
    · rw [e, m.1, m.2, Xi_same hr]; exact q m.1 m.2
    · rw [e, Xi_ne (by omega)]; exact t
  refine ⟨⟨fld 16 (fun q => (f q).1) a1, fld 18 (fun q => (f q).2.1) a2, fld 19 (fun q => (f q).2.2.1) a3, fld 23 (fun q => (f q).2.2.2.1) a4, fld 30 (fun q => (f q).2.2.2.2.1) a5, fld 32 (fun q => (f q).2.2.2.2.2.1) a6, fld 41 (fun q => (f q).2.2.2.2.2.2.1) a7, fld 47 (fun q => (f q).2.2.2.2.2.2.2.1) a8, fld 49 (fun q => (f q).2.2.2.2.2.2.2.2) a9⟩, fun i hi => ?_, fun i hi => ?_, fun i hi => ?_⟩
  · obtain ⟨p, q, r⟩ := b i hi
    refine ⟨?_, ?_, ?_⟩
    · rw [e, Xi_ne (by omega)]; exact p
    · rw [e, Xi_ne (by omega)]; exact q
    · rw [e, Xi_ne (by omega)]; exact r
  · rw [e, Xi_ne (by omega)]; exact c i hi
  · rw [e, Xi_ne (by omega)]; exact d i hi
theorem cM_le {S T : sS} (g : GR T S) (s : Int) : cM S s ≤ cM T s := by
  obtain ⟨⟨a1, a2, a3, a4, a5, a6, a7, a8, a9⟩, _⟩ := g
  unfold cM
  by_cases h : s = 0 ∨ s = 1
  · rw [if_pos h, if_pos h]; exact a1
  rw [if_neg h, if_neg h]
  by_cases h : s = 2 ∨ s = 3
  · rw [if_pos h, if_pos h]; exact a2
  rw [if_neg h, if_neg h]
  by_cases h : s = 4
  · rw [if_pos h, if_pos h]; exact a3
  rw [if_neg h, if_neg h]
  by_cases h : s = 5
  · rw [if_pos h, if_pos h]; exact a4
  rw [if_neg h, if_neg h]
  by_cases h : s = 6
  · rw [if_pos h, if_pos h]; exact a5
  rw [if_neg h, if_neg h]
  by_cases h : s = 7
  · rw [if_pos h, if_pos h]; exact a6
  rw [if_neg h, if_neg h]
  by_cases h : s = 8
  · rw [if_pos h, if_pos h]; exact a7
  rw [if_neg h, if_neg h]
  by_cases h : s = 9 ∨ s = 10
  · rw [if_pos h, if_pos h]; exact a8
  rw [if_neg h, if_neg h]
  by_cases h : s = 11
  · rw [if_pos h, if_pos h]; exact a9
  rw [if_neg h, if_neg h]
  exact Int.le_refl _
theorem LXK.rf {S : sS} {m : Int} : LXK S S m := fun _ _ _ => ⟨rfl, rfl, rfl, rfl, rfl, rfl, rfl⟩
theorem LXK.tr {S T U : sS} {m n : Int} (h : LXK T S m) (g : LXK U T n) (hn : m ≤ n) : LXK U S m := fun k h0 hk => by
  obtain ⟨a1, a2, a3, a4, a5, a6, a7⟩ := h k h0 hk
  obtain ⟨b1, b2, b3, b4, b5, b6, b7⟩ := g k h0 (by omega)
  exact ⟨b1.trans a1, b2.trans a2, b3.trans a3, b4.trans a4, b5.trans a5, b6.trans a6, b7.trans a7⟩
theorem LXK.fr {l : List rec} {S T U : sS} {m : Int} (h : LXK T S m) (f : FR l T U) (e : kdis l [(912, 917)] = true) : LXK U S m := h.tr (LXK_FR f e) (Int.le_refl _)
theorem lxm_gr {S T : sS} (hM : LXM S) (k : LXK T S (Xi S 904 15)) (g : GR T S) (h0 : 0 ≤ Xi S 904 15) (e : Xi T 904 15 = Xi S 904 15 ∨ (Xi T 904 15 = Xi S 904 15 + 1 ∧ Xi T 915 (Xi S 904 15).toNat < cM T (Xi T 914 (Xi S 904 15).toNat))) : LXM T := fun i hi => by
  by_cases q : (i : Int) < Xi S 904 15
  · obtain ⟨_, _, _, _, _, e4, e5⟩ := k (i : Int) (by omega) q
    rw [show (i : Int).toNat = i by omega] at e4 e5
    rw [e4, e5]
    exact Int.lt_of_lt_of_le (hM i q) (cM_le g _)
  · rcases e with e | e
    · omega
    · rw [show i = (Xi S 904 15).toNat by omega]; exact e.2
/-- what words mean stays when more are told -/
theorem rnR_up {S T : sS} {r s : Int} (k : LXK T S (Xi S 904 15)) (h0 : 0 ≤ Xi S 904 15) (hl : Xi S 904 15 ≤ Xi T 904 15) (e1 : ∀ j, Xj T 910 j = Xj S 910 j) (e2 : ∀ j, Xi T 950 j = Xi S 950 j) (e3 : ∀ j, Xi T 951 j = Xi S 951 j) (h : rnR S r s ≠ -1) : rnR T r s = rnR S r s := by
  unfold rnR at *
  rw [e2, e3]
  unfold msR at *
  have hn : nmR S (Xi S 950 r.toNat) (Xi S 951 r.toNat) ≠ -1 := fun q => by
    rw [if_neg (fun c => c.1 q)] at h
    exact h rfl
  have en : nmR T (Xi S 950 r.toNat) (Xi S 951 r.toNat) = nmR S (Xi S 950 r.toNat) (Xi S 951 r.toNat) := by
    unfold nmR at *
    split
    · rfl
    · rename_i c
      rw [if_neg c] at hn
      simp only [e1]
      have t := fdR_k (S := S) (T := T) (a := Xj S 910 (Xi S 950 r.toNat).toNat) (b := if 1 < Xi S 951 r.toNat then Xj S 910 (Xi S 950 r.toNat + 1).toNat else 0) (c := if 2 < Xi S 951 r.toNat then Xj S 910 (Xi S 950 r.toNat + 2).toNat else 0) (n := Xi S 951 r.toNat) (Xi S 904 15).toNat (fun i a b => k i a (by omega))
      have u := fdR_up t hn ((Xi T 904 15).toNat - (Xi S 904 15).toNat)
      rw [show (Xi S 904 15).toNat + ((Xi T 904 15).toNat - (Xi S 904 15).toNat) = (Xi T 904 15).toNat by omega] at u
      exact u
  rcases nmR_rg (S := S) (t := Xi S 950 r.toNat) (n := Xi S 951 r.toNat) h0 with q | q
  · exact absurd q hn
  · obtain ⟨_, _, _, _, _, e4, e5⟩ := k _ q.1 q.2
    rw [en, e4, e5]
/-- how many words there may be -/
def lxH (S : sS) (s i : Int) : Prop := ∃ k : Nat, (k : Int) < Xi S 904 15 ∧ Xi S 914 k = s ∧ Xi S 915 k = i
noncomputable def plN (S : sS) (s : Int) : Nat → Int
  | 0 => 0
  | m + 1 => plN S s m + @ite Int (lxH S s (m : Int)) (Classical.propDecidable _) 1 0
theorem plN_rg {S : sS} {s : Int} : ∀ m : Nat, 0 ≤ plN S s m ∧ plN S s m ≤ m
  | 0 => ⟨Int.le_refl _, Int.le_refl _⟩
  | m + 1 => by
    have t := plN_rg (S := S) (s := s) m
    show 0 ≤ plN S s m + @ite Int (lxH S s (m : Int)) (Classical.propDecidable _) 1 0 ∧ plN S s m + @ite Int (lxH S s (m : Int)) (Classical.propDecidable _) 1 0 ≤ ((m + 1 : Nat) : Int)
    by_cases q : lxH S s (m : Int)
    · rw [if_pos q]; omega
    · rw [if_neg q]; omega
theorem plN_mo {S T : sS} {s : Int} (h : ∀ i : Nat, lxH S s i → lxH T s i) : ∀ m : Nat, plN S s m ≤ plN T s m
  | 0 => Int.le_refl _
  | m + 1 => by
    have t := plN_mo h m
    show plN S s m + @ite Int (lxH S s (m : Int)) (Classical.propDecidable _) 1 0 ≤ plN T s m + @ite Int (lxH T s (m : Int)) (Classical.propDecidable _) 1 0
    by_cases q : lxH S s (m : Int)
    · rw [if_pos q, if_pos (h m q)]; omega
    · rw [if_neg q]
      by_cases r : lxH T s (m : Int)
      · rw [if_pos r]; omega
      · rw [if_neg r]; omega
theorem plN_one {S T : sS} {s : Int} {i0 : Nat} (h : ∀ i : Nat, lxH S s i → lxH T s i) (h1 : ¬ lxH S s i0) (h2 : lxH T s i0) : ∀ m : Nat, i0 < m → plN S s m + 1 ≤ plN T s m
  | 0, hm => absurd hm (Nat.not_lt_zero _)
  | m + 1, hm => by
    show plN S s m + @ite Int (lxH S s (m : Int)) (Classical.propDecidable _) 1 0 + 1 ≤ plN T s m + @ite Int (lxH T s (m : Int)) (Classical.propDecidable _) 1 0
    by_cases q : i0 = m
    · have t := plN_mo h m
      rw [q] at h1 h2
      rw [if_neg h1, if_pos h2]; omega
    · have t := plN_one h h1 h2 m (by omega)
      by_cases c : lxH S s (m : Int)
      · rw [if_pos c, if_pos (h m c)]; omega
      · rw [if_neg c]
        by_cases r : lxH T s (m : Int)
        · rw [if_pos r]; omega
        · rw [if_neg r]; omega
theorem plN_up {S : sS} {s : Int} {m : Nat} : ∀ d : Nat, plN S s m ≤ plN S s (m + d)
  | 0 => Int.le_refl _
  | d + 1 => by
    have t := plN_up (S := S) (s := s) (m := m) d
    show plN S s m ≤ plN S s (m + d) + @ite Int (lxH S s ((m + d : Nat) : Int)) (Classical.propDecidable _) 1 0
    by_cases r : lxH S s ((m + d : Nat) : Int)
    · rw [if_pos r]; omega
    · rw [if_neg r]; omega
noncomputable def pls (S : sS) : Int := plN S 1 (Xi S 904 16).toNat + plN S 3 (Xi S 904 18).toNat
def LCN (S : sS) : Prop := Xi S 904 15 ≤ pls S + (Xi S 904 16 + Xi S 904 18 + Xi S 904 19 + Xi S 904 23 + Xi S 904 30 + Xi S 904 32 + Xi S 904 41 + 2 * Xi S 904 47 + Xi S 904 49) + 11
theorem lxH_k {S T : sS} {s i : Int} (k : LXK T S (Xi S 904 15)) (hl : Xi S 904 15 ≤ Xi T 904 15) (h : lxH S s i) : lxH T s i := by
  obtain ⟨j, a, b, c⟩ := h
  obtain ⟨_, _, _, _, _, e4, e5⟩ := k (j : Int) (by omega) a
  rw [show (j : Int).toNat = j by omega] at e4 e5
  exact ⟨j, by omega, e4.trans b, e5.trans c⟩
theorem pls_le {S T : sS} (k : LXK T S (Xi S 904 15)) (hl : Xi S 904 15 ≤ Xi T 904 15) (h1 : Xi S 904 16 ≤ Xi T 904 16) (h2 : Xi S 904 18 ≤ Xi T 904 18) : pls S ≤ pls T := by
  unfold pls
  have a := plN_mo (S := S) (T := T) (s := 1) (fun i h => lxH_k k hl h) (Xi S 904 16).toNat
  have b := plN_mo (S := S) (T := T) (s := 3) (fun i h => lxH_k k hl h) (Xi S 904 18).toNat
  have c := plN_up (S := T) (s := 1) (m := (Xi S 904 16).toNat) ((Xi T 904 16).toNat - (Xi S 904 16).toNat)
  have d := plN_up (S := T) (s := 3) (m := (Xi S 904 18).toNat) ((Xi T 904 18).toNat - (Xi S 904 18).toNat)
  rw [show (Xi S 904 16).toNat + ((Xi T 904 16).toNat - (Xi S 904 16).toNat) = (Xi T 904 16).toNat by omega] at c
  rw [show (Xi S 904 18).toNat + ((Xi T 904 18).toNat - (Xi S 904 18).toNat) = (Xi T 904 18).toNat by omega] at d
  omega
/-- a plural that wasn't there -/
theorem pls_one {S T : sS} {s i : Int} (k : LXK T S (Xi S 904 15)) (hl : Xi S 904 15 ≤ Xi T 904 15) (h1 : Xi S 904 16 = Xi T 904 16) (h2 : Xi S 904 18 = Xi T 904 18) (hs : (s = 1 ∧ i < Xi S 904 16) ∨ (s = 3 ∧ i < Xi S 904 18)) (h0 : 0 ≤ i) (hn : ¬ lxH S s i) (hy : lxH T s i) : pls S + 1 ≤ pls T := by
  unfold pls
  rw [← h1, ← h2]
  rw [show i = (i.toNat : Int) by omega] at hn hy
  rcases hs with ⟨e, q⟩ | ⟨e, q⟩
  · rw [e] at hn hy
    have a := plN_one (S := S) (T := T) (s := 1) (fun i h => lxH_k k hl h) hn hy (Xi S 904 16).toNat (by omega)
    have b := plN_mo (S := S) (T := T) (s := 3) (fun i h => lxH_k k hl h) (Xi S 904 18).toNat
    omega
  · rw [e] at hn hy
    have a := plN_one (S := S) (T := T) (s := 3) (fun i h => lxH_k k hl h) hn hy (Xi S 904 18).toNat (by omega)
    have b := plN_mo (S := S) (T := T) (s := 1) (fun i h => lxH_k k hl h) (Xi S 904 16).toNat
    omega
theorem lcn_le {S : sS} (hH : HI S) (h : LCN S) : Xi S 904 15 ≤ 217 := by
  have a1 : 0 ≤ Xi S 904 16 ∧ Xi S 904 16 ≤ 16 := hH.c _ _
  have a2 : 0 ≤ Xi S 904 18 ∧ Xi S 904 18 ≤ 8 := hH.c _ _
  have a3 : 0 ≤ Xi S 904 19 ∧ Xi S 904 19 ≤ 24 := hH.c _ _
  have a4 : 0 ≤ Xi S 904 23 ∧ Xi S 904 23 ≤ 24 := hH.c _ _
  have a5 : 0 ≤ Xi S 904 30 ∧ Xi S 904 30 ≤ 64 := hH.c _ _
  have a6 : 0 ≤ Xi S 904 32 ∧ Xi S 904 32 ≤ 12 := hH.c _ _
  have a7 : 0 ≤ Xi S 904 41 ∧ Xi S 904 41 ≤ 6 := hH.c _ _
  have a8 : 0 ≤ Xi S 904 47 ∧ Xi S 904 47 ≤ 8 := hH.c _ _
  have a9 : 0 ≤ Xi S 904 49 ∧ Xi S 904 49 ≤ 12 := hH.c _ _
  have p := plN_rg (S := S) (s := 1) (Xi S 904 16).toNat
  have q := plN_rg (S := S) (s := 3) (Xi S 904 18).toNat
  unfold LCN pls at h
  omega
theorem lcn_i {S T : sS} (h : LCN S) (p : pls S ≤ pls T) (e : Xi T 904 15 - Xi S 904 15 ≤ (Xi T 904 16 - Xi S 904 16) + (Xi T 904 18 - Xi S 904 18) + (Xi T 904 19 - Xi S 904 19) + (Xi T 904 23 - Xi S 904 23) + (Xi T 904 30 - Xi S 904 30) + (Xi T 904 32 - Xi S 904 32) + (Xi T 904 41 - Xi S 904 41) + 2 * (Xi T 904 47 - Xi S 904 47) + (Xi T 904 49 - Xi S 904 49)) : LCN T := by
  unfold LCN at *
  omega
theorem LCN_FR {l : List rec} {S T : sS} (h : FR l S T) (e : (kdis l [(912, 917)] && mD l jLX) = true) (hL : LCN S) : LCN T := by
  rw [Bool.and_eq_true] at e
  have x := fun j hj => mD_x h e.2 j hj
  have y15 := x 15 (by decide)
  have y16 := x 16 (by decide)
  have y18 := x 18 (by decide)
  have y19 := x 19 (by decide)
  have y23 := x 23 (by decide)
  have y30 := x 30 (by decide)
  have y32 := x 32 (by decide)
  have y41 := x 41 (by decide)
  have y47 := x 47 (by decide)
  have y49 := x 49 (by decide)
  exact lcn_i hL (pls_le (LXK_FR h e.1) (by omega) (by omega) (by omega)) (by omega)
/-- n things in m places -/
theorem php : ∀ (m n : Nat) (f : Nat → Nat), (∀ i, i < n → f i < m) → (∀ i j, i < j → j < n → f i ≠ f j) → n ≤ m
  | 0, n, f, h, _ => by
    rcases Nat.eq_zero_or_pos n with q | q
    · omega
    · exact absurd (h 0 q) (Nat.not_lt_zero _)
  | m + 1, 0, _, _, _ => Nat.zero_le _
  | m + 1, n + 1, f, h, inj => by
    have t := php m n (fun i => if f n < f i then f i - 1 else f i) (fun i hi => by
      have a := h i (by omega)
      have b := h n (by omega)
      have c := inj i n hi (by omega)
      show (if f n < f i then f i - 1 else f i) < m
      split <;> omega) (fun i j hij hj => by
      have c := inj i j hij (by omega)
      have c1 := inj i n (by omega) (by omega)
      have c2 := inj j n hj (by omega)
      show (if f n < f i then f i - 1 else f i) ≠ (if f n < f j then f j - 1 else f j)
      split <;> split <;> omega)
    omega
/-- no way twice -/
def WYD (S : sS) : Prop := ∀ i j : Nat, i < j → (j : Int) < Xi S 904 51 → ¬ (Xi S 943 i = Xi S 943 j ∧ Xi S 944 i = Xi S 944 j)
theorem wyd_le {S : sS} (hH : HI S) (h : WYD S) : Xi S 904 51 ≤ 144 := by
  have t := php 144 (Xi S 904 51).toNat (fun i => (6 * Xi S 943 i + Xi S 944 i).toNat) (fun i _ => by
    have a : 0 ≤ Xi S 943 i ∧ Xi S 943 i ≤ 23 := hH.c 943 i
    have b : 0 ≤ Xi S 944 i ∧ Xi S 944 i ≤ 5 := hH.c 944 i
    show (6 * Xi S 943 i + Xi S 944 i).toNat < 144
    omega) (fun i j hij hj => by
    have a : 0 ≤ Xi S 943 i ∧ Xi S 943 i ≤ 23 := hH.c 943 i
    have b : 0 ≤ Xi S 944 i ∧ Xi S 944 i ≤ 5 := hH.c 944 i
    have c : 0 ≤ Xi S 943 j ∧ Xi S 943 j ≤ 23 := hH.c 943 j
    have d : 0 ≤ Xi S 944 j ∧ Xi S 944 j ≤ 5 := hH.c 944 j
    have n := h i j hij (by omega)
    show (6 * Xi S 943 i + Xi S 944 i).toNat ≠ (6 * Xi S 943 j + Xi S 944 j).toNat
    intro q
    exact n ⟨by omega, by omega⟩)
  omega
theorem WYD_FR {l : List rec} {S T : sS} (h : FR l S T) (e : (kdis l [(943, 945)] && mD l [51]) = true) (hW : WYD S) : WYD T := by
  rw [Bool.and_eq_true] at e
  have k := h.smk e.1
  unfold WYD
  rw [mD_x h e.2 51 (by decide)]
  simp only [k.x 943 rfl, k.x 944 rfl]
  exact hW
theorem wyd_add {S U1 U2 U3 U4 : sS} {f d o w : Int} (hW : WYD S) (hn : ∀ k : Nat, (k : Int) < w → ¬ (Xi S 943 k = f ∧ Xi S 944 k = d)) (hw : Xi S 904 51 = w) (h0 : 0 ≤ w ∧ w ≤ 200) (hf : 0 ≤ f ∧ f ≤ 23) (hd : 0 ≤ d ∧ d ≤ 5) (e1 : U1 = uI S 943 w.toNat (Int32.ofInt f)) (e2 : U2 = uI U1 944 w.toNat (Int32.ofInt d)) (e3 : U3 = uI U2 945 w.toNat (Int32.ofInt o)) (e4 : U4 = uI U3 904 51 (Int32.ofInt (w + 1))) : WYD U4 := fun i j hij hj => by
  have x : Xi U4 904 51 = w + 1 := by rw [e4]; exact Xi_same ⟨by omega, by omega⟩
  rw [x] at hj
  have a : ∀ i : Nat, i ≠ w.toNat → Xi U4 943 i = Xi S 943 i := fun i hi => by rw [e4, Xi_ne (by omega), e3, Xi_ne (by omega), e2, Xi_ne (by omega), e1, Xi_ne (by omega)]
  have b : ∀ i : Nat, i ≠ w.toNat → Xi U4 944 i = Xi S 944 i := fun i hi => by rw [e4, Xi_ne (by omega), e3, Xi_ne (by omega), e2, Xi_ne (by omega), e1, Xi_ne (by omega)]
  by_cases q : j = w.toNat
  · have y1 : Xi U4 943 j = f := by rw [q, e4, Xi_ne (by omega), e3, Xi_ne (by omega), e2, Xi_ne (by omega), e1]; exact Xi_same ⟨by omega, by omega⟩
    have y2 : Xi U4 944 j = d := by rw [q, e4, Xi_ne (by omega), e3, Xi_ne (by omega), e2]; exact Xi_same ⟨by omega, by omega⟩
    rw [y1, y2, a i (by omega), b i (by omega)]
    exact hn i (by omega)
  · rw [a i (by omega), b i (by omega), a j q, b j q]
    exact hW i j hij (by omega)
/-- no type has more than eight values -/
def VCN (S : sS) : Prop := ∀ t : Int, 2 ≤ t → cvR S t (Xi S 904 30).toNat ≤ 8
theorem cvR_k {S T : sS} {t : Int} : ∀ m : Nat, (∀ j : Nat, j < m → Xi T 927 j = Xi S 927 j) → cvR T t m = cvR S t m
  | 0, _ => rfl
  | m + 1, h => by
    show cvR T t m + (if Xi T 927 m = t then 1 else 0) = cvR S t m + (if Xi S 927 m = t then 1 else 0)
    rw [cvR_k m (fun j hj => h j (by omega)), h m (by omega)]
theorem VCN_FR {l : List rec} {S T : sS} (h : FR l S T) (e : (kdis l [(927, 928)] && mD l [30]) = true) (hV : VCN S) : VCN T := by
  rw [Bool.and_eq_true] at e
  have k := h.smk e.1
  intro t ht
  rw [mD_x h e.2 30 (by decide), cvR_k _ (fun j _ => k.x 927 rfl j)]
  exact hV t ht
theorem cv_sum {S : sS} : ∀ m : Nat, (∀ v : Nat, v < m → 2 ≤ Xi S 927 v ∧ Xi S 927 v ≤ 7) → cvR S 2 m + cvR S 3 m + cvR S 4 m + cvR S 5 m + cvR S 6 m + cvR S 7 m = m
  | 0, _ => rfl
  | m + 1, h => by
    have t := cv_sum m (fun v hv => h v (by omega))
    have a := h m (by omega)
    show (cvR S 2 m + (if Xi S 927 m = 2 then 1 else 0)) + (cvR S 3 m + (if Xi S 927 m = 3 then 1 else 0)) + (cvR S 4 m + (if Xi S 927 m = 4 then 1 else 0)) + (cvR S 5 m + (if Xi S 927 m = 5 then 1 else 0)) + (cvR S 6 m + (if Xi S 927 m = 6 then 1 else 0)) + (cvR S 7 m + (if Xi S 927 m = 7 then 1 else 0)) = ((m + 1 : Nat) : Int)
    rcases (by omega : Xi S 927 m = 2 ∨ Xi S 927 m = 3 ∨ Xi S 927 m = 4 ∨ Xi S 927 m = 5 ∨ Xi S 927 m = 6 ∨ Xi S 927 m = 7) with q | q | q | q | q | q <;> rw [q] <;> simp <;> omega
theorem vcn_le {S : sS} {ty : Int} (hH : HI S) (hV : VTM S) (h : VCN S) (h2 : 2 ≤ ty) (h7 : ty ≤ 7) : Xi S 904 30 ≤ 40 + cvR S ty (Xi S 904 30).toNat := by
  have a : 0 ≤ Xi S 904 30 := (hH.c 904 30).1
  have t := cv_sum (S := S) (Xi S 904 30).toNat (fun v hv => ⟨hV v (by omega), (hH.c 927 v).2⟩)
  have b2 := h 2 (by omega)
  have b3 := h 3 (by omega)
  have b4 := h 4 (by omega)
  have b5 := h 5 (by omega)
  have b6 := h 6 (by omega)
  have b7 := h 7 (by omega)
  rcases (by omega : ty = 2 ∨ ty = 3 ∨ ty = 4 ∨ ty = 5 ∨ ty = 6 ∨ ty = 7) with q | q | q | q | q | q <;> rw [q] <;> omega
theorem txm_kw {S U : sS} {j : Nat} {v : Int} (hX : TXM S) (e : U = uI S 918 j (Int32.ofInt v)) (hr : rg v) (hv : v < Xi S 904 16) : TXM U := by
  have x : ∀ k i, k ≠ 918 → Xi U k i = Xi S k i := fun k i hk => by rw [e, Xi_ne (by omega)]
  refine ⟨fun a h1 h2 => ?_, fun a b h1 h2 h3 h4 h5 => ?_, fun a b h1 h2 h3 h4 h5 => ?_⟩
  · rw [x 904 19 (by decide)] at h2
    rw [x 904 16 (by decide)]
    by_cases q : a.toNat = j
    · rw [q, e, Xi_same hr]; exact hv
    · rw [e, Xi_ne (by omega)]; exact hX.1 a h1 h2
  · rw [x 904 19 (by decide)] at h2
    rw [x 930 _ (by decide)] at h5
    rw [x 904 32 (by decide), x 928 _ (by decide), x 931 _ (by decide), x 932 _ (by decide)]
    exact hX.2.1 a b h1 h2 h3 h4 h5
  · rw [x 904 16 (by decide)] at h2
    rw [x 933 _ (by decide)] at h5
    rw [x 904 32 (by decide), x 928 _ (by decide), x 934 _ (by decide), x 935 _ (by decide)]
    exact hX.2.2 a b h1 h2 h3 h4 h5
/-- a property more -/
theorem txm_p {S T : sS} (hX : TXM S) (ep : Xi S 904 32 ≤ Xi T 904 32) (e28 : ∀ j : Nat, (j : Int) < Xi S 904 32 → Xi T 928 j = Xi S 928 j) (e18 : ∀ j, Xi T 918 j = Xi S 918 j) (e30 : ∀ j, Xi T 930 j = Xi S 930 j) (e31 : ∀ j, Xi T 931 j = Xi S 931 j) (e32 : ∀ j, Xi T 932 j = Xi S 932 j) (e33 : ∀ j, Xi T 933 j = Xi S 933 j) (e34 : ∀ j, Xi T 934 j = Xi S 934 j) (e35 : ∀ j, Xi T 935 j = Xi S 935 j) (e16 : Xi T 904 16 = Xi S 904 16) (e19 : Xi T 904 19 = Xi S 904 19) : TXM T := by
  refine ⟨fun a h1 h2 => ?_, fun a b h1 h2 h3 h4 h5 => ?_, fun a b h1 h2 h3 h4 h5 => ?_⟩
  · rw [e19] at h2
    rw [e18, e16]; exact hX.1 a h1 h2
  · rw [e19] at h2
    rw [e30] at h5
    have t := hX.2.1 a b h1 h2 h3 h4 h5
    rw [e28 b.toNat (by omega), e31, e32]
    exact ⟨by omega, t.2⟩
  · rw [e16] at h2
    rw [e33] at h5
    have t := hX.2.2 a b h1 h2 h3 h4 h5
    rw [e28 b.toNat (by omega), e34, e35]
    exact ⟨by omega, t.2⟩
theorem LXK.wl {T U S : sS} {m : Int} {k j : Nat} {v : Int32} (h : LXK T S m) (e : U = uI T k j v) (hj : m ≤ (j : Int)) : LXK U S m := fun i h0 hi => by
  obtain ⟨a1, a2, a3, a4, a5, a6, a7⟩ := h i h0 hi
  have x : ∀ a (b : Int), 0 ≤ b → b < m → Xi U a b.toNat = Xi T a b.toNat := fun a b c d => by rw [e, Xi_ne (by omega)]
  have y : ∀ a b, Xj U a b = Xj T a b := fun a b => by rw [e]; rfl
  exact ⟨(x 912 i h0 hi).trans a1, (y _ _).trans a2, (y _ _).trans a3, (y _ _).trans a4, (x 916 i h0 hi).trans a5, (x 914 i h0 hi).trans a6, (x 915 i h0 hi).trans a7⟩
theorem gr_m {T U S : sS} (h : GR T S) (c1 : Xi T 904 16 ≤ Xi U 904 16) (c2 : Xi T 904 18 ≤ Xi U 904 18) (c3 : Xi T 904 19 ≤ Xi U 904 19) (c4 : Xi T 904 23 ≤ Xi U 904 23) (c5 : Xi T 904 30 ≤ Xi U 904 30) (c6 : Xi T 904 32 ≤ Xi U 904 32) (c7 : Xi T 904 41 ≤ Xi U 904 41) (c8 : Xi T 904 47 ≤ Xi U 904 47) (c9 : Xi T 904 49 ≤ Xi U 904 49) (a : ∀ j : Nat, (j : Int) < Xi T 904 23 → Xi U 922 j = Xi T 922 j ∧ Xi U 923 j = Xi T 923 j ∧ Xi U 924 j = Xi T 924 j) (p : ∀ j : Nat, (j : Int) < Xi T 904 32 → Xi U 928 j = Xi T 928 j) (k : ∀ j : Nat, (j : Int) < Xi T 904 49 → Xi U 942 j = Xi T 942 j) : GR U S := GR.tr h ⟨⟨c1, c2, c3, c4, c5, c6, c7, c8, c9⟩, a, p, k⟩
theorem on_at {S T : sS} {v r : Int} (hO : ONA S) (k : LXK T S (Xi S 904 15)) (h0 : 0 ≤ Xi S 904 15) (hl : Xi S 904 15 ≤ Xi T 904 15) (e1 : ∀ j, Xj T 910 j = Xj S 910 j) (e2 : ∀ j, Xi T 950 j = Xi S 950 j) (e3 : ∀ j, Xi T 951 j = Xi S 951 j) (hv : 0 ≤ v ∧ v < Xi S 904 72) (hr : r = Xi S 904 71 + v) (hc : Xi T 904 19 ≤ Xi S 904 19 + cnR S (Xi S 904 71) 4 v.toNat) (q : rnR T r 4 = -1) : Xi T 904 19 ≤ 23 ∧ Xi T 951 r.toNat ≤ 3 := by
  have s : rnR S r 4 = -1 := by
    by_cases c : rnR S r 4 = -1
    · exact c
    · rw [rnR_up k h0 hl e1 e2 e3 c] at q; exact q
  obtain ⟨a, _, hb⟩ := hO
  have t := hb v hv.1 hv.2 (by rw [← hr]; exact s)
  rw [e3, hr]
  exact ⟨by omega, t.1⟩
theorem on_nx {S T U : sS} {v r : Int} (k : LXK T S (Xi S 904 15)) (h0 : 0 ≤ Xi S 904 15) (hl : Xi S 904 15 ≤ Xi T 904 15) (e1 : ∀ j, Xj T 910 j = Xj S 910 j) (e2 : ∀ j, Xi T 950 j = Xi S 950 j) (e3 : ∀ j, Xi T 951 j = Xi S 951 j) (hv : 0 ≤ v) (hr : r = Xi S 904 71 + v) (hc : Xi T 904 19 ≤ Xi S 904 19 + cnR S (Xi S 904 71) 4 v.toNat) (hu : Xi T 904 19 ≤ Xi U 904 19 ∧ Xi U 904 19 ≤ Xi T 904 19 + 1 ∧ (rnR T r 4 ≠ -1 → Xi U 904 19 = Xi T 904 19)) : Xi U 904 19 ≤ Xi S 904 19 + cnR S (Xi S 904 71) 4 (v + 1).toNat := by
  rw [cnR_s hv]
  by_cases c : rnR S (Xi S 904 71 + v) 4 = -1
  · rw [if_pos c]; omega
  · rw [if_neg c]
    have d := hu.2.2 (by rw [hr, rnR_up k h0 hl e1 e2 e3 c]; exact c)
    omega
theorem rn_up2 {S T : sS} {r r2 s : Int} (h : rnR S r s ≠ -1) (k : LXK T S (Xi S 904 15)) (h0 : 0 ≤ Xi S 904 15) (hl : Xi S 904 15 ≤ Xi T 904 15) (e1 : ∀ j, Xj T 910 j = Xj S 910 j) (e2 : ∀ j, Xi T 950 j = Xi S 950 j) (e3 : ∀ j, Xi T 951 j = Xi S 951 j) (e : r2 = r) : rnR T r2 s ≠ -1 := by
  rw [e, rnR_up k h0 hl e1 e2 e3 h]; exact h
/-- all words but one stay -/
def LXO (T S : sS) (m : Int) : Prop := ∀ k : Nat, (k : Int) ≠ m → Xi T 914 k = Xi S 914 k ∧ Xi T 915 k = Xi S 915 k
theorem LXO.t {S U1 U2 U3 U4 U5 U6 U7 U8 : sS} {L : Int} {v1 v2 v3 v4 v5 : Int32} {w1 w2 w3 : Int64} (h0 : 0 ≤ L) (e1 : U1 = uI S 912 L.toNat v1) (e2 : U2 = uJ U1 913 (3 * L).toNat w1) (e3 : U3 = uJ U2 913 (3 * L + 1).toNat w2) (e4 : U4 = uJ U3 913 (3 * L + 2).toNat w3) (e5 : U5 = uI U4 914 L.toNat v2) (e6 : U6 = uI U5 915 L.toNat v3) (e7 : U7 = uI U6 916 L.toNat v4) (e8 : U8 = uI U7 904 15 v5) : LXO U8 S L := fun k hk => by
  have hI : ∀ a, (a = 914 ∨ a = 915) → Xi U8 a k = Xi S a k := fun a ha => by
    have q4 : Xi U4 a k = Xi U3 a k := by rw [e4]; rfl
    have q3 : Xi U3 a k = Xi U2 a k := by rw [e3]; rfl
    have q2 : Xi U2 a k = Xi U1 a k := by rw [e2]; rfl
    rw [e8, Xi_ne (by omega), e7, Xi_ne (by omega), e6, Xi_ne (by omega), e5, Xi_ne (by omega), q4, q3, q2, e1, Xi_ne (by omega)]
  exact ⟨hI 914 (Or.inl rfl), hI 915 (Or.inr rfl)⟩
theorem pls_same {S U : sS} (k : ∀ k : Nat, (k : Int) < Xi S 904 15 → Xi U 914 k = Xi S 914 k ∧ Xi U 915 k = Xi S 915 k) (e : Xi U 904 15 = Xi S 904 15) (h1 : Xi U 904 16 = Xi S 904 16) (h2 : Xi U 904 18 = Xi S 904 18) : pls S ≤ pls U := by
  have t : ∀ s i : Int, lxH S s i → lxH U s i := fun s i h => by
    obtain ⟨j, a, b, c⟩ := h
    obtain ⟨x, y⟩ := k j a
    exact ⟨j, by omega, x.trans b, y.trans c⟩
  unfold pls
  rw [h1, h2]
  have a := plN_mo (S := S) (T := U) (s := 1) (fun i h => t 1 i h) (Xi S 904 16).toNat
  have b := plN_mo (S := S) (T := U) (s := 3) (fun i h => t 3 i h) (Xi S 904 18).toNat
  omega
theorem lcn_p {S T : sS} (h : LCN S) (p : pls S + 1 ≤ pls T) (e : Xi T 904 15 = Xi S 904 15 + 1) (e1 : Xi T 904 16 = Xi S 904 16) (e2 : Xi T 904 18 = Xi S 904 18) (e3 : Xi T 904 19 = Xi S 904 19) (e4 : Xi T 904 23 = Xi S 904 23) (e5 : Xi T 904 30 = Xi S 904 30) (e6 : Xi T 904 32 = Xi S 904 32) (e7 : Xi T 904 41 = Xi S 904 41) (e8 : Xi T 904 47 = Xi S 904 47) (e9 : Xi T 904 49 = Xi S 904 49) : LCN T := by
  unfold LCN at *
  omega
theorem thk_gr {S T : sS} {b c : Prop} {x : Int} (g : Xi S 904 19 ≤ Xi T 904 19) (h : thK S b c x) : thK T b c x := by
  unfold thK at *
  rcases h with h | h
  · exact Or.inl (by omega)
  · exact Or.inr h
theorem adm_gr {S T : sS} {a : Int} (g : Xi S 904 23 ≤ Xi T 904 23) (g2 : Xi S 904 32 ≤ Xi T 904 32) (h : ADM S a) : ADM T a := by
  unfold ADM at *
  omega
theorem tq_gr {S T : sS} {b c : Prop} {q : Nat} (g : GR T S) (e : ∀ k, 969 ≤ k → k ≤ 975 → Xi T k q = Xi S k q) (h : TQ S b c q) : TQ T b c q := by
  obtain ⟨⟨a1, a2, a3, a4, a5, a6, a7, a8, a9⟩, _⟩ := g
  unfold TQ at *
  rw [e 969 (by omega) (by omega), e 971 (by omega) (by omega), e 972 (by omega) (by omega), e 973 (by omega) (by omega), e 974 (by omega) (by omega), e 975 (by omega) (by omega)]
  exact ⟨thk_gr a3 h.1, fun x => ⟨thk_gr a3 (h.2.1 x).1, (h.2.1 x).2⟩, fun x => adm_gr a4 a6 (h.2.2.1 x), fun x => by have t := h.2.2.2.1 x; omega, h.2.2.2.2⟩
theorem defm_gr {S T : sS} (hD : DEFM S) (g : GR T S) (e : ∀ k, 969 ≤ k → k ≤ 975 → ∀ i, Xi T k i = Xi S k i) (hn : ∀ a : Nat, Xi S 904 23 ≤ (a : Int) → (a : Int) < Xi T 904 23 → 0 < Xi T 924 a → Xi T 923 a + Xi T 924 a ≤ 2400 ∧ ∀ k : Nat, (k : Int) < Xi T 924 a → TQ T True False ((Xi T 923 a).toNat + k)) : DEFM T := fun a ha hp => by
  by_cases q : (a : Int) < Xi S 904 23
  · obtain ⟨_, x, y⟩ := g.2.1 a q
    rw [y] at hp
    obtain ⟨u, v⟩ := hD a q hp
    rw [x, y]
    exact ⟨u, fun k hk => tq_gr g (fun j b c => e j b c _) (v k hk)⟩
  · exact hn a (by omega) ha hp
theorem dcm_gr {S T : sS} (h : DCM S) (g : GR T S) (hn : ∀ a : Nat, Xi S 904 23 ≤ (a : Int) → (a : Int) < Xi T 904 23 → Xi T 924 a = 0 → Xi T 922 a ≠ -1) : DCM T := fun a ha hp => by
  by_cases q : (a : Int) < Xi S 904 23
  · obtain ⟨x, _, y⟩ := g.2.1 a q
    rw [x]
    rw [y] at hp
    exact h a q hp
  · exact hn a (by omega) ha hp
theorem akr_gr {S T : sS} (h : AKR S) (g : GR T S) : AKR T := by
  obtain ⟨⟨a1, a2, a3, a4, a5, a6, a7, a8, a9⟩, _, _, k⟩ := g
  obtain ⟨b1, b2, b3, b4, b5, b6, b7, b8⟩ := h
  unfold AKR
  rw [k 0 (by omega), k 1 (by omega), k 2 (by omega), k 3 (by omega), k 4 (by omega)]
  exact ⟨by omega, b2, b3, b4, b5, b6, by omega, by omega⟩
theorem pls_one2 {S T : sS} {s i : Int} (t : ∀ s i : Int, lxH S s i → lxH T s i) (h1 : Xi T 904 16 = Xi S 904 16) (h2 : Xi T 904 18 = Xi S 904 18) (hs : (s = 1 ∧ i < Xi S 904 16) ∨ (s = 3 ∧ i < Xi S 904 18)) (h0 : 0 ≤ i) (hn : ¬ lxH S s i) (hy : lxH T s i) : pls S + 1 ≤ pls T := by
  unfold pls
  rw [h1, h2]
  rw [show i = (i.toNat : Int) by omega] at hn hy
  rcases hs with ⟨e, q⟩ | ⟨e, q⟩
  · rw [e] at hn hy
    have a := plN_one (S := S) (T := T) (s := 1) (fun i h => t 1 i h) hn hy (Xi S 904 16).toNat (by omega)
    have b := plN_mo (S := S) (T := T) (s := 3) (fun i h => t 3 i h) (Xi S 904 18).toNat
    omega
  · rw [e] at hn hy
    have a := plN_one (S := S) (T := T) (s := 3) (fun i h => t 3 i h) hn hy (Xi S 904 18).toNat (by omega)
    have b := plN_mo (S := S) (T := T) (s := 1) (fun i h => t 1 i h) (Xi S 904 16).toNat
    omega
theorem lxm_pl {S U : sS} {m s i : Int} (hM : LXM S) (g : GR U S) (hS : ∀ k : Nat, (k : Int) ≠ m → Xi U 914 k = Xi S 914 k ∧ Xi U 915 k = Xi S 915 k) (hN : Xi U 914 m.toNat = s ∧ Xi U 915 m.toNat = i) (h0 : 0 ≤ m) (hi : i < cM U s) (he : Xi U 904 15 ≤ Xi S 904 15 ∨ (Xi U 904 15 = Xi S 904 15 + 1 ∧ m = Xi S 904 15)) : LXM U := fun k hk => by
  by_cases q : (k : Int) = m
  · rw [show k = m.toNat by omega, hN.1, hN.2]; exact hi
  · obtain ⟨a, b⟩ := hS k q
    rw [a, b]
    exact Int.lt_of_lt_of_le (hM k (by omega)) (cM_le g _)
theorem lcn_pl {S U : sS} {m s i : Int} (hL : LCN S) (hS : ∀ k : Nat, (k : Int) ≠ m → Xi U 914 k = Xi S 914 k ∧ Xi U 915 k = Xi S 915 k) (hN : Xi U 914 m.toNat = s ∧ Xi U 915 m.toNat = i) (h0 : 0 ≤ m) (hs : (s = 1 ∧ i < Xi S 904 16) ∨ (s = 3 ∧ i < Xi S 904 18)) (hi : 0 ≤ i) (hc : (m = Xi S 904 15 ∧ Xi U 904 15 = Xi S 904 15 + 1 ∧ ¬ lxH S s i) ∨ (Xi U 904 15 = Xi S 904 15 ∧ Xi S 914 m.toNat = s ∧ Xi S 915 m.toNat = i)) (e1 : Xi U 904 16 = Xi S 904 16) (e2 : Xi U 904 18 = Xi S 904 18) (e3 : Xi U 904 19 = Xi S 904 19) (e4 : Xi U 904 23 = Xi S 904 23) (e5 : Xi U 904 30 = Xi S 904 30) (e6 : Xi U 904 32 = Xi S 904 32) (e7 : Xi U 904 41 = Xi S 904 41) (e8 : Xi U 904 47 = Xi S 904 47) (e9 : Xi U 904 49 = Xi S 904 49) : LCN U := by
  rcases hc with ⟨a, b, c⟩ | ⟨a, b, c⟩
  · refine lcn_p hL (pls_one2 (fun s i h => ?_) e1 e2 hs hi c ⟨m.toNat, by omega, hN.1, hN.2⟩) b e1 e2 e3 e4 e5 e6 e7 e8 e9
    obtain ⟨j, x, y, z⟩ := h
    obtain ⟨u, v⟩ := hS j (by omega)
    exact ⟨j, by omega, u.trans y, v.trans z⟩
  · refine lcn_i hL (pls_same (fun k hk => ?_) a e1 e2) (by omega)
    by_cases q : (k : Int) = m
    · rw [show k = m.toNat by omega, hN.1, hN.2, b, c]; exact ⟨rfl, rfl⟩
    · exact hS k q
/-- how far plurals go -/
def PLB (T : sS) (a b : Int) : Prop := ∀ k : Nat, (k : Int) < Xi T 904 15 → (Xi T 914 k = 1 → Xi T 915 k < a) ∧ (Xi T 914 k = 3 → Xi T 915 k < b)
theorem plb_0 {S : sS} (h : LXM S) : PLB S (Xi S 904 16) (Xi S 904 18) := fun k hk => by
  have t := h k hk
  refine ⟨fun q => ?_, fun q => ?_⟩
  · rw [q, cM1] at t; exact t
  · rw [q, cM3] at t; exact t
theorem PLB.up {T : sS} {a b c d : Int} (h : PLB T a b) (h1 : a ≤ c) (h2 : b ≤ d) : PLB T c d := fun k hk => by
  obtain ⟨x, y⟩ := h k hk
  exact ⟨fun q => by have := x q; omega, fun q => by have := y q; omega⟩
theorem plb_no {T : sS} {a b s i : Int} (h : PLB T a b) (hs : (s = 1 ∧ a ≤ i) ∨ (s = 3 ∧ b ≤ i)) : ¬ lxH T s i := fun q => by
  obtain ⟨k, x, y, z⟩ := q
  obtain ⟨u, v⟩ := h k x
  rcases hs with ⟨e, g⟩ | ⟨e, g⟩
  · have := u (y.trans e); omega
  · have := v (y.trans e); omega
theorem plb_add {T U : sS} {a b : Int} (h : PLB T a b) (k : LXK U T (Xi T 904 15)) (h0 : 0 ≤ Xi T 904 15) (e : Xi U 904 15 = Xi T 904 15 + 1) (h1 : Xi U 914 (Xi T 904 15).toNat = 1 → Xi U 915 (Xi T 904 15).toNat < a) (h3 : Xi U 914 (Xi T 904 15).toNat = 3 → Xi U 915 (Xi T 904 15).toNat < b) : PLB U a b := fun i hi => by
  by_cases q : (i : Int) < Xi T 904 15
  · obtain ⟨_, _, _, _, _, e4, e5⟩ := k (i : Int) (by omega) q
    rw [show (i : Int).toNat = i by omega] at e4 e5
    rw [e4, e5]
    exact h i q
  · rw [show i = (Xi T 904 15).toNat by omega]; exact ⟨h1, h3⟩
theorem cv_add {B U : sS} {t ty : Int} (h : ∀ j : Nat, (j : Int) < Xi B 904 30 → Xi U 927 j = Xi B 927 j) (e : Xi U 927 (Xi B 904 30).toNat = ty) (c : Xi U 904 30 = Xi B 904 30 + 1) (h0 : 0 ≤ Xi B 904 30) : cvR U t (Xi U 904 30).toNat = cvR B t (Xi B 904 30).toNat + (if t = ty then 1 else 0) := by
  rw [c, cvR_s h0, e, cvR_k _ (fun j hj => h j (by omega))]
  by_cases q : t = ty
  · rw [if_pos q, if_pos q.symm]
  · rw [if_neg q, if_neg (fun x => q x.symm)]
theorem vtm_add {B U : sS} {ty : Int} (hV : VTM B) (h : ∀ j : Nat, (j : Int) < Xi B 904 30 → Xi U 927 j = Xi B 927 j) (e : Xi U 927 (Xi B 904 30).toNat = ty) (c : Xi U 904 30 = Xi B 904 30 + 1) (h0 : 0 ≤ Xi B 904 30) (h2 : 2 ≤ ty) : VTM U := fun v hv => by
  by_cases q : (v : Int) < Xi B 904 30
  · rw [h v q]; exact hV v q
  · rw [show v = (Xi B 904 30).toNat by omega, e]; exact h2
/-- the adjective of a told list is meant for each of its objects -/
def AQ4 (S : sS) : Prop := ∀ i : Int, 0 ≤ i → i < Xi S 904 72 → rnR S (Xi S 904 71 + i) 4 ≠ -1 ∧ 1 ≤ adR S (Xi S 950 (Xi S 904 78).toNat) (Xi S 951 (Xi S 904 78).toNat) (Xi S 918 (rnR S (Xi S 904 71 + i) 4).toNat) 0 (1 - Xi S 904 75)
theorem AQ4_FR {l : List rec} {S T : sS} (h : FR l S T) (e : ((kdis l kLX && mD l [15]) && (kdis l [(950, 952)] && ((kdis l kAD && mD l [32]) && (kdis l [(918, 919)] && mD l [71, 72, 75, 78])))) = true) (hA : AQ4 S) : AQ4 T := by
  simp only [Bool.and_eq_true] at e
  obtain ⟨⟨a1, a2⟩, b, ⟨c1, c2⟩, d, f⟩ := e
  have a : (kdis l kLX && mD l [15]) = true := by rw [a1, a2]; rfl
  have c : (kdis l kAD && mD l [32]) = true := by rw [c1, c2]; rfl
  have k := h.smk b
  have m := h.smk d
  unfold AQ4
  rw [mD_x h f 72 (by decide), mD_x h f 71 (by decide), mD_x h f 78 (by decide), mD_x h f 75 (by decide)]
  intro i h0 hi
  rw [rnR_FR h a b, adR_FR h a c, k.x 950 rfl, k.x 951 rfl, m.x 918 rfl]
  exact hA i h0 hi
def md_mo_objectTold : List rec := [(904, 905, 15, 16), (904, 905, 19, 20), (912, 913, 0, 100000), (913, 914, 0, 100000), (914, 915, 0, 100000), (915, 916, 0, 100000), (916, 917, 0, 100000), (918, 919, 0, 100000), (919, 920, 0, 100000), (920, 921, 0, 100000), (925, 926, 0, 100000), (930, 931, 0, 100000)]
abbrev Q_mo_objectTold (S : sS) (n : Nat) (rn : Int) (kind : Int) : pst := fun r S1 => HI S1 ∧ FR md_mo_objectTold S S1 ∧ (∃ z : Int, r = some (iv z) ∧ (0 ≤ z ∧ z ≤ 23) ∧ (z < Xi S1 904 19) ∧ (Xi S 904 19 ≤ Xi S1 904 19 ∧ Xi S1 904 19 ≤ Xi S 904 19 + 1 ∧ (rnR S rn 4 ≠ -1 → Xi S1 904 19 = Xi S 904 19)) ∧ (TXM S1) ∧ (WYM S1) ∧ (LXM S1) ∧ (LCN S1) ∧ (GR S1 S) ∧ (LXK S1 S (Xi S 904 15)) ∧ (Xi S 904 15 ≤ Xi S1 904 15))
set_option maxRecDepth 100000 in
theorem t_mo_objectTold {S : sS} (hH : HI S) (n : Nat) (rn : Int) (kind : Int) (hrn : 0 ≤ rn ∧ rn ≤ 2599) (hkind : 0 ≤ kind ∧ kind ≤ 15) (hT : TK S n) (hv : RNV S n) (hM : LXM S) (hrr : rn < Xi S 904 69) (hX : TXM S) (hW : WYM S) (hLC : LCN S) (hk : kind < Xi S 904 16) (hn : rnR S rn 4 = -1 → Xi S 904 19 ≤ 23 ∧ Xi S 951 rn.toNat ≤ 3) (d : Nat) : Mt lay0 (d + 5) m_mo_objectTold [.ref 904, iv rn, iv kind] S (Q_mo_objectTold S n rn kind) := by
  refine Mt_R rfl rfl ?_
  have hF : FR md_mo_objectTold S S := FR.rf
  have w1 : 0 ≤ Xi S 904 15 ∧ Xi S 904 15 ≤ 300 := hH.c _ _
  have w2 : 0 ≤ Xi S 904 16 ∧ Xi S 904 16 ≤ 16 := hH.c _ _
  have w3 : 0 ≤ Xi S 904 19 ∧ Xi S 904 19 ≤ 24 := hH.c _ _
  have w4 : 0 ≤ Xi S 904 69 ∧ Xi S 904 69 ≤ 2600 := hH.c _ _
  have hn5 := hT.1
  have hq := hv rn.toNat (by omega)
  have hq0 : 0 ≤ Xi S 950 rn.toNat ∧ Xi S 950 rn.toNat ≤ 5010 := hH.c 950 rn.toNat
  have hc69 : 0 ≤ Xi S 904 69 ∧ Xi S 904 69 ≤ 2600 := hH.c _ _
  have hc15 : 0 ≤ Xi S 904 15 ∧ Xi S 904 15 ≤ 300 := hH.c _ _
  have hl9 := lcn_le hH hLC
  have hc19 : 0 ≤ Xi S 904 19 ∧ Xi S 904 19 ≤ 24 := hH.c _ _
  refine l_aload_n rfl rfl ?_
  refine l_iload_n rfl rfl ?_
  refine l_iconst rfl ?_
  refine l_callV rfl rfl rfl (t_mo_meansRun__2 hH n rn 4 ⟨by omega, by omega⟩ ⟨by omega, by omega⟩ (by first | assumption | exact (TK_FR hF rfl (by assumption : TK S _))) (by first | assumption | exact (RNV_FR hF rfl (by assumption : RNV S _))) (by first | assumption | omega) (by first | assumption | exact (by assumption : LXM S)) _) ?_
  rintro _ _ ⟨rfl, z10, rfl, w10, w8, w9⟩
  show Rl _ _ _ _ _ [iv z10] _ _
  have x3 : z10 ≠ -1 → z10 < Xi S 904 19 := fun q => by have t := (by assumption : z10 ≠ -1 → z10 < cM S 4) q; rw [cM4] at t; exact t
  have r3 : z10 = rnR S rn 4 := by assumption
  refine l_istore_n rfl rfl rfl ?_
  refine l_iload_n rfl rfl ?_
  refine l_iconst rfl ?_
  refine l_icmp_ne rfl rfl (by unfold rg; omega) (by unfold rg; omega) (fun w11 => ?_) (fun w12 => ?_)
  · refine l_iload_n rfl rfl ?_
    refine l_ireturn rfl rfl ?_
    exact ⟨hH, hF, _, rfl, ⟨by omega, by omega⟩, (by omega), (by omega), (by first | assumption | exact (by assumption : TXM S)), (by first | assumption | exact (by assumption : WYM S)), (by first | assumption | exact (by assumption : LXM S)), (by first | assumption | exact (by assumption : LCN S)), (by first | exact g22 | exact GR.rf), (by first | exact x22 | exact LXK.rf), (by omega)⟩
  · refine l_aload_n rfl rfl ?_
    refine l_iload_n rfl rfl ?_
    refine l_callV rfl rfl rfl (t_mo_addObject hH kind ⟨by omega, by omega⟩ (by have t := hn (by omega); omega) (by first | assumption | omega) (by first | assumption | exact (by assumption : TXM S)) (by first | assumption | exact (by assumption : WYM S)) _) ?_
    rintro _ T1 ⟨hHT1, w27, z26, rfl, w26, w20, w21, w22, w23, w24, w25⟩
    have hFT1 : FR md_mo_objectTold S T1 := FR.tr hF w27 rfl
    show Rl _ _ _ _ _ [iv z26] _ _
    have g14 : GR T1 S := gr_m GR.rf (Int.le_of_eq ((by assumption : FR md_mo_addObject S T1).x 904 16 rfl).symm) (Int.le_of_eq ((by assumption : FR md_mo_addObject S T1).x 904 18 rfl).symm) (by omega) (Int.le_of_eq ((by assumption : FR md_mo_addObject S T1).x 904 23 rfl).symm) (Int.le_of_eq ((by assumption : FR md_mo_addObject S T1).x 904 30 rfl).symm) (Int.le_of_eq ((by assumption : FR md_mo_addObject S T1).x 904 32 rfl).symm) (Int.le_of_eq ((by assumption : FR md_mo_addObject S T1).x 904 41 rfl).symm) (Int.le_of_eq ((by assumption : FR md_mo_addObject S T1).x 904 47 rfl).symm) (Int.le_of_eq ((by assumption : FR md_mo_addObject S T1).x 904 49 rfl).symm) (fun i _ => ⟨((by assumption : FR md_mo_addObject S T1).cx 922 rfl i).1, ((by assumption : FR md_mo_addObject S T1).cx 923 rfl i).1, ((by assumption : FR md_mo_addObject S T1).cx 924 rfl i).1⟩) (fun i _ => ((by assumption : FR md_mo_addObject S T1).cx 928 rfl i).1) (fun i _ => ((by assumption : FR md_mo_addObject S T1).cx 942 rfl i).1)
    have x14 : LXK T1 S (Xi S 904 15) := LXK_FR (by assumption : FR md_mo_addObject S T1) rfl
    have c14 : Xi T1 904 15 = Xi S 904 15 := (by assumption : FR md_mo_addObject S T1).x 904 15 rfl
    refine l_istore_n rfl rfl rfl ?_
    refine l_aload_n rfl rfl ?_
    refine l_iconst rfl ?_
    refine l_iload_n rfl rfl ?_
    refine l_iload_n rfl rfl ?_
    have w28 : Xi T1 904 15 = Xi S 904 15 := (show Xi T1 904 15 = Xi S 904 15 from w27.x _ _ rfl)
    have w30 : 0 ≤ Xi T1 904 19 ∧ Xi T1 904 19 ≤ 24 := hHT1.c _ _
    have w31 : Xi T1 904 69 = Xi S 904 69 := (show Xi T1 904 69 = Xi S 904 69 from w27.x _ _ rfl)
    refine l_callV rfl rfl rfl (t_mo_tellRun hHT1 n 4 z26 rn ⟨by omega, by omega⟩ ⟨by omega, by omega⟩ ⟨by omega, by omega⟩ (by first | assumption | exact (TK_FR hFT1 rfl (by assumption : TK S _))) (by first | assumption | exact (RNV_FR hFT1 rfl (by assumption : RNV S _))) (by first | assumption | omega) (by rw [(hFT1.cx 951 rfl _).1]; exact (hn (by omega)).2) (by first | assumption | omega) _) ?_
    rintro _ T2 ⟨hHT2, w35, rfl, w33, e22, k22⟩
    have hFT2 : FR md_mo_objectTold S T2 := FR.tr hFT1 w35 rfl
    show Rl _ _ _ _ _ [] _ _
    have g22 : GR T2 S := GR_FR (by assumption : FR md_mo_tellRun T1 T2) rfl g14
    have x22 : LXK T2 S (Xi S 904 15) := x14.tr k22 (by omega)
    have f22 : Xi T2 904 19 = Xi T1 904 19 := (by assumption : FR md_mo_tellRun T1 T2).x 904 19 rfl
    have d22 : Xi T2 915 (Xi S 904 15).toNat < cM T2 (Xi T2 914 (Xi S 904 15).toNat) := by rw [← c14, e22.1, e22.2, cM4]; omega
    have M22 : LXM T2 := lxm_gr hM x22 g22 (by omega) (Or.inr ⟨by omega, d22⟩)
    have y22_16 : Xi T2 904 16 = Xi S 904 16 := hFT2.x 904 16 rfl
    have y22_18 : Xi T2 904 18 = Xi S 904 18 := hFT2.x 904 18 rfl
    have y22_23 : Xi T2 904 23 = Xi S 904 23 := hFT2.x 904 23 rfl
    have y22_30 : Xi T2 904 30 = Xi S 904 30 := hFT2.x 904 30 rfl
    have y22_32 : Xi T2 904 32 = Xi S 904 32 := hFT2.x 904 32 rfl
    have y22_41 : Xi T2 904 41 = Xi S 904 41 := hFT2.x 904 41 rfl
    have y22_47 : Xi T2 904 47 = Xi S 904 47 := hFT2.x 904 47 rfl
    have y22_49 : Xi T2 904 49 = Xi S 904 49 := hFT2.x 904 49 rfl
    have L22 : LCN T2 := lcn_i hLC (pls_le x22 (by omega) (by omega) (by omega)) (by omega)
    refine l_iload_n rfl rfl ?_
    refine l_ireturn rfl rfl ?_
    have w36 : 0 ≤ Xi T2 904 15 ∧ Xi T2 904 15 ≤ 300 := hHT2.c _ _
    have w37 : Xi T2 904 19 = Xi T1 904 19 := (show Xi T2 904 19 = Xi T1 904 19 from w35.x _ _ rfl)
    exact ⟨hHT2, hFT2, _, rfl, ⟨by omega, by omega⟩, (by omega), (by omega), (by first | assumption | exact (TXM_FR w35 rfl (by assumption : TXM T1))), (by first | assumption | exact (WYM_FR w35 rfl (by assumption : WYM T1))), (by first | assumption | exact (by assumption : LXM T2)), (by first | assumption | exact (by assumption : LCN T2)), (by first | exact g22 | exact GR.rf), (by first | exact x22 | exact LXK.rf), (by omega)⟩
def md_mo_doWay : List rec := [(904, 905, 15, 16), (904, 905, 19, 20), (904, 905, 51, 52), (904, 905, 60, 61), (904, 905, 105, 106), (904, 905, 106, 107), (912, 913, 0, 100000), (913, 914, 0, 100000), (914, 915, 0, 100000), (915, 916, 0, 100000), (916, 917, 0, 100000), (918, 919, 0, 100000), (919, 920, 0, 100000), (920, 921, 0, 100000), (925, 926, 0, 100000), (930, 931, 0, 100000), (943, 944, 0, 100000), (944, 945, 0, 100000), (945, 946, 0, 100000)]
abbrev Q_mo_doWay (S : sS) (n : Nat) : pst := fun r S1 => HI S1 ∧ FR md_mo_doWay S S1 ∧ (r = none ∧ (TXM S1) ∧ (WYM S1) ∧ (LXM S1) ∧ (LCN S1) ∧ (GR S1 S) ∧ (WYD S1) ∧ (Xi S1 904 60 < Xi S1 904 19))
set_option maxRecDepth 100000 in
theorem t_mo_doWay {S : sS} (hH : HI S) (n : Nat) (hT : TK S n) (hv : RNV S n) (hM : LXM S) (hX : TXM S) (hW : WYM S) (hLC : LCN S) (hl : Xi S 904 71 + Xi S 904 72 ≤ Xi S 904 69) (hD : WYD S) (h1 : 1 ≤ Xi S 904 72) (h2 : 2 ≤ Xi S 904 16) (hw : 0 ≤ Xi S 904 78 ∧ Xi S 904 78 < Xi S 904 69) (hp : Xi S 904 74 < Xi S 904 69) (ha : (rnR S (Xi S 904 71) 4 = -1 → Xi S 904 19 < 24 ∧ Xi S 951 (Xi S 904 71).toNat ≤ 3)) (hb : rnR S (Xi S 904 78) 12 ≠ -1) (hc : rnR S (Xi S 904 74) 4 ≠ -1) (d : Nat) : Mt lay0 (d + 6) m_mo_doWay [.ref 904] S (Q_mo_doWay S n) := by
  refine Mt_R rfl rfl ?_
  have hF : FR md_mo_doWay S S := FR.rf
  have w1 : 0 ≤ Xi S 904 16 ∧ Xi S 904 16 ≤ 16 := hH.c _ _
  have w2 : 0 ≤ Xi S 904 19 ∧ Xi S 904 19 ≤ 24 := hH.c _ _
  have w3 : 0 ≤ Xi S 904 51 ∧ Xi S 904 51 ≤ 200 := hH.c _ _
  have w4 : -1 ≤ Xi S 904 60 ∧ Xi S 904 60 ≤ 23 := hH.c _ _
  have w5 : 0 ≤ Xi S 904 69 ∧ Xi S 904 69 ≤ 2600 := hH.c _ _
  have w6 : 0 ≤ Xi S 904 71 ∧ Xi S 904 71 ≤ 2600 := hH.c _ _
  have w7 : 0 ≤ Xi S 904 72 ∧ Xi S 904 72 ≤ 2600 := hH.c _ _
  have w8 : 0 ≤ Xi S 904 74 ∧ Xi S 904 74 ≤ 2600 := hH.c _ _
  have w9 : -2 ≤ Xi S 904 78 ∧ Xi S 904 78 ≤ 5010 := hH.c _ _
  have hn5 := hT.1
  have hc69 : 0 ≤ Xi S 904 69 ∧ Xi S 904 69 ≤ 2600 := hH.c _ _
  have hc71 : 0 ≤ Xi S 904 71 ∧ Xi S 904 71 ≤ 2600 := hH.c _ _
  have hc72 : 0 ≤ Xi S 904 72 ∧ Xi S 904 72 ≤ 2600 := hH.c _ _
  have hrf : ∀ r : Int, 0 ≤ r → r < Xi S 904 69 → Xi S 950 r.toNat ≤ n := fun r a b => by have := hv r.toNat (by omega); omega
  have hc19 : 0 ≤ Xi S 904 19 ∧ Xi S 904 19 ≤ 24 := hH.c _ _
  have hc74 : 0 ≤ Xi S 904 74 := (hH.c 904 74).1
  have hc15 : 0 ≤ Xi S 904 15 ∧ Xi S 904 15 ≤ 300 := hH.c _ _
  have hl9 := lcn_le hH hLC
  have hc51 : 0 ≤ Xi S 904 51 ∧ Xi S 904 51 ≤ 200 := hH.c _ _
  have hw9 := wyd_le hH hD
  have C39 : ∀ (n39 : Nat) (T1 : sS) (_ : HI T1) (_ : FR md_mo_doWay S T1) (v1 : Int) (v2 : Int) (v3 : Int) (v4 : Int), (0 ≤ v1 ∧ v1 ≤ 5) → (0 ≤ v2 ∧ v2 ≤ 23) → (0 ≤ v3 ∧ v3 ≤ 23) → (0 ≤ v4 ∧ v4 ≤ 200) → (Xi T1 904 51 = Xi S 904 51) → (Xi T1 904 71 = Xi S 904 71) → (Xi T1 904 69 = Xi S 904 69) → (Xi T1 904 60 < Xi T1 904 19) → (WYD T1) → (TXM T1) → (WYM T1) → (LXM T1) → (LCN T1) → (GR T1 S) → (∀ k : Nat, (k : Int) < v4 → ¬ (Xi T1 943 k = v2 ∧ Xi T1 944 k = v1)) → (v4 ≤ Xi S 904 51) → n39 = (201 - v4).toNat → Rl lay0 (d + 5) m_mo_doWay 39 [(0, .ref 904), (1, iv v1), (2, iv v2), (3, iv v3), (4, iv v4)] [] T1 (Q_mo_doWay S n) := by
    intro n39
    induction n39 using Nat.strongRecOn with
    | ind n39 ih39 =>
      intro T1 hHT1 hFT1 v1 v2 v3 v4 w10 w11 w12 w13 w14 w15 w16 w17 D39 X39 W39 M39 L39 G39 N39 w18 hm39
      have w19 : Xi T1 904 16 = Xi S 904 16 := hFT1.x _ _ rfl
      have w20 : Xi T1 904 69 = Xi S 904 69 := hFT1.x _ _ rfl
      have w21 : Xi T1 904 71 = Xi S 904 71 := hFT1.x _ _ rfl
      have w22 : Xi T1 904 72 = Xi S 904 72 := hFT1.x _ _ rfl
      have w23 : Xi T1 904 74 = Xi S 904 74 := hFT1.x _ _ rfl
      have w24 : Xi T1 904 78 = Xi S 904 78 := hFT1.x _ _ rfl
      have w25 : 0 ≤ Xi T1 904 19 ∧ Xi T1 904 19 ≤ 24 := hHT1.c _ _
      have w26 : 0 ≤ Xi T1 904 51 ∧ Xi T1 904 51 ≤ 200 := hHT1.c _ _
      have w27 : -1 ≤ Xi T1 904 60 ∧ Xi T1 904 60 ≤ 23 := hHT1.c _ _
      have w28 : 0 ≤ Xi T1 904 69 ∧ Xi T1 904 69 ≤ 2600 := hHT1.c _ _
      have w29 : 0 ≤ Xi T1 904 71 ∧ Xi T1 904 71 ≤ 2600 := hHT1.c _ _
      refine l_iload rfl rfl ?_
      refine l_aload_n rfl rfl ?_
      refine l_gfi rfl rfl rfl rfl rfl ?_
      refine l_icmp_ge rfl rfl (by unfold rg; omega) (by unfold rg; omega) (fun w30 => ?_) (fun w31 => ?_)
      · refine l_aload_n rfl rfl ?_
        refine l_gfr rfl rfl rfl rfl rfl (hHT1.r 904 52 943 rfl) ?_
        refine l_aload_n rfl rfl ?_
        refine l_gfi rfl rfl rfl rfl rfl ?_
        refine l_iload_n rfl rfl ?_
        refine l_iastore (n := 200) rfl rfl (by omega) (by omega) (by unfold rg; omega) ?_
        obtain ⟨U2, eU2⟩ : ∃ T : sS, T = uI T1 943 (((Xi T1 904 51)).toNat) (Int32.ofInt v2) := ⟨_, rfl⟩
        rw [← eU2]
        have hHU2 : HI U2 := by rw [eU2]; exact HI_w hHT1 (show 0 ≤ v2 by omega) (show v2 ≤ 23 by omega)
        have hFU2 : FR md_mo_doWay S U2 := by rw [eU2]; exact FR.wI hFT1 (mdf_i (r := (943, 944, 0, 100000)) (List.mem_of_getElem? (i := 16) rfl) (inR_i (by omega) (by omega) (by omega) (by omega)))
        have w32 : Xi U2 943 (((Xi T1 904 51)).toNat) = v2 := by rw [eU2]; exact Xi_same (by unfold rg; omega)
        refine l_aload_n rfl rfl ?_
        refine l_gfr rfl rfl rfl rfl rfl (hHU2.r 904 53 944 rfl) ?_
        refine l_aload_n rfl rfl ?_
        refine l_gfi rfl rfl rfl rfl rfl ?_
        have w33 : (Xi U2 904 51) = (Xi T1 904 51) := (show Xi U2 904 51 = Xi T1 904 51 from by rw [eU2]; exact Xi_ne (by omega))
        rw [w33]
        refine l_iload_n rfl rfl ?_
        refine l_iastore (n := 200) rfl rfl (by omega) (by omega) (by unfold rg; omega) ?_
        obtain ⟨U3, eU3⟩ : ∃ T : sS, T = uI U2 944 (((Xi T1 904 51)).toNat) (Int32.ofInt v1) := ⟨_, rfl⟩
        rw [← eU3]
        have hHU3 : HI U3 := by rw [eU3]; exact HI_w hHU2 (show 0 ≤ v1 by omega) (show v1 ≤ 5 by omega)
        have hFU3 : FR md_mo_doWay S U3 := by rw [eU3]; exact FR.wI hFU2 (mdf_i (r := (944, 945, 0, 100000)) (List.mem_of_getElem? (i := 17) rfl) (inR_i (by omega) (by omega) (by omega) (by omega)))
        have w34 : Xi U3 944 (((Xi T1 904 51)).toNat) = v1 := by rw [eU3]; exact Xi_same (by unfold rg; omega)
        refine l_aload_n rfl rfl ?_
        refine l_gfr rfl rfl rfl rfl rfl (hHU3.r 904 54 945 rfl) ?_
        refine l_aload_n rfl rfl ?_
        refine l_gfi rfl rfl rfl rfl rfl ?_
        have w35 : (Xi U3 904 51) = (Xi T1 904 51) := (show Xi U3 904 51 = Xi U2 904 51 from by rw [eU3]; exact Xi_ne (by omega)).trans ((show Xi U2 904 51 = Xi T1 904 51 from by rw [eU2]; exact Xi_ne (by omega)))
        rw [w35]
        refine l_iload_n rfl rfl ?_
        refine l_iastore (n := 200) rfl rfl (by omega) (by omega) (by unfold rg; omega) ?_
        obtain ⟨U4, eU4⟩ : ∃ T : sS, T = uI U3 945 (((Xi T1 904 51)).toNat) (Int32.ofInt v3) := ⟨_, rfl⟩
        rw [← eU4]
        have hHU4 : HI U4 := by rw [eU4]; exact HI_w hHU3 (show 0 ≤ v3 by omega) (show v3 ≤ 23 by omega)
        have hFU4 : FR md_mo_doWay S U4 := by rw [eU4]; exact FR.wI hFU3 (mdf_i (r := (945, 946, 0, 100000)) (List.mem_of_getElem? (i := 18) rfl) (inR_i (by omega) (by omega) (by omega) (by omega)))
        have w36 : Xi U4 945 (((Xi T1 904 51)).toNat) = v3 := by rw [eU4]; exact Xi_same (by unfold rg; omega)
        refine l_aload_n rfl rfl ?_
        refine l_dup rfl rfl ?_
        refine l_gfi rfl rfl rfl rfl rfl ?_
        have w37 : (Xi U4 904 51) = (Xi T1 904 51) := (show Xi U4 904 51 = Xi U3 904 51 from by rw [eU4]; exact Xi_ne (by omega)).trans ( (show Xi U3 904 51 = Xi U2 904 51 from by rw [eU3]; exact Xi_ne (by omega)).trans ((show Xi U2 904 51 = Xi T1 904 51 from by rw [eU2]; exact Xi_ne (by omega))))
        rw [w37]
        refine l_iconst rfl ?_
        refine l_iadd rfl ?_
        refine l_pfi rfl rfl rfl rfl ?_
        obtain ⟨U5, eU5⟩ : ∃ T : sS, T = uI U4 904 51 (Int32.ofInt ((Xi T1 904 51) + 1)) := ⟨_, rfl⟩
        rw [← eU5]
        have hHU5 : HI U5 := by rw [eU5]; exact HI_w hHU4 (show 0 ≤ ((Xi T1 904 51) + 1) by omega) (show ((Xi T1 904 51) + 1) ≤ 200 by omega)
        have hFU5 : FR md_mo_doWay S U5 := by rw [eU5]; exact FR.wI hFU4 (mdf_i (r := (904, 905, 51, 52)) (List.mem_of_getElem? (i := 2) rfl) (inR_i (by omega) (by omega) (by omega) (by omega)))
        have w38 : Xi U5 904 51 = ((Xi T1 904 51) + 1) := by rw [eU5]; exact Xi_same (by unfold rg; omega)
        have W139 : WYD U5 := wyd_add (S := T1) D39 (fun k hk => N39 k (by omega)) rfl (by omega) (by omega) (by omega) eU2 eU3 eU4 eU5
        refine l_return rfl rfl ?_
        have w41 : Xi U5 904 19 = Xi T1 904 19 := (show Xi U5 904 19 = Xi U4 904 19 from by rw [eU5]; exact Xi_ne (by omega)).trans ( (show Xi U4 904 19 = Xi U3 904 19 from by rw [eU4]; exact Xi_ne (by omega)).trans ( (show Xi U3 904 19 = Xi U2 904 19 from by rw [eU3]; exact Xi_ne (by omega)).trans ((show Xi U2 904 19 = Xi T1 904 19 from by rw [eU2]; exact Xi_ne (by omega)))))
        have w44 : Xi U5 904 60 = Xi T1 904 60 := (show Xi U5 904 60 = Xi U4 904 60 from by rw [eU5]; exact Xi_ne (by omega)).trans ( (show Xi U4 904 60 = Xi U3 904 60 from by rw [eU4]; exact Xi_ne (by omega)).trans ( (show Xi U3 904 60 = Xi U2 904 60 from by rw [eU3]; exact Xi_ne (by omega)).trans ((show Xi U2 904 60 = Xi T1 904 60 from by rw [eU2]; exact Xi_ne (by omega)))))
        exact ⟨hHU5, hFU5, rfl, ((TXM_FR (FR_e eU5) rfl (TXM_FR (FR_e eU4) rfl (TXM_FR (FR_e eU3) rfl (TXM_FR (FR_e eU2) rfl (by assumption : TXM T1)))))), ((WYM_FR (FR_e eU5) rfl (WYM_FR (FR_e eU4) rfl (WYM_FR (FR_e eU3) rfl (WYM_FR (FR_e eU2) rfl (by assumption : WYM T1)))))), ((LXM_FR (FR_e eU5) rfl (LXM_FR (FR_e eU4) rfl (LXM_FR (FR_e eU3) rfl (LXM_FR (FR_e eU2) rfl (by assumption : LXM T1)))))), ((LCN_FR (FR_e eU5) rfl (LCN_FR (FR_e eU4) rfl (LCN_FR (FR_e eU3) rfl (LCN_FR (FR_e eU2) rfl (by assumption : LCN T1)))))), ((GR_FR (FR_e eU5) rfl (GR_FR (FR_e eU4) rfl (GR_FR (FR_e eU3) rfl (GR_FR (FR_e eU2) rfl (by assumption : GR T1 S)))))), (by first | assumption | exact (by assumption : WYD U5)), (by omega)⟩
      · refine l_aload_n rfl rfl ?_
        refine l_gfr rfl rfl rfl rfl rfl (hHT1.r 904 52 943 rfl) ?_
        refine l_iload rfl rfl ?_
        refine l_iaload (n := 200) rfl rfl (by omega) (by omega) (by unfold rg; omega) ?_
        have w54 : 0 ≤ (Xi T1 943 ((v4).toNat)) ∧ (Xi T1 943 ((v4).toNat)) ≤ 23 := hHT1.c _ _
        refine l_iload_n rfl rfl ?_
        refine l_icmp_ne rfl rfl (by unfold rg; omega) (by unfold rg; omega) (fun w55 => ?_) (fun w56 => ?_)
        · refine l_iinc rfl rfl rfl rfl ?_
          refine l_goto rfl rfl ?_
          have w57 : 0 ≤ Xi T1 904 15 ∧ Xi T1 904 15 ≤ 300 := hHT1.c _ _
          have w63 : 0 ≤ Xi T1 904 74 ∧ Xi T1 904 74 ≤ 2600 := hHT1.c _ _
          have w64 : -2 ≤ Xi T1 904 78 ∧ Xi T1 904 78 ≤ 5010 := hHT1.c _ _
          exact Rl_weak (ih39 _ (by omega) T1 hHT1 hFT1 (v1) (v2) (v3) ((v4 + 1)) (by omega) (by omega) (by omega) (by omega) (by omega) (by omega) (by omega) (by omega) (by first | assumption | exact (by assumption : WYD T1)) (by first | assumption | exact (by assumption : TXM T1)) (by first | assumption | exact (by assumption : WYM T1)) (by first | assumption | exact (by assumption : LXM T1)) (by first | assumption | exact (by assumption : LCN T1)) ((by assumption : GR T1 S)) (by first | exact fun k hk => absurd hk (by omega) | exact fun k hk => (Int.lt_or_le (k : Int) v4).elim (fun h => N39 k h) (fun h => by rw [show k = (v4).toNat by omega]; omega)) (by omega) rfl) (And.intro rfl (And.intro rfl (And.intro rfl (And.intro rfl (And.intro rfl (True.intro))))))
        · refine l_aload_n rfl rfl ?_
          refine l_gfr rfl rfl rfl rfl rfl (hHT1.r 904 53 944 rfl) ?_
          refine l_iload rfl rfl ?_
          refine l_iaload (n := 200) rfl rfl (by omega) (by omega) (by unfold rg; omega) ?_
          have w65 : 0 ≤ (Xi T1 944 ((v4).toNat)) ∧ (Xi T1 944 ((v4).toNat)) ≤ 5 := hHT1.c _ _
          refine l_iload_n rfl rfl ?_
          refine l_icmp_ne rfl rfl (by unfold rg; omega) (by unfold rg; omega) (fun w66 => ?_) (fun w67 => ?_)
          · refine l_iinc rfl rfl rfl rfl ?_
            refine l_goto rfl rfl ?_
            have w68 : 0 ≤ Xi T1 904 15 ∧ Xi T1 904 15 ≤ 300 := hHT1.c _ _
            have w74 : 0 ≤ Xi T1 904 74 ∧ Xi T1 904 74 ≤ 2600 := hHT1.c _ _
            have w75 : -2 ≤ Xi T1 904 78 ∧ Xi T1 904 78 ≤ 5010 := hHT1.c _ _
            exact Rl_weak (ih39 _ (by omega) T1 hHT1 hFT1 (v1) (v2) (v3) ((v4 + 1)) (by omega) (by omega) (by omega) (by omega) (by omega) (by omega) (by omega) (by omega) (by first | assumption | exact (by assumption : WYD T1)) (by first | assumption | exact (by assumption : TXM T1)) (by first | assumption | exact (by assumption : WYM T1)) (by first | assumption | exact (by assumption : LXM T1)) (by first | assumption | exact (by assumption : LCN T1)) ((by assumption : GR T1 S)) (by first | exact fun k hk => absurd hk (by omega) | exact fun k hk => (Int.lt_or_le (k : Int) v4).elim (fun h => N39 k h) (fun h => by rw [show k = (v4).toNat by omega]; omega)) (by omega) rfl) (And.intro rfl (And.intro rfl (And.intro rfl (And.intro rfl (And.intro rfl (True.intro))))))
          · refine l_aload_n rfl rfl ?_
            refine l_gfr rfl rfl rfl rfl rfl (hHT1.r 904 54 945 rfl) ?_
            refine l_iload rfl rfl ?_
            refine l_iaload (n := 200) rfl rfl (by omega) (by omega) (by unfold rg; omega) ?_
            have w76 : 0 ≤ (Xi T1 945 ((v4).toNat)) ∧ (Xi T1 945 ((v4).toNat)) ≤ 23 := hHT1.c _ _
            refine l_iload_n rfl rfl ?_
            refine l_icmp_eq rfl rfl (by unfold rg; omega) (by unfold rg; omega) (fun w77 => ?_) (fun w78 => ?_)
            · refine l_return rfl rfl ?_
              exact ⟨hHT1, hFT1, rfl, ((by assumption : TXM T1)), ((by assumption : WYM T1)), ((by assumption : LXM T1)), ((by assumption : LCN T1)), ((by assumption : GR T1 S)), (by first | assumption | exact (by assumption : WYD T1)), (by omega)⟩
            · refine l_aload_n rfl rfl ?_
              refine l_iconst rfl ?_
              refine l_aload_n rfl rfl ?_
              refine l_gfr rfl rfl rfl rfl rfl (hHT1.r 904 67 950 rfl) ?_
              refine l_aload_n rfl rfl ?_
              refine l_gfi rfl rfl rfl rfl rfl ?_
              refine l_iaload (n := 2600) rfl rfl (by omega) (by omega) (by unfold rg; omega) ?_
              have w87 : 0 ≤ (Xi T1 950 (((Xi T1 904 71)).toNat)) ∧ (Xi T1 950 (((Xi T1 904 71)).toNat)) ≤ 5010 := hHT1.c _ _
              have e91 : (Xi T1 950 (((Xi T1 904 71)).toNat)) ≤ n := by rw [(hFT1.cx 950 rfl _).1]; exact hrf _ (by omega) (by omega)
              refine l_callV rfl rfl rfl (t_mo_wrong hHT1 5 (Xi T1 950 (((Xi T1 904 71)).toNat)) ⟨by omega, by omega⟩ ⟨by omega, by omega⟩ _) ?_
              rintro _ T6 ⟨hHT6, w97, rfl, w95⟩
              have hFT6 : FR md_mo_doWay S T6 := FR.tr hFT1 w97 rfl
              show Rl _ _ _ _ _ [] _ _
              refine l_return rfl rfl ?_
              have w100 : Xi T6 904 19 = Xi T1 904 19 := (show Xi T6 904 19 = Xi T1 904 19 from w97.x _ _ rfl)
              have w104 : Xi T6 904 60 = Xi T1 904 60 := (show Xi T6 904 60 = Xi T1 904 60 from w97.x _ _ rfl)
              exact ⟨hHT6, hFT6, rfl, ((TXM_FR w97 rfl (by assumption : TXM T1))), ((WYM_FR w97 rfl (by assumption : WYM T1))), ((LXM_FR w97 rfl (by assumption : LXM T1))), ((LCN_FR w97 rfl (by assumption : LCN T1))), ((GR_FR w97 rfl (by assumption : GR T1 S))), (by first | assumption | exact (WYD_FR w97 rfl (by assumption : WYD T1))), (by omega)⟩
  refine l_aload_n rfl rfl ?_
  refine l_aload_n rfl rfl ?_
  refine l_gfi rfl rfl rfl rfl rfl ?_
  refine l_bipush rfl rfl ?_
  refine l_callV rfl rfl rfl (t_mo_meansRun__2 hH n (Xi S 904 78) 12 ⟨by omega, by omega⟩ ⟨by omega, by omega⟩ (by first | assumption | exact (TK_FR hF rfl (by assumption : TK S _))) (by first | assumption | exact (RNV_FR hF rfl (by assumption : RNV S _))) (by first | assumption | omega) (by first | assumption | exact (by assumption : LXM S)) _) ?_
  rintro _ _ ⟨rfl, z123, rfl, w123, w121, w122⟩
  show Rl _ _ _ _ _ [iv z123] _ _
  have x7 : z123 ≠ -1 → z123 < 6 := fun q => by have t := (by assumption : z123 ≠ -1 → z123 < cM S 12) q; rw [cM12] at t; exact t
  have r7 : z123 = rnR S (Xi S 904 78) 12 := by assumption
  refine l_istore_n rfl rfl rfl ?_
  refine l_aload_n rfl rfl ?_
  refine l_aload_n rfl rfl ?_
  refine l_gfi rfl rfl rfl rfl rfl ?_
  refine l_iconst rfl ?_
  refine l_callV rfl rfl rfl (t_mo_meansRun__2 hH n (Xi S 904 74) 4 ⟨by omega, by omega⟩ ⟨by omega, by omega⟩ (by first | assumption | exact (TK_FR hF rfl (by assumption : TK S _))) (by first | assumption | exact (RNV_FR hF rfl (by assumption : RNV S _))) (by first | assumption | omega) (by first | assumption | exact (by assumption : LXM S)) _) ?_
  rintro _ _ ⟨rfl, z133, rfl, w133, w131, w132⟩
  show Rl _ _ _ _ _ [iv z133] _ _
  have x17 : z133 ≠ -1 → z133 < Xi S 904 19 := fun q => by have t := (by assumption : z133 ≠ -1 → z133 < cM S 4) q; rw [cM4] at t; exact t
  have r17 : z133 = rnR S (Xi S 904 74) 4 := by assumption
  refine l_istore_n rfl rfl rfl ?_
  refine l_aload_n rfl rfl ?_
  refine l_aload_n rfl rfl ?_
  refine l_gfi rfl rfl rfl rfl rfl ?_
  refine l_iconst rfl ?_
  have w134 : 0 ≤ Xi S 904 15 ∧ Xi S 904 15 ≤ 300 := hH.c _ _
  refine l_callV rfl rfl rfl (t_mo_objectTold hH n (Xi S 904 71) 1 ⟨by omega, by omega⟩ ⟨by omega, by omega⟩ (by first | assumption | exact (TK_FR hF rfl (by assumption : TK S _))) (by first | assumption | exact (RNV_FR hF rfl (by assumption : RNV S _))) (by first | assumption | exact (by assumption : LXM S)) (by first | assumption | omega) (by first | assumption | exact (by assumption : TXM S)) (by first | assumption | exact (by assumption : WYM S)) (by first | assumption | exact (by assumption : LCN S)) (by first | assumption | omega) (fun q => by have t := ha (by first | exact q | (rw [← q]; exact congrArg (fun x : Int => rnR S x 4) (by omega))); first | exact ⟨by omega, t.2⟩ | (refine ⟨by omega, ?_⟩; rw [show Xi S 904 71 = Xi S 904 71 by omega] at t; exact t.2)) _) ?_
  rintro _ T7 ⟨hHT7, w152, z151, rfl, w151, w142, w143, w144, w145, w146, w147, w148, w149, w150⟩
  have hFT7 : FR md_mo_doWay S T7 := FR.tr hF w152 rfl
  show Rl _ _ _ _ _ [iv z151] _ _
  refine l_istore_n rfl rfl rfl ?_
  refine l_aload_n rfl rfl ?_
  refine l_iload_n rfl rfl ?_
  refine l_pfi rfl rfl rfl rfl ?_
  obtain ⟨U8, eU8⟩ : ∃ T : sS, T = uI T7 904 60 (Int32.ofInt z151) := ⟨_, rfl⟩
  rw [← eU8]
  have hHU8 : HI U8 := by rw [eU8]; exact HI_w hHT7 (show -1 ≤ z151 by omega) (show z151 ≤ 23 by omega)
  have hFU8 : FR md_mo_doWay S U8 := by rw [eU8]; exact FR.wI hFT7 (mdf_i (r := (904, 905, 60, 61)) (List.mem_of_getElem? (i := 3) rfl) (inR_i (by omega) (by omega) (by omega) (by omega)))
  have w153 : Xi U8 904 60 = z151 := by rw [eU8]; exact Xi_same (by unfold rg; omega)
  refine l_iconst rfl ?_
  refine l_istore rfl rfl rfl ?_
  have w154 : Xi U8 904 15 = Xi T7 904 15 := (show Xi U8 904 15 = Xi T7 904 15 from by rw [eU8]; exact Xi_ne (by omega))
  have w155 : 0 ≤ Xi T7 904 15 ∧ Xi T7 904 15 ≤ 300 := hHT7.c _ _
  have w156 : Xi U8 904 19 = Xi T7 904 19 := (show Xi U8 904 19 = Xi T7 904 19 from by rw [eU8]; exact Xi_ne (by omega))
  have w157 : 0 ≤ Xi T7 904 19 ∧ Xi T7 904 19 ≤ 24 := hHT7.c _ _
  have w158 : Xi U8 904 51 = Xi S 904 51 := (show Xi U8 904 51 = Xi T7 904 51 from by rw [eU8]; exact Xi_ne (by omega)).trans ((show Xi T7 904 51 = Xi S 904 51 from w152.x _ _ rfl))
  have w160 : -1 ≤ Xi U8 904 60 ∧ Xi U8 904 60 ≤ 23 := hHU8.c _ _
  have w161 : Xi U8 904 69 = Xi S 904 69 := (show Xi U8 904 69 = Xi T7 904 69 from by rw [eU8]; exact Xi_ne (by omega)).trans ((show Xi T7 904 69 = Xi S 904 69 from w152.x _ _ rfl))
  have w163 : Xi U8 904 71 = Xi S 904 71 := (show Xi U8 904 71 = Xi T7 904 71 from by rw [eU8]; exact Xi_ne (by omega)).trans ((show Xi T7 904 71 = Xi S 904 71 from w152.x _ _ rfl))
  have w165 : Xi U8 904 74 = Xi S 904 74 := (show Xi U8 904 74 = Xi T7 904 74 from by rw [eU8]; exact Xi_ne (by omega)).trans ((show Xi T7 904 74 = Xi S 904 74 from w152.x _ _ rfl))
  have w167 : Xi U8 904 78 = Xi S 904 78 := (show Xi U8 904 78 = Xi T7 904 78 from by rw [eU8]; exact Xi_ne (by omega)).trans ((show Xi T7 904 78 = Xi S 904 78 from w152.x _ _ rfl))
  exact Rl_weak (C39 _ U8 hHU8 hFU8 (z123) (z133) (z151) (0) (by omega) (by omega) (by omega) (by omega) (by omega) (by omega) (by omega) (by omega) (by first | assumption | exact (WYD_FR (FR_e eU8) rfl (WYD_FR w152 rfl (by assumption : WYD S)))) (by first | assumption | exact (TXM_FR (FR_e eU8) rfl (by assumption : TXM T7))) (by first | assumption | exact (WYM_FR (FR_e eU8) rfl (by assumption : WYM T7))) (by first | assumption | exact (LXM_FR (FR_e eU8) rfl (by assumption : LXM T7))) (by first | assumption | exact (LCN_FR (FR_e eU8) rfl (by assumption : LCN T7))) ((GR_FR (FR_e eU8) rfl (GR.tr GR.rf (by assumption : GR T7 S)))) (by first | exact fun k hk => absurd hk (by omega) | exact fun k hk => (Int.lt_or_le (k : Int) v4).elim (fun h => N39 k h) (fun h => by rw [show k = (v4).toNat by omega]; omega)) (by omega) rfl) (And.intro rfl (And.intro rfl (And.intro rfl (And.intro rfl (And.intro rfl (True.intro))))))
def md_mo_doProperty : List rec := [(904, 905, 105, 106), (904, 905, 106, 107), (930, 931, 0, 100000), (931, 932, 0, 100000), (932, 933, 0, 100000), (933, 934, 0, 100000), (934, 935, 0, 100000), (935, 936, 0, 100000)]
abbrev Q_mo_doProperty (S : sS) (n : Nat) : pst := fun r S1 => HI S1 ∧ FR md_mo_doProperty S S1 ∧ (r = none ∧ (TXM S1))
set_option maxRecDepth 100000 in
theorem t_mo_doProperty {S : sS} (hH : HI S) (n : Nat) (hT : TK S n) (hv : RNV S n) (hM : LXM S) (hX : TXM S) (h2 : 2 ≤ Xi S 904 69) (hp : rnR S 0 7 ≠ -1) (hk : rnR S 1 4 ≠ -1 ∨ rnR S 1 0 ≠ -1) (ho : OKT (Xi S 973 (Xi S 904 117).toNat) (Xi S 974 (Xi S 904 117).toNat)) (d : Nat) : Mt lay0 (d + 5) m_mo_doProperty [.ref 904] S (Q_mo_doProperty S n) := by
  refine Mt_R rfl rfl ?_
  have hF : FR md_mo_doProperty S S := FR.rf
  have w1 : 0 ≤ Xi S 904 117 ∧ Xi S 904 117 ≤ 480 := hH.c _ _
  have w2 : 0 ≤ Xi S 904 69 ∧ Xi S 904 69 ≤ 2600 := hH.c _ _
  have hn5 := hT.1
  have hc69 : 0 ≤ Xi S 904 69 ∧ Xi S 904 69 ≤ 2600 := hH.c _ _
  have q0 := hv 0 (by omega)
  have q1 := hv 1 (by omega)
  have g0 : 0 ≤ Xi S 950 0 ∧ Xi S 950 0 ≤ 5010 := hH.c 950 0
  have g1 : 0 ≤ Xi S 950 1 ∧ Xi S 950 1 ≤ 5010 := hH.c 950 1
  have hc117 : 0 ≤ Xi S 904 117 ∧ Xi S 904 117 ≤ 480 := hH.c _ _
  have hc32 : 0 ≤ Xi S 904 32 ∧ Xi S 904 32 ≤ 12 := hH.c _ _
  refine l_aload_n rfl rfl ?_
  refine l_iconst rfl ?_
  refine l_iconst rfl ?_
  refine l_callV rfl rfl rfl (t_mo_meansRun__2 hH n 1 4 ⟨by omega, by omega⟩ ⟨by omega, by omega⟩ (by first | assumption | exact (TK_FR hF rfl (by assumption : TK S _))) (by first | assumption | exact (RNV_FR hF rfl (by assumption : RNV S _))) (by first | assumption | omega) (by first | assumption | exact (LXM_FR hF rfl (by assumption : LXM S))) _) ?_
  rintro _ _ ⟨rfl, z6, rfl, w6, w4, w5⟩
  show Rl _ _ _ _ _ [iv z6] _ _
  have x3 : z6 ≠ -1 → z6 < Xi S 904 19 := fun q => by have t := (by assumption : z6 ≠ -1 → z6 < cM S 4) q; rw [cM4] at t; exact t
  have r3 : z6 = rnR S 1 4 := (by assumption : z6 = rnR S _ _).trans (rnR_FR hF rfl rfl)
  refine l_istore_n rfl rfl rfl ?_
  refine l_aload_n rfl rfl ?_
  refine l_iconst rfl ?_
  refine l_bipush rfl rfl ?_
  refine l_callV rfl rfl rfl (t_mo_meansRun__2 hH n 0 7 ⟨by omega, by omega⟩ ⟨by omega, by omega⟩ (by first | assumption | exact (TK_FR hF rfl (by assumption : TK S _))) (by first | assumption | exact (RNV_FR hF rfl (by assumption : RNV S _))) (by first | assumption | omega) (by first | assumption | exact (LXM_FR hF rfl (by assumption : LXM S))) _) ?_
  rintro _ _ ⟨rfl, z10, rfl, w10, w8, w9⟩
  show Rl _ _ _ _ _ [iv z10] _ _
  have x11 : z10 ≠ -1 → z10 < Xi S 904 32 := fun q => by have t := (by assumption : z10 ≠ -1 → z10 < cM S 7) q; rw [cM7] at t; exact t
  have r11 : z10 = rnR S 0 7 := (by assumption : z10 = rnR S _ _).trans (rnR_FR hF rfl rfl)
  refine l_istore_n rfl rfl rfl ?_
  refine l_iload_n rfl rfl ?_
  refine l_iconst rfl ?_
  refine l_icmp_eq rfl rfl (by unfold rg; omega) (by unfold rg; omega) (fun w11 => ?_) (fun w12 => ?_)
  · refine l_aload_n rfl rfl ?_
    refine l_aload_n rfl rfl ?_
    refine l_iconst rfl ?_
    refine l_iconst rfl ?_
    refine l_callV rfl rfl rfl (t_mo_meansRun__2 hH n 1 0 ⟨by omega, by omega⟩ ⟨by omega, by omega⟩ (by first | assumption | exact (TK_FR hF rfl (by assumption : TK S _))) (by first | assumption | exact (RNV_FR hF rfl (by assumption : RNV S _))) (by first | assumption | omega) (by first | assumption | exact (LXM_FR hF rfl (by assumption : LXM S))) _) ?_
    rintro _ _ ⟨rfl, z16, rfl, w16, w14, w15⟩
    show Rl _ _ _ _ _ [iv z16, .ref 904] _ _
    have x51 : z16 ≠ -1 → z16 < Xi S 904 16 := fun q => by have t := (by assumption : z16 ≠ -1 → z16 < cM S 0) q; rw [cM0] at t; exact t
    have r51 : z16 = rnR S 1 0 := (by assumption : z16 = rnR S _ _).trans (rnR_FR hF rfl rfl)
    refine l_iload_n rfl rfl ?_
    refine l_aload_n rfl rfl ?_
    refine l_gfr rfl rfl rfl rfl rfl (hH.r 904 122 973 rfl) ?_
    refine l_aload_n rfl rfl ?_
    refine l_gfi rfl rfl rfl rfl rfl ?_
    refine l_iaload (n := 2400) rfl rfl (by omega) (by omega) (by unfold rg; omega) ?_
    have w17 : -2147483648 ≤ (Xi S 973 (((Xi S 904 117)).toNat)) ∧ (Xi S 973 (((Xi S 904 117)).toNat)) ≤ 2147483647 := Xi_rgI
    refine l_aload_n rfl rfl ?_
    refine l_gfr rfl rfl rfl rfl rfl (hH.r 904 123 974 rfl) ?_
    refine l_aload_n rfl rfl ?_
    refine l_gfi rfl rfl rfl rfl rfl ?_
    refine l_iaload (n := 2400) rfl rfl (by omega) (by omega) (by unfold rg; omega) ?_
    have w18 : -2147483648 ≤ (Xi S 974 (((Xi S 904 117)).toNat)) ∧ (Xi S 974 (((Xi S 904 117)).toNat)) ≤ 2147483647 := Xi_rgI
    have w19 : 0 ≤ Xi S 904 16 ∧ Xi S 904 16 ≤ 16 := hH.c _ _
    have w20 : 0 ≤ Xi S 904 32 ∧ Xi S 904 32 ≤ 12 := hH.c _ _
    refine l_callV rfl rfl rfl (t_mo_tellKind hH z16 z10 (Xi S 973 (((Xi S 904 117)).toNat)) (Xi S 974 (((Xi S 904 117)).toNat)) ⟨by omega, by omega⟩ ⟨by omega, by omega⟩ ⟨by omega, by omega⟩ ⟨by omega, by omega⟩ (by first | assumption | exact (by assumption : TXM S)) (by first | assumption | omega) (by first | assumption | omega) (fun _ => ho) _) ?_
    rintro _ T1 ⟨hHT1, w23, z22, rfl, w22, w21⟩
    have hFT1 : FR md_mo_doProperty S T1 := FR.tr hF w23 rfl
    show Rl _ _ _ _ _ [iv z22] _ _
    refine l_istore_n rfl rfl rfl ?_
    refine l_iload_n rfl rfl ?_
    refine l_if_ne rfl rfl (by unfold rg; omega) (fun w24 => ?_) (fun w25 => ?_)
    · refine l_return rfl rfl ?_
      exact ⟨hHT1, hFT1, rfl, (by first | assumption | exact (by assumption : TXM T1))⟩
    · refine l_aload_n rfl rfl ?_
      refine l_iconst rfl ?_
      refine l_aload_n rfl rfl ?_
      refine l_gfr rfl rfl rfl rfl rfl (hHT1.r 904 67 950 rfl) ?_
      refine l_iconst rfl ?_
      refine l_iaload (n := 2600) rfl rfl (by omega) (by omega) (by unfold rg; omega) ?_
      have w26 : 0 ≤ (Xi T1 950 ((1 : Int).toNat)) ∧ (Xi T1 950 ((1 : Int).toNat)) ≤ 5010 := hHT1.c _ _
      have w27 : (Xi T1 950 ((1 : Int).toNat)) = Xi T1 950 1 := rfl
      have e88 : (Xi T1 950 ((1 : Int).toNat)) = Xi S 950 1 := by first | rfl | exact (hFT1.cx 950 rfl _).1
      refine l_callV rfl rfl rfl (t_mo_wrong hHT1 5 (Xi T1 950 ((1 : Int).toNat)) ⟨by omega, by omega⟩ ⟨by omega, by omega⟩ _) ?_
      rintro _ T2 ⟨hHT2, w30, rfl, w28⟩
      have hFT2 : FR md_mo_doProperty S T2 := FR.tr hFT1 w30 rfl
      show Rl _ _ _ _ _ [] _ _
      refine l_return rfl rfl ?_
      exact ⟨hHT2, hFT2, rfl, (by first | assumption | exact (TXM_FR w30 rfl (by assumption : TXM T1)))⟩
  · refine l_aload_n rfl rfl ?_
    refine l_iload_n rfl rfl ?_
    refine l_iload_n rfl rfl ?_
    refine l_aload_n rfl rfl ?_
    refine l_gfr rfl rfl rfl rfl rfl (hH.r 904 122 973 rfl) ?_
    refine l_aload_n rfl rfl ?_
    refine l_gfi rfl rfl rfl rfl rfl ?_
    refine l_iaload (n := 2400) rfl rfl (by omega) (by omega) (by unfold rg; omega) ?_
    have w31 : -2147483648 ≤ (Xi S 973 (((Xi S 904 117)).toNat)) ∧ (Xi S 973 (((Xi S 904 117)).toNat)) ≤ 2147483647 := Xi_rgI
    refine l_aload_n rfl rfl ?_
    refine l_gfr rfl rfl rfl rfl rfl (hH.r 904 123 974 rfl) ?_
    refine l_aload_n rfl rfl ?_
    refine l_gfi rfl rfl rfl rfl rfl ?_
    refine l_iaload (n := 2400) rfl rfl (by omega) (by omega) (by unfold rg; omega) ?_
    have w32 : -2147483648 ≤ (Xi S 974 (((Xi S 904 117)).toNat)) ∧ (Xi S 974 (((Xi S 904 117)).toNat)) ≤ 2147483647 := Xi_rgI
    have w33 : 0 ≤ Xi S 904 19 ∧ Xi S 904 19 ≤ 24 := hH.c _ _
    have w34 : 0 ≤ Xi S 904 32 ∧ Xi S 904 32 ≤ 12 := hH.c _ _
    refine l_callV rfl rfl rfl (t_mo_tellObject hH z6 z10 (Xi S 973 (((Xi S 904 117)).toNat)) (Xi S 974 (((Xi S 904 117)).toNat)) ⟨by omega, by omega⟩ ⟨by omega, by omega⟩ ⟨by omega, by omega⟩ ⟨by omega, by omega⟩ (by first | assumption | exact (by assumption : TXM S)) (by first | assumption | omega) (by first | assumption | omega) (fun _ => ho) _) ?_
    rintro _ T3 ⟨hHT3, w37, z36, rfl, w36, w35⟩
    have hFT3 : FR md_mo_doProperty S T3 := FR.tr hF w37 rfl
    show Rl _ _ _ _ _ [iv z36] _ _
    refine l_goto rfl rfl ?_
    refine l_istore_n rfl rfl rfl ?_
    refine l_iload_n rfl rfl ?_
    refine l_if_ne rfl rfl (by unfold rg; omega) (fun w38 => ?_) (fun w39 => ?_)
    · refine l_return rfl rfl ?_
      exact ⟨hHT3, hFT3, rfl, (by first | assumption | exact (by assumption : TXM T3))⟩
    · refine l_aload_n rfl rfl ?_
      refine l_iconst rfl ?_
      refine l_aload_n rfl rfl ?_
      refine l_gfr rfl rfl rfl rfl rfl (hHT3.r 904 67 950 rfl) ?_
      refine l_iconst rfl ?_
      refine l_iaload (n := 2600) rfl rfl (by omega) (by omega) (by unfold rg; omega) ?_
      have w40 : 0 ≤ (Xi T3 950 ((1 : Int).toNat)) ∧ (Xi T3 950 ((1 : Int).toNat)) ≤ 5010 := hHT3.c _ _
      have w41 : (Xi T3 950 ((1 : Int).toNat)) = Xi T3 950 1 := rfl
      have e88 : (Xi T3 950 ((1 : Int).toNat)) = Xi S 950 1 := by first | rfl | exact (hFT3.cx 950 rfl _).1
      refine l_callV rfl rfl rfl (t_mo_wrong hHT3 5 (Xi T3 950 ((1 : Int).toNat)) ⟨by omega, by omega⟩ ⟨by omega, by omega⟩ _) ?_
      rintro _ T4 ⟨hHT4, w44, rfl, w42⟩
      have hFT4 : FR md_mo_doProperty S T4 := FR.tr hFT3 w44 rfl
      show Rl _ _ _ _ _ [] _ _
      refine l_return rfl rfl ?_
      exact ⟨hHT4, hFT4, rfl, (by first | assumption | exact (TXM_FR w44 rfl (by assumption : TXM T3)))⟩
def md_mo_tell__2 : List rec := [(904, 905, 15, 16), (912, 913, 0, 100000), (913, 914, 0, 100000), (914, 915, 0, 100000), (915, 916, 0, 100000), (916, 917, 0, 100000)]
abbrev Q_mo_tell__2 (S : sS) (so : Int) (ix : Int) (a : Int) (b : Int) (c : Int) (m : Int) : pst := fun r S1 => HI S1 ∧ FR md_mo_tell__2 S S1 ∧ (r = none ∧ (Xi S1 904 15 = Xi S 904 15 + 1) ∧ (Xi S1 914 (Xi S 904 15).toNat = so ∧ Xi S1 915 (Xi S 904 15).toNat = ix) ∧ (LXK S1 S (Xi S 904 15)) ∧ (LXO S1 S (Xi S 904 15)))
set_option maxRecDepth 100000 in
theorem t_mo_tell__2 {S : sS} (hH : HI S) (so : Int) (ix : Int) (a : Int) (b : Int) (c : Int) (m : Int) (hso : 0 ≤ so ∧ so ≤ 12) (hix : 0 ≤ ix ∧ ix ≤ 63) (hm : 0 ≤ m ∧ m ≤ 3) (hle : Xi S 904 15 ≤ 299) (d : Nat) : Mt lay0 (d + 1) m_mo_tell [.ref 904, iv so, iv ix, jw a, jw b, jw c, iv m] S (Q_mo_tell__2 S so ix a b c m) := by
  refine Mt_R rfl rfl ?_
  have hF : FR md_mo_tell__2 S S := FR.rf
  have w1 : 0 ≤ Xi S 904 15 ∧ Xi S 904 15 ≤ 300 := hH.c _ _
  refine l_aload_n rfl rfl ?_
  refine l_gfr rfl rfl rfl rfl rfl (hH.r 904 10 912 rfl) ?_
  refine l_aload_n rfl rfl ?_
  refine l_gfi rfl rfl rfl rfl rfl ?_
  refine l_iload rfl rfl ?_
  refine l_iastore (n := 300) rfl rfl (by omega) (by omega) (by unfold rg; omega) ?_
  obtain ⟨U1, eU1⟩ : ∃ T : sS, T = uI S 912 (((Xi S 904 15)).toNat) (Int32.ofInt m) := ⟨_, rfl⟩
  rw [← eU1]
  have hHU1 : HI U1 := by rw [eU1]; exact HI_w hH (show 0 ≤ m by omega) (show m ≤ 3 by omega)
  have hFU1 : FR md_mo_tell__2 S U1 := by rw [eU1]; exact FR.wI hF (mdf_i (r := (912, 913, 0, 100000)) (List.mem_of_getElem? (i := 1) rfl) (inR_i (by omega) (by omega) (by omega) (by omega)))
  have w2 : Xi U1 912 (((Xi S 904 15)).toNat) = m := by rw [eU1]; exact Xi_same (by unfold rg; omega)
  refine l_aload_n rfl rfl ?_
  refine l_gfr rfl rfl rfl rfl rfl (hHU1.r 904 11 913 rfl) ?_
  refine l_iconst rfl ?_
  refine l_aload_n rfl rfl ?_
  refine l_gfi rfl rfl rfl rfl rfl ?_
  have w3 : (Xi U1 904 15) = (Xi S 904 15) := (show Xi U1 904 15 = Xi S 904 15 from by rw [eU1]; exact Xi_ne (by omega))
  rw [w3]
  refine l_imul rfl ?_
  refine l_lload_n rfl rfl ?_
  refine l_lastore (n := 900) rfl rfl (by omega) (by omega) (by unfold rg; omega) ?_
  obtain ⟨U2, eU2⟩ : ∃ T : sS, T = uJ U1 913 (((3 * (Xi S 904 15))).toNat) (Int64.ofInt a) := ⟨_, rfl⟩
  rw [← eU2]
  have hHU2 : HI U2 := by rw [eU2]; exact HI_J hHU1
  have hFU2 : FR md_mo_tell__2 S U2 := by rw [eU2]; exact FR.wJ hFU1 (mdf_i (r := (913, 914, 0, 100000)) (List.mem_of_getElem? (i := 2) rfl) (inR_i (by omega) (by omega) (by omega) (by omega)))
  refine l_aload_n rfl rfl ?_
  refine l_gfr rfl rfl rfl rfl rfl (hHU2.r 904 11 913 rfl) ?_
  refine l_iconst rfl ?_
  refine l_aload_n rfl rfl ?_
  refine l_gfi rfl rfl rfl rfl rfl ?_
  have w4 : (Xi U2 904 15) = (Xi S 904 15) := (show Xi U2 904 15 = Xi U1 904 15 from by rw [eU2]; rfl).trans ((show Xi U1 904 15 = Xi S 904 15 from by rw [eU1]; exact Xi_ne (by omega)))
  rw [w4]
  refine l_imul rfl ?_
  refine l_iconst rfl ?_
  refine l_iadd rfl ?_
  refine l_lload rfl rfl ?_
  refine l_lastore (n := 900) rfl rfl (by omega) (by omega) (by unfold rg; omega) ?_
  obtain ⟨U3, eU3⟩ : ∃ T : sS, T = uJ U2 913 ((((3 * (Xi S 904 15)) + 1)).toNat) (Int64.ofInt b) := ⟨_, rfl⟩
  rw [← eU3]
  have hHU3 : HI U3 := by rw [eU3]; exact HI_J hHU2
  have hFU3 : FR md_mo_tell__2 S U3 := by rw [eU3]; exact FR.wJ hFU2 (mdf_i (r := (913, 914, 0, 100000)) (List.mem_of_getElem? (i := 2) rfl) (inR_i (by omega) (by omega) (by omega) (by omega)))
  refine l_aload_n rfl rfl ?_
  refine l_gfr rfl rfl rfl rfl rfl (hHU3.r 904 11 913 rfl) ?_
  refine l_iconst rfl ?_
  refine l_aload_n rfl rfl ?_
  refine l_gfi rfl rfl rfl rfl rfl ?_
  have w5 : (Xi U3 904 15) = (Xi S 904 15) := (show Xi U3 904 15 = Xi U2 904 15 from by rw [eU3]; rfl).trans ( (show Xi U2 904 15 = Xi U1 904 15 from by rw [eU2]; rfl).trans ((show Xi U1 904 15 = Xi S 904 15 from by rw [eU1]; exact Xi_ne (by omega))))
  rw [w5]
  refine l_imul rfl ?_
  refine l_iconst rfl ?_
  refine l_iadd rfl ?_
  refine l_lload rfl rfl ?_
  refine l_lastore (n := 900) rfl rfl (by omega) (by omega) (by unfold rg; omega) ?_
  obtain ⟨U4, eU4⟩ : ∃ T : sS, T = uJ U3 913 ((((3 * (Xi S 904 15)) + 2)).toNat) (Int64.ofInt c) := ⟨_, rfl⟩
  rw [← eU4]
  have hHU4 : HI U4 := by rw [eU4]; exact HI_J hHU3
  have hFU4 : FR md_mo_tell__2 S U4 := by rw [eU4]; exact FR.wJ hFU3 (mdf_i (r := (913, 914, 0, 100000)) (List.mem_of_getElem? (i := 2) rfl) (inR_i (by omega) (by omega) (by omega) (by omega)))
  refine l_aload_n rfl rfl ?_
  refine l_gfr rfl rfl rfl rfl rfl (hHU4.r 904 12 914 rfl) ?_
  refine l_aload_n rfl rfl ?_
  refine l_gfi rfl rfl rfl rfl rfl ?_
  have w6 : (Xi U4 904 15) = (Xi S 904 15) := (show Xi U4 904 15 = Xi U3 904 15 from by rw [eU4]; rfl).trans ( (show Xi U3 904 15 = Xi U2 904 15 from by rw [eU3]; rfl).trans ( (show Xi U2 904 15 = Xi U1 904 15 from by rw [eU2]; rfl).trans ((show Xi U1 904 15 = Xi S 904 15 from by rw [eU1]; exact Xi_ne (by omega)))))
  rw [w6]
  refine l_iload_n rfl rfl ?_
  refine l_iastore (n := 300) rfl rfl (by omega) (by omega) (by unfold rg; omega) ?_
  obtain ⟨U5, eU5⟩ : ∃ T : sS, T = uI U4 914 (((Xi S 904 15)).toNat) (Int32.ofInt so) := ⟨_, rfl⟩
  rw [← eU5]
  have hHU5 : HI U5 := by rw [eU5]; exact HI_w hHU4 (show 0 ≤ so by omega) (show so ≤ 12 by omega)
  have hFU5 : FR md_mo_tell__2 S U5 := by rw [eU5]; exact FR.wI hFU4 (mdf_i (r := (914, 915, 0, 100000)) (List.mem_of_getElem? (i := 3) rfl) (inR_i (by omega) (by omega) (by omega) (by omega)))
  have w7 : Xi U5 914 (((Xi S 904 15)).toNat) = so := by rw [eU5]; exact Xi_same (by unfold rg; omega)
  refine l_aload_n rfl rfl ?_
  refine l_gfr rfl rfl rfl rfl rfl (hHU5.r 904 13 915 rfl) ?_
  refine l_aload_n rfl rfl ?_
  refine l_gfi rfl rfl rfl rfl rfl ?_
  have w8 : (Xi U5 904 15) = (Xi S 904 15) := (show Xi U5 904 15 = Xi U4 904 15 from by rw [eU5]; exact Xi_ne (by omega)).trans ( (show Xi U4 904 15 = Xi U3 904 15 from by rw [eU4]; rfl).trans ( (show Xi U3 904 15 = Xi U2 904 15 from by rw [eU3]; rfl).trans ( (show Xi U2 904 15 = Xi U1 904 15 from by rw [eU2]; rfl).trans ((show Xi U1 904 15 = Xi S 904 15 from by rw [eU1]; exact Xi_ne (by omega))))))
  rw [w8]
  refine l_iload_n rfl rfl ?_
  refine l_iastore (n := 300) rfl rfl (by omega) (by omega) (by unfold rg; omega) ?_
  obtain ⟨U6, eU6⟩ : ∃ T : sS, T = uI U5 915 (((Xi S 904 15)).toNat) (Int32.ofInt ix) := ⟨_, rfl⟩
  rw [← eU6]
  have hHU6 : HI U6 := by rw [eU6]; exact HI_w hHU5 (show 0 ≤ ix by omega) (show ix ≤ 63 by omega)
  have hFU6 : FR md_mo_tell__2 S U6 := by rw [eU6]; exact FR.wI hFU5 (mdf_i (r := (915, 916, 0, 100000)) (List.mem_of_getElem? (i := 4) rfl) (inR_i (by omega) (by omega) (by omega) (by omega)))
  have w9 : Xi U6 915 (((Xi S 904 15)).toNat) = ix := by rw [eU6]; exact Xi_same (by unfold rg; omega)
  refine l_aload_n rfl rfl ?_
  refine l_gfr rfl rfl rfl rfl rfl (hHU6.r 904 14 916 rfl) ?_
  refine l_aload_n rfl rfl ?_
  refine l_gfi rfl rfl rfl rfl rfl ?_
  have w10 : (Xi U6 904 15) = (Xi S 904 15) := (show Xi U6 904 15 = Xi U5 904 15 from by rw [eU6]; exact Xi_ne (by omega)).trans ( (show Xi U5 904 15 = Xi U4 904 15 from by rw [eU5]; exact Xi_ne (by omega)).trans ( (show Xi U4 904 15 = Xi U3 904 15 from by rw [eU4]; rfl).trans ( (show Xi U3 904 15 = Xi U2 904 15 from by rw [eU3]; rfl).trans ( (show Xi U2 904 15 = Xi U1 904 15 from by rw [eU2]; rfl).trans ((show Xi U1 904 15 = Xi S 904 15 from by rw [eU1]; exact Xi_ne (by omega)))))))
  rw [w10]
  refine l_iconst rfl ?_
  refine l_bastoreZ1 (n := 300) rfl rfl (by omega) (by omega) (by unfold rg; omega) ⟨by omega, by omega⟩ ?_
  obtain ⟨U7, eU7⟩ : ∃ T : sS, T = uI U6 916 (((Xi S 904 15)).toNat) (Int32.ofInt 0) := ⟨_, rfl⟩
  rw [← eU7]
  have hHU7 : HI U7 := by rw [eU7]; exact HI_w hHU6 (show 0 ≤ 0 by omega) (show 0 ≤ 1 by omega)
  have hFU7 : FR md_mo_tell__2 S U7 := by rw [eU7]; exact FR.wI hFU6 (mdf_i (r := (916, 917, 0, 100000)) (List.mem_of_getElem? (i := 5) rfl) (inR_i (by omega) (by omega) (by omega) (by omega)))
  have w11 : Xi U7 916 (((Xi S 904 15)).toNat) = 0 := by rw [eU7]; exact Xi_same (by unfold rg; omega)
  refine l_aload_n rfl rfl ?_
  refine l_dup rfl rfl ?_
  refine l_gfi rfl rfl rfl rfl rfl ?_
  have w12 : (Xi U7 904 15) = (Xi S 904 15) := (show Xi U7 904 15 = Xi U6 904 15 from by rw [eU7]; exact Xi_ne (by omega)).trans ( (show Xi U6 904 15 = Xi U5 904 15 from by rw [eU6]; exact Xi_ne (by omega)).trans ( (show Xi U5 904 15 = Xi U4 904 15 from by rw [eU5]; exact Xi_ne (by omega)).trans ( (show Xi U4 904 15 = Xi U3 904 15 from by rw [eU4]; rfl).trans ( (show Xi U3 904 15 = Xi U2 904 15 from by rw [eU3]; rfl).trans ( (show Xi U2 904 15 = Xi U1 904 15 from by rw [eU2]; rfl).trans ((show Xi U1 904 15 = Xi S 904 15 from by rw [eU1]; exact Xi_ne (by omega))))))))
  rw [w12]
  refine l_iconst rfl ?_
  refine l_iadd rfl ?_
  refine l_pfi rfl rfl rfl rfl ?_
  obtain ⟨U8, eU8⟩ : ∃ T : sS, T = uI U7 904 15 (Int32.ofInt ((Xi S 904 15) + 1)) := ⟨_, rfl⟩
  rw [← eU8]
  have hHU8 : HI U8 := by rw [eU8]; exact HI_w hHU7 (show 0 ≤ ((Xi S 904 15) + 1) by omega) (show ((Xi S 904 15) + 1) ≤ 300 by omega)
  have hFU8 : FR md_mo_tell__2 S U8 := by rw [eU8]; exact FR.wI hFU7 (mdf_i (r := (904, 905, 15, 16)) (List.mem_of_getElem? (i := 0) rfl) (inR_i (by omega) (by omega) (by omega) (by omega)))
  have w13 : Xi U8 904 15 = ((Xi S 904 15) + 1) := by rw [eU8]; exact Xi_same (by unfold rg; omega)
  refine l_return rfl rfl ?_
  have w14 : Xi U8 914 (Xi S 904 15).toNat = Xi U5 914 (Xi S 904 15).toNat := (show Xi U8 914 (Xi S 904 15).toNat = Xi U7 914 (Xi S 904 15).toNat from by rw [eU8]; exact Xi_ne (by omega)).trans ( (show Xi U7 914 (Xi S 904 15).toNat = Xi U6 914 (Xi S 904 15).toNat from by rw [eU7]; exact Xi_ne (by omega)).trans ((show Xi U6 914 (Xi S 904 15).toNat = Xi U5 914 (Xi S 904 15).toNat from by rw [eU6]; exact Xi_ne (by omega))))
  have w15 : Xi U8 915 (Xi S 904 15).toNat = Xi U6 915 (Xi S 904 15).toNat := (show Xi U8 915 (Xi S 904 15).toNat = Xi U7 915 (Xi S 904 15).toNat from by rw [eU8]; exact Xi_ne (by omega)).trans ((show Xi U7 915 (Xi S 904 15).toNat = Xi U6 915 (Xi S 904 15).toNat from by rw [eU7]; exact Xi_ne (by omega)))
  have w16 : 0 ≤ Xi U8 904 15 ∧ Xi U8 904 15 ≤ 300 := hHU8.c _ _
  exact ⟨hHU8, hFU8, rfl, (by omega), (by omega), (LXK.t (by omega) eU1 eU2 eU3 eU4 eU5 eU6 eU7 eU8), (LXO.t (by omega) eU1 eU2 eU3 eU4 eU5 eU6 eU7 eU8)⟩
def md_mo_tellTokens__2 : List rec := [(904, 905, 15, 16), (912, 913, 0, 100000), (913, 914, 0, 100000), (914, 915, 0, 100000), (915, 916, 0, 100000), (916, 917, 0, 100000)]
abbrev Q_mo_tellTokens__2 (S : sS) (so : Int) (ix : Int) (t : Int) (m : Int) : pst := fun r S1 => HI S1 ∧ FR md_mo_tellTokens__2 S S1 ∧ (r = none ∧ (Xi S1 904 15 = Xi S 904 15 + 1) ∧ (Xi S1 914 (Xi S 904 15).toNat = so ∧ Xi S1 915 (Xi S 904 15).toNat = ix) ∧ (LXK S1 S (Xi S 904 15)) ∧ (LXO S1 S (Xi S 904 15)))
set_option maxRecDepth 100000 in
theorem t_mo_tellTokens__2 {S : sS} (hH : HI S) (so : Int) (ix : Int) (t : Int) (m : Int) (hso : 0 ≤ so ∧ so ≤ 12) (hix : 0 ≤ ix ∧ ix ≤ 63) (ht : 0 ≤ t ∧ t ≤ 5001) (hm : 1 ≤ m ∧ m ≤ 3) (hle : Xi S 904 15 ≤ 299) (ht : t + m ≤ 5002) (d : Nat) : Mt lay0 (d + 2) m_mo_tellTokens [.ref 904, iv so, iv ix, iv t, iv m] S (Q_mo_tellTokens__2 S so ix t m) := by
  refine Mt_R rfl rfl ?_
  have hF : FR md_mo_tellTokens__2 S S := FR.rf
  have w1 : 0 ≤ Xi S 904 15 ∧ Xi S 904 15 ≤ 300 := hH.c _ _
  refine l_aload_n rfl rfl ?_
  refine l_iload_n rfl rfl ?_
  refine l_iload_n rfl rfl ?_
  refine l_aload_n rfl rfl ?_
  refine l_gfr rfl rfl rfl rfl rfl (hH.r 904 7 910 rfl) ?_
  refine l_iload_n rfl rfl ?_
  refine l_laload (n := 5002) rfl rfl (by omega) (by omega) (by unfold rg; omega) ?_
  have w2 : -9223372036854775808 ≤ (Xj S 910 ((t).toNat)) ∧ (Xj S 910 ((t).toNat)) < 9223372036854775808 := Xj_rg
  refine l_iload rfl rfl ?_
  refine l_iconst rfl ?_
  refine l_icmp_le rfl rfl (by unfold rg; omega) (by unfold rg; omega) (fun w3 => ?_) (fun w4 => ?_)
  · refine l_lconst (z := 0) rfl rfl ?_
    refine l_iload rfl rfl ?_
    refine l_iconst rfl ?_
    refine l_icmp_le rfl rfl (by unfold rg; omega) (by unfold rg; omega) (fun w5 => ?_) (fun w6 => ?_)
    · refine l_lconst (z := 0) rfl rfl ?_
      refine l_iload rfl rfl ?_
      refine l_callV rfl rfl rfl (t_mo_tell__2 hH so ix (Xj S 910 ((t).toNat)) 0 0 m ⟨by omega, by omega⟩ ⟨by omega, by omega⟩ ⟨by omega, by omega⟩ (by first | assumption | omega) _) ?_
      rintro _ T1 ⟨hHT1, w13, rfl, w8, w9, w10, w11⟩
      have hFT1 : FR md_mo_tellTokens__2 S T1 := FR.tr hF w13 rfl
      show Rl _ _ _ _ _ [] _ _
      refine l_return rfl rfl ?_
      have w14 : 0 ≤ Xi T1 904 15 ∧ Xi T1 904 15 ≤ 300 := hHT1.c _ _
      exact ⟨hHT1, hFT1, rfl, (by first | assumption | omega), (by first | assumption | omega), (by first | assumption | omega), (by assumption)⟩
    · refine l_aload_n rfl rfl ?_
      refine l_gfr rfl rfl rfl rfl rfl (hH.r 904 7 910 rfl) ?_
      refine l_iload_n rfl rfl ?_
      refine l_iconst rfl ?_
      refine l_iadd rfl ?_
      refine l_laload (n := 5002) rfl rfl (by omega) (by omega) (by unfold rg; omega) ?_
      have w15 : -9223372036854775808 ≤ (Xj S 910 (((t + 2)).toNat)) ∧ (Xj S 910 (((t + 2)).toNat)) < 9223372036854775808 := Xj_rg
      refine l_goto rfl rfl ?_
      refine l_iload rfl rfl ?_
      refine l_callV rfl rfl rfl (t_mo_tell__2 hH so ix (Xj S 910 ((t).toNat)) 0 (Xj S 910 (((t + 2)).toNat)) m ⟨by omega, by omega⟩ ⟨by omega, by omega⟩ ⟨by omega, by omega⟩ (by first | assumption | omega) _) ?_
      rintro _ T2 ⟨hHT2, w22, rfl, w17, w18, w19, w20⟩
      have hFT2 : FR md_mo_tellTokens__2 S T2 := FR.tr hF w22 rfl
      show Rl _ _ _ _ _ [] _ _
      refine l_return rfl rfl ?_
      have w23 : 0 ≤ Xi T2 904 15 ∧ Xi T2 904 15 ≤ 300 := hHT2.c _ _
      exact ⟨hHT2, hFT2, rfl, (by first | assumption | omega), (by first | assumption | omega), (by first | assumption | omega), (by assumption)⟩
  · refine l_aload_n rfl rfl ?_
    refine l_gfr rfl rfl rfl rfl rfl (hH.r 904 7 910 rfl) ?_
    refine l_iload_n rfl rfl ?_
    refine l_iconst rfl ?_
    refine l_iadd rfl ?_
    refine l_laload (n := 5002) rfl rfl (by omega) (by omega) (by unfold rg; omega) ?_
    have w24 : -9223372036854775808 ≤ (Xj S 910 (((t + 1)).toNat)) ∧ (Xj S 910 (((t + 1)).toNat)) < 9223372036854775808 := Xj_rg
    refine l_goto rfl rfl ?_
    refine l_iload rfl rfl ?_
    refine l_iconst rfl ?_
    refine l_icmp_le rfl rfl (by unfold rg; omega) (by unfold rg; omega) (fun w25 => ?_) (fun w26 => ?_)
    · refine l_lconst (z := 0) rfl rfl ?_
      refine l_iload rfl rfl ?_
      refine l_callV rfl rfl rfl (t_mo_tell__2 hH so ix (Xj S 910 ((t).toNat)) (Xj S 910 (((t + 1)).toNat)) 0 m ⟨by omega, by omega⟩ ⟨by omega, by omega⟩ ⟨by omega, by omega⟩ (by first | assumption | omega) _) ?_
      rintro _ T3 ⟨hHT3, w33, rfl, w28, w29, w30, w31⟩
      have hFT3 : FR md_mo_tellTokens__2 S T3 := FR.tr hF w33 rfl
      show Rl _ _ _ _ _ [] _ _
      refine l_return rfl rfl ?_
      have w34 : 0 ≤ Xi T3 904 15 ∧ Xi T3 904 15 ≤ 300 := hHT3.c _ _
      exact ⟨hHT3, hFT3, rfl, (by first | assumption | omega), (by first | assumption | omega), (by first | assumption | omega), (by assumption)⟩
    · refine l_aload_n rfl rfl ?_
      refine l_gfr rfl rfl rfl rfl rfl (hH.r 904 7 910 rfl) ?_
      refine l_iload_n rfl rfl ?_
      refine l_iconst rfl ?_
      refine l_iadd rfl ?_
      refine l_laload (n := 5002) rfl rfl (by omega) (by omega) (by unfold rg; omega) ?_
      have w35 : -9223372036854775808 ≤ (Xj S 910 (((t + 2)).toNat)) ∧ (Xj S 910 (((t + 2)).toNat)) < 9223372036854775808 := Xj_rg
      refine l_goto rfl rfl ?_
      refine l_iload rfl rfl ?_
      refine l_callV rfl rfl rfl (t_mo_tell__2 hH so ix (Xj S 910 ((t).toNat)) (Xj S 910 (((t + 1)).toNat)) (Xj S 910 (((t + 2)).toNat)) m ⟨by omega, by omega⟩ ⟨by omega, by omega⟩ ⟨by omega, by omega⟩ (by first | assumption | omega) _) ?_
      rintro _ T4 ⟨hHT4, w42, rfl, w37, w38, w39, w40⟩
      have hFT4 : FR md_mo_tellTokens__2 S T4 := FR.tr hF w42 rfl
      show Rl _ _ _ _ _ [] _ _
      refine l_return rfl rfl ?_
      have w43 : 0 ≤ Xi T4 904 15 ∧ Xi T4 904 15 ≤ 300 := hHT4.c _ _
      exact ⟨hHT4, hFT4, rfl, (by first | assumption | omega), (by first | assumption | omega), (by first | assumption | omega), (by assumption)⟩
def md_mo_tellRun__2 : List rec := [(904, 905, 15, 16), (912, 913, 0, 100000), (913, 914, 0, 100000), (914, 915, 0, 100000), (915, 916, 0, 100000), (916, 917, 0, 100000)]
abbrev Q_mo_tellRun__2 (S : sS) (n : Nat) (so : Int) (ix : Int) (rn : Int) : pst := fun r S1 => HI S1 ∧ FR md_mo_tellRun__2 S S1 ∧ (r = none ∧ (Xi S1 904 15 = Xi S 904 15 + 1) ∧ (Xi S1 914 (Xi S 904 15).toNat = so ∧ Xi S1 915 (Xi S 904 15).toNat = ix) ∧ (LXK S1 S (Xi S 904 15)) ∧ (LXO S1 S (Xi S 904 15)))
set_option maxRecDepth 100000 in
theorem t_mo_tellRun__2 {S : sS} (hH : HI S) (n : Nat) (so : Int) (ix : Int) (rn : Int) (hso : 0 ≤ so ∧ so ≤ 12) (hix : 0 ≤ ix ∧ ix ≤ 63) (hrn : 0 ≤ rn ∧ rn ≤ 2599) (hT : TK S n) (hv : RNV S n) (hrr : rn < Xi S 904 69) (h3 : Xi S 951 rn.toNat ≤ 3) (hle : Xi S 904 15 ≤ 299) (d : Nat) : Mt lay0 (d + 3) m_mo_tellRun [.ref 904, iv so, iv ix, iv rn] S (Q_mo_tellRun__2 S n so ix rn) := by
  refine Mt_R rfl rfl ?_
  have hF : FR md_mo_tellRun__2 S S := FR.rf
  have w1 : 0 ≤ Xi S 904 15 ∧ Xi S 904 15 ≤ 300 := hH.c _ _
  have w2 : 0 ≤ Xi S 904 69 ∧ Xi S 904 69 ≤ 2600 := hH.c _ _
  have hn5 := hT.1
  have hq := hv rn.toNat (by omega)
  have hq0 : 0 ≤ Xi S 950 rn.toNat ∧ Xi S 950 rn.toNat ≤ 5010 := hH.c 950 rn.toNat
  have hc69 : 0 ≤ Xi S 904 69 ∧ Xi S 904 69 ≤ 2600 := hH.c _ _
  refine l_aload_n rfl rfl ?_
  refine l_iload_n rfl rfl ?_
  refine l_iload_n rfl rfl ?_
  refine l_aload_n rfl rfl ?_
  refine l_gfr rfl rfl rfl rfl rfl (hH.r 904 67 950 rfl) ?_
  refine l_iload_n rfl rfl ?_
  refine l_iaload (n := 2600) rfl rfl (by omega) (by omega) (by unfold rg; omega) ?_
  have w3 : 0 ≤ (Xi S 950 ((rn).toNat)) ∧ (Xi S 950 ((rn).toNat)) ≤ 5010 := hH.c _ _
  refine l_aload_n rfl rfl ?_
  refine l_gfr rfl rfl rfl rfl rfl (hH.r 904 68 951 rfl) ?_
  refine l_iload_n rfl rfl ?_
  refine l_iaload (n := 2600) rfl rfl (by omega) (by omega) (by unfold rg; omega) ?_
  have w4 : 0 ≤ (Xi S 951 ((rn).toNat)) ∧ (Xi S 951 ((rn).toNat)) ≤ 5010 := hH.c _ _
  refine l_callV rfl rfl rfl (t_mo_tellTokens__2 hH so ix (Xi S 950 ((rn).toNat)) (Xi S 951 ((rn).toNat)) ⟨by omega, by omega⟩ ⟨by omega, by omega⟩ ⟨by omega, by omega⟩ ⟨by omega, by omega⟩ (by first | assumption | omega) (by first | assumption | omega) _) ?_
  rintro _ T1 ⟨hHT1, w11, rfl, w6, w7, w8, w9⟩
  have hFT1 : FR md_mo_tellRun__2 S T1 := FR.tr hF w11 rfl
  show Rl _ _ _ _ _ [] _ _
  refine l_return rfl rfl ?_
  have w12 : 0 ≤ Xi T1 904 15 ∧ Xi T1 904 15 ≤ 300 := hHT1.c _ _
  exact ⟨hHT1, hFT1, rfl, (by first | assumption | omega), (by first | assumption | omega), (by first | assumption | omega), (by assumption)⟩
abbrev Q_mo_lexOf__2 (S : sS) (sort : Int) (ix : Int) : pst := fun r S1 => S = S1 ∧ (∃ z : Int, r = some (iv z) ∧ (-1 ≤ z ∧ z ≤ 299) ∧ (z ≠ -1 → z < Xi S 904 15) ∧ (z = -1 → ¬ lxH S sort ix) ∧ (z ≠ -1 → Xi S 914 z.toNat = sort ∧ Xi S 915 z.toNat = ix))
set_option maxRecDepth 100000 in
theorem t_mo_lexOf__2 {S : sS} (hH : HI S) (sort : Int) (ix : Int) (hsort : -2147483648 ≤ sort ∧ sort ≤ 2147483647) (hix : -2147483648 ≤ ix ∧ ix ≤ 2147483647) (d : Nat) : Mt lay0 (d + 1) m_mo_lexOf [.ref 904, iv sort, iv ix] S (Q_mo_lexOf__2 S sort ix) := by
  refine Mt_R rfl rfl ?_
  have w1 : 0 ≤ Xi S 904 15 ∧ Xi S 904 15 ≤ 300 := hH.c _ _
  have C2 : ∀ (n2 : Nat) (v3 : Int), (0 ≤ v3 ∧ v3 ≤ 300) → (v3 ≤ Xi S 904 15) → (∀ k : Nat, (k : Int) < v3 → ¬ (Xi S 914 k = sort ∧ Xi S 915 k = ix)) → n2 = (301 - v3).toNat → Rl lay0 (d + 0) m_mo_lexOf 2 [(0, .ref 904), (1, iv sort), (2, iv ix), (3, iv v3)] [] S (Q_mo_lexOf__2 S sort ix) := by
    intro n2
    induction n2 using Nat.strongRecOn with
    | ind n2 ih2 =>
      intro v3 w2 w3 n2 hm2
      refine l_iload_n rfl rfl ?_
      refine l_aload_n rfl rfl ?_
      refine l_gfi rfl rfl rfl rfl rfl ?_
      refine l_icmp_ge rfl rfl (by unfold rg; omega) (by unfold rg; omega) (fun w4 => ?_) (fun w5 => ?_)
      · refine l_iconst rfl ?_
        refine l_ireturn rfl rfl ?_
        exact ⟨rfl, _, rfl, ⟨by omega, by omega⟩, (by first | assumption | omega), (by first | exact fun q => absurd q (by omega) | exact fun _ h => (by obtain ⟨k, a, b, c⟩ := h; exact n2 k (by omega) ⟨b, c⟩)), (by omega)⟩
      · refine l_aload_n rfl rfl ?_
        refine l_gfr rfl rfl rfl rfl rfl (hH.r 904 12 914 rfl) ?_
        refine l_iload_n rfl rfl ?_
        refine l_iaload (n := 300) rfl rfl (by omega) (by omega) (by unfold rg; omega) ?_
        have w6 : 0 ≤ (Xi S 914 ((v3).toNat)) ∧ (Xi S 914 ((v3).toNat)) ≤ 12 := hH.c _ _
        refine l_iload_n rfl rfl ?_
        refine l_icmp_ne rfl rfl (by unfold rg; omega) (by unfold rg; omega) (fun w7 => ?_) (fun w8 => ?_)
        · refine l_iinc rfl rfl rfl rfl ?_
          refine l_goto rfl rfl ?_
          exact Rl_weak (ih2 _ (by omega) ((v3 + 1)) (by omega) (by omega) (by first | exact fun k hk => absurd hk (by omega) | exact fun k hk => (Int.lt_or_le (k : Int) v3).elim (fun h => n2 k h) (fun h => by rw [show k = (v3).toNat by omega]; omega)) rfl) (And.intro rfl (And.intro rfl (And.intro rfl (And.intro rfl (True.intro)))))
        · refine l_aload_n rfl rfl ?_
          refine l_gfr rfl rfl rfl rfl rfl (hH.r 904 13 915 rfl) ?_
          refine l_iload_n rfl rfl ?_
          refine l_iaload (n := 300) rfl rfl (by omega) (by omega) (by unfold rg; omega) ?_
          have w9 : 0 ≤ (Xi S 915 ((v3).toNat)) ∧ (Xi S 915 ((v3).toNat)) ≤ 63 := hH.c _ _
          refine l_iload_n rfl rfl ?_
          refine l_icmp_ne rfl rfl (by unfold rg; omega) (by unfold rg; omega) (fun w10 => ?_) (fun w11 => ?_)
          · refine l_iinc rfl rfl rfl rfl ?_
            refine l_goto rfl rfl ?_
            exact Rl_weak (ih2 _ (by omega) ((v3 + 1)) (by omega) (by omega) (by first | exact fun k hk => absurd hk (by omega) | exact fun k hk => (Int.lt_or_le (k : Int) v3).elim (fun h => n2 k h) (fun h => by rw [show k = (v3).toNat by omega]; omega)) rfl) (And.intro rfl (And.intro rfl (And.intro rfl (And.intro rfl (True.intro)))))
          · refine l_iload_n rfl rfl ?_
            refine l_ireturn rfl rfl ?_
            exact ⟨rfl, _, rfl, ⟨by omega, by omega⟩, (by first | assumption | omega), (by first | exact fun q => absurd q (by omega) | exact fun _ h => (by obtain ⟨k, a, b, c⟩ := h; exact n2 k (by omega) ⟨b, c⟩)), (by omega)⟩
  refine l_iconst rfl ?_
  refine l_istore_n rfl rfl rfl ?_
  exact Rl_weak (C2 _ (0) (by omega) (by omega) (by first | exact fun k hk => absurd hk (by omega) | exact fun k hk => (Int.lt_or_le (k : Int) v3).elim (fun h => n2 k h) (fun h => by rw [show k = (v3).toNat by omega]; omega)) rfl) (And.intro rfl (And.intro rfl (And.intro rfl (And.intro rfl (True.intro)))))
abbrev Q_mo_typeOrPlural__3 (S : sS) (n : Nat) (rn : Int) : pst := fun r S1 => S = S1 ∧ (∃ z : Int, r = some (iv z) ∧ (-1 ≤ z ∧ z ≤ 7) ∧ (z = r2R S rn 2 3) ∧ (z ≠ -1 → z < Xi S 904 18))
set_option maxRecDepth 100000 in
theorem t_mo_typeOrPlural__3 {S : sS} (hH : HI S) (n : Nat) (rn : Int) (hrn : 0 ≤ rn ∧ rn ≤ 2599) (hT : TK S n) (hv : RNV S n) (hrr : rn < Xi S 904 69) (hM : LXM S) (d : Nat) : Mt lay0 (d + 5) m_mo_typeOrPlural [.ref 904, iv rn] S (Q_mo_typeOrPlural__3 S n rn) := by
  refine Mt_R rfl rfl ?_
  have w1 : 0 ≤ Xi S 904 18 ∧ Xi S 904 18 ≤ 8 := hH.c _ _
  have w2 : 0 ≤ Xi S 904 69 ∧ Xi S 904 69 ≤ 2600 := hH.c _ _
  have hn5 := hT.1
  have hq := hv rn.toNat (by omega)
  have hq0 : 0 ≤ Xi S 950 rn.toNat ∧ Xi S 950 rn.toNat ≤ 5010 := hH.c 950 rn.toNat
  have hc69 : 0 ≤ Xi S 904 69 ∧ Xi S 904 69 ≤ 2600 := hH.c _ _
  have hc16 : 0 ≤ Xi S 904 16 ∧ Xi S 904 16 ≤ 16 := hH.c _ _
  have hc18 : 0 ≤ Xi S 904 18 ∧ Xi S 904 18 ≤ 8 := hH.c _ _
  refine l_aload_n rfl rfl ?_
  refine l_iload_n rfl rfl ?_
  refine l_iconst rfl ?_
  refine l_callV rfl rfl rfl (t_mo_meansRun__2 hH n rn 2 ⟨by omega, by omega⟩ ⟨by omega, by omega⟩ (by first | assumption | exact (by assumption : TK S _)) (by first | assumption | exact (by assumption : RNV S _)) (by first | assumption | omega) (by first | assumption | exact (by assumption : LXM S)) _) ?_
  rintro _ _ ⟨rfl, z6, rfl, w6, w4, w5⟩
  show Rl _ _ _ _ _ [iv z6] _ _
  have x3 : z6 ≠ -1 → z6 < Xi S 904 18 := fun q => by have t := (by assumption : z6 ≠ -1 → z6 < cM S 2) q; rw [cM2] at t; exact t
  refine l_istore_n rfl rfl rfl ?_
  refine l_iload_n rfl rfl ?_
  refine l_iconst rfl ?_
  refine l_icmp_eq rfl rfl (by unfold rg; omega) (by unfold rg; omega) (fun w7 => ?_) (fun w8 => ?_)
  · refine l_aload_n rfl rfl ?_
    refine l_iload_n rfl rfl ?_
    refine l_iconst rfl ?_
    refine l_callV rfl rfl rfl (t_mo_meansRun__2 hH n rn 3 ⟨by omega, by omega⟩ ⟨by omega, by omega⟩ (by first | assumption | exact (by assumption : TK S _)) (by first | assumption | exact (by assumption : RNV S _)) (by first | assumption | omega) (by first | assumption | exact (by assumption : LXM S)) _) ?_
    rintro _ _ ⟨rfl, z12, rfl, w12, w10, w11⟩
    show Rl _ _ _ _ _ [iv z12] _ _
    have x19 : z12 ≠ -1 → z12 < Xi S 904 18 := fun q => by have t := (by assumption : z12 ≠ -1 → z12 < cM S 3) q; rw [cM3] at t; exact t
    refine l_ireturn rfl rfl ?_
    exact ⟨rfl, _, rfl, ⟨by omega, by omega⟩, (by unfold r2R; first | (rw [← (by assumption : _ = rnR S rn 2), if_pos (by omega)]) | (rw [← (by assumption : _ = rnR S rn 2), if_neg (by omega)]; assumption)), (by omega)⟩
  · refine l_iload_n rfl rfl ?_
    refine l_goto rfl rfl ?_
    refine l_ireturn rfl rfl ?_
    exact ⟨rfl, _, rfl, ⟨by omega, by omega⟩, (by unfold r2R; first | (rw [← (by assumption : _ = rnR S rn 2), if_pos (by omega)]) | (rw [← (by assumption : _ = rnR S rn 2), if_neg (by omega)]; assumption)), (by omega)⟩
def md_mo_doPlural : List rec := [(904, 905, 15, 16), (912, 913, 0, 100000), (913, 914, 0, 100000), (914, 915, 0, 100000), (915, 916, 0, 100000), (916, 917, 0, 100000)]
abbrev Q_mo_doPlural (S : sS) (n : Nat) : pst := fun r S1 => HI S1 ∧ FR md_mo_doPlural S S1 ∧ (r = none ∧ (LXM S1) ∧ (LCN S1))
set_option maxRecDepth 100000 in
theorem t_mo_doPlural {S : sS} (hH : HI S) (n : Nat) (hT : TK S n) (hv : RNV S n) (hM : LXM S) (hLC : LCN S) (h2 : 2 ≤ Xi S 904 69) (hs : Xi S 951 1 ≤ 3) (hk : r2R S 0 0 1 ≠ -1 ∨ r2R S 0 2 3 ≠ -1) (d : Nat) : Mt lay0 (d + 6) m_mo_doPlural [.ref 904] S (Q_mo_doPlural S n) := by
  refine Mt_R rfl rfl ?_
  have hF : FR md_mo_doPlural S S := FR.rf
  have w1 : 0 ≤ Xi S 904 16 ∧ Xi S 904 16 ≤ 16 := hH.c _ _
  have w2 : 0 ≤ Xi S 904 18 ∧ Xi S 904 18 ≤ 8 := hH.c _ _
  have w3 : 0 ≤ Xi S 904 69 ∧ Xi S 904 69 ≤ 2600 := hH.c _ _
  have w4 : 0 ≤ Xi S 951 1 ∧ Xi S 951 1 ≤ 5010 := hH.c _ _
  have hn5 := hT.1
  have hc69 : 0 ≤ Xi S 904 69 ∧ Xi S 904 69 ≤ 2600 := hH.c _ _
  have q0 := hv 0 (by omega)
  have q1 := hv 1 (by omega)
  have g0 : 0 ≤ Xi S 950 0 ∧ Xi S 950 0 ≤ 5010 := hH.c 950 0
  have g1 : 0 ≤ Xi S 950 1 ∧ Xi S 950 1 ≤ 5010 := hH.c 950 1
  have hc15 : 0 ≤ Xi S 904 15 ∧ Xi S 904 15 ≤ 300 := hH.c _ _
  have hl9 := lcn_le hH hLC
  have hc16 : 0 ≤ Xi S 904 16 ∧ Xi S 904 16 ≤ 16 := hH.c _ _
  have hc18 : 0 ≤ Xi S 904 18 ∧ Xi S 904 18 ≤ 8 := hH.c _ _
  have C32 : ∀  (v2 : Int) (v3 : Int), (1 ≤ v2 ∧ v2 ≤ 3) → (0 ≤ v3 ∧ v3 ≤ 15) → ((v2 = 1 ∧ 0 ≤ v3 ∧ v3 < Xi S 904 16) ∨ (v2 = 3 ∧ 0 ≤ v3 ∧ v3 < Xi S 904 18)) → Rl lay0 (d + 5) m_mo_doPlural 32 [(0, .ref 904), (2, iv v2), (3, iv v3)] [] S (Q_mo_doPlural S n) := by
    intro v2 v3 w5 w6 h32
    refine l_aload_n rfl rfl ?_
    refine l_iload_n rfl rfl ?_
    refine l_iload_n rfl rfl ?_
    have w7 : 0 ≤ Xi S 904 15 ∧ Xi S 904 15 ≤ 300 := hH.c _ _
    refine l_callV rfl rfl rfl (t_mo_lexOf__2 hH v2 v3 ⟨by omega, by omega⟩ ⟨by omega, by omega⟩ _) ?_
    rintro _ _ ⟨rfl, z9, rfl, w9, w8, n35, y35⟩
    show Rl _ _ _ _ _ [iv z9] _ _
    refine l_istore rfl rfl rfl ?_
    refine l_aload_n rfl rfl ?_
    refine l_gfi rfl rfl rfl rfl rfl ?_
    have w10 : 0 ≤ (Xi S 904 15) ∧ (Xi S 904 15) ≤ 300 := hH.c _ _
    refine l_istore rfl rfl rfl ?_
    refine l_aload_n rfl rfl ?_
    refine l_iload rfl rfl ?_
    refine l_iconst rfl ?_
    refine l_icmp_ne rfl rfl (by unfold rg; omega) (by unfold rg; omega) (fun w11 => ?_) (fun w12 => ?_)
    · refine l_iload rfl rfl ?_
      refine l_pfi rfl rfl rfl rfl ?_
      obtain ⟨U1, eU1⟩ : ∃ T : sS, T = uI S 904 15 (Int32.ofInt z9) := ⟨_, rfl⟩
      rw [← eU1]
      have hHU1 : HI U1 := by rw [eU1]; exact HI_w hH (show 0 ≤ z9 by omega) (show z9 ≤ 300 by omega)
      have hFU1 : FR md_mo_doPlural S U1 := by rw [eU1]; exact FR.wI hF (mdf_i (r := (904, 905, 15, 16)) (List.mem_of_getElem? (i := 0) rfl) (inR_i (by omega) (by omega) (by omega) (by omega)))
      have w13 : Xi U1 904 15 = z9 := by rw [eU1]; exact Xi_same (by unfold rg; omega)
      have s62 : ∀ k, Xi U1 914 k = Xi S 914 k ∧ Xi U1 915 k = Xi S 915 k := fun k => ⟨by rw [eU1, Xi_ne (by omega)], by rw [eU1, Xi_ne (by omega)]⟩
      have c62 : 0 ≤ Xi U1 904 15 ∧ Xi U1 904 15 ≤ 300 := hHU1.c _ _
      refine l_aload_n rfl rfl ?_
      refine l_iload_n rfl rfl ?_
      refine l_iload_n rfl rfl ?_
      refine l_iconst rfl ?_
      have w14 : 0 ≤ Xi U1 904 15 ∧ Xi U1 904 15 ≤ 300 := hHU1.c _ _
      have w15 : Xi U1 904 69 = Xi S 904 69 := (show Xi U1 904 69 = Xi S 904 69 from by rw [eU1]; exact Xi_ne (by omega))
      refine l_callV rfl rfl rfl (t_mo_tellRun__2 hHU1 n v2 v3 1 ⟨by omega, by omega⟩ ⟨by omega, by omega⟩ ⟨by omega, by omega⟩ (by first | assumption | exact (TK_FR hFU1 rfl (by assumption : TK S _))) (by first | assumption | exact (RNV_FR hFU1 rfl (by assumption : RNV S _))) (by first | assumption | omega) (by rw [(hFU1.cx 951 rfl _).1]; exact hs) (by first | assumption | omega) _) ?_
      rintro _ T2 ⟨hHT2, w20, rfl, w17, e69, w18, o69⟩
      have hFT2 : FR md_mo_doPlural S T2 := FR.tr hFU1 w20 rfl
      show Rl _ _ _ _ _ [] _ _
      refine l_aload_n rfl rfl ?_
      refine l_iload rfl rfl ?_
      refine l_iconst rfl ?_
      refine l_icmp_ne rfl rfl (by unfold rg; omega) (by unfold rg; omega) (fun w21 => ?_) (fun w22 => ?_)
      · refine l_iload rfl rfl ?_
        refine l_pfi rfl rfl rfl rfl ?_
        obtain ⟨U3, eU3⟩ : ∃ T : sS, T = uI T2 904 15 (Int32.ofInt (Xi S 904 15)) := ⟨_, rfl⟩
        rw [← eU3]
        have hHU3 : HI U3 := by rw [eU3]; exact HI_w hHT2 (show 0 ≤ (Xi S 904 15) by omega) (show (Xi S 904 15) ≤ 300 by omega)
        have hFU3 : FR md_mo_doPlural S U3 := by rw [eU3]; exact FR.wI hFT2 (mdf_i (r := (904, 905, 15, 16)) (List.mem_of_getElem? (i := 0) rfl) (inR_i (by omega) (by omega) (by omega) (by omega)))
        have w23 : Xi U3 904 15 = (Xi S 904 15) := by rw [eU3]; exact Xi_same (by unfold rg; omega)
        have S88 : ∀ k : Nat, (k : Int) ≠ Xi U1 904 15 → Xi U3 914 k = Xi S 914 k ∧ Xi U3 915 k = Xi S 915 k := fun k hk => ⟨by rw [eU3, Xi_ne (by omega)]; exact (o69 k hk).1.trans (s62 k).1, by rw [eU3, Xi_ne (by omega)]; exact (o69 k hk).2.trans (s62 k).2⟩
        have N88 : Xi U3 914 (Xi U1 904 15).toNat = v2 ∧ Xi U3 915 (Xi U1 904 15).toNat = v3 := ⟨by rw [eU3, Xi_ne (by omega)]; exact e69.1, by rw [eU3, Xi_ne (by omega)]; exact e69.2⟩
        have G88 : GR U3 S := (GR_FR (FR_e eU3) rfl (GR_FR w20 rfl (GR_FR (FR_e eU1) rfl GR.rf)))
        have y88_16 : Xi U3 904 16 = Xi S 904 16 := hFU3.x 904 16 rfl
        have y88_18 : Xi U3 904 18 = Xi S 904 18 := hFU3.x 904 18 rfl
        have y88_19 : Xi U3 904 19 = Xi S 904 19 := hFU3.x 904 19 rfl
        have y88_23 : Xi U3 904 23 = Xi S 904 23 := hFU3.x 904 23 rfl
        have y88_30 : Xi U3 904 30 = Xi S 904 30 := hFU3.x 904 30 rfl
        have y88_32 : Xi U3 904 32 = Xi S 904 32 := hFU3.x 904 32 rfl
        have y88_41 : Xi U3 904 41 = Xi S 904 41 := hFU3.x 904 41 rfl
        have y88_47 : Xi U3 904 47 = Xi S 904 47 := hFU3.x 904 47 rfl
        have y88_49 : Xi U3 904 49 = Xi S 904 49 := hFU3.x 904 49 rfl
        have i88 : v3 < cM U3 v2 := by rcases h32 with ⟨q, _, r⟩ | ⟨q, _, r⟩ <;> rw [q] <;> first | (rw [cM1]; omega) | (rw [cM3]; omega)
        have M88 : LXM U3 := lxm_pl hM G88 S88 N88 (by omega) i88 (by omega)
        have L88 : LCN U3 := lcn_pl hLC S88 N88 (by omega) (by omega) (by omega) (by first | exact Or.inl ⟨by omega, by omega, n35 (by omega)⟩ | exact Or.inr ⟨by omega, by rw [show Xi U1 904 15 = z9 by omega]; exact (y35 (by omega)).1, by rw [show Xi U1 904 15 = z9 by omega]; exact (y35 (by omega)).2⟩) (by omega) (by omega) (by omega) (by omega) (by omega) (by omega) (by omega) (by omega) (by omega) 
        refine l_return rfl rfl ?_
        exact ⟨hHU3, hFU3, rfl, (by first | assumption | exact (by assumption : LXM U3)), (by first | assumption | exact (by assumption : LCN U3))⟩
      · refine l_aload_n rfl rfl ?_
        refine l_gfi rfl rfl rfl rfl rfl ?_
        have w25 : 0 ≤ (Xi T2 904 15) ∧ (Xi T2 904 15) ≤ 300 := hHT2.c _ _
        refine l_goto rfl rfl ?_
        refine l_pfi rfl rfl rfl rfl ?_
        obtain ⟨U4, eU4⟩ : ∃ T : sS, T = uI T2 904 15 (Int32.ofInt (Xi T2 904 15)) := ⟨_, rfl⟩
        rw [← eU4]
        have hHU4 : HI U4 := by rw [eU4]; exact HI_w hHT2 (show 0 ≤ (Xi T2 904 15) by omega) (show (Xi T2 904 15) ≤ 300 by omega)
        have hFU4 : FR md_mo_doPlural S U4 := by rw [eU4]; exact FR.wI hFT2 (mdf_i (r := (904, 905, 15, 16)) (List.mem_of_getElem? (i := 0) rfl) (inR_i (by omega) (by omega) (by omega) (by omega)))
        have w26 : Xi U4 904 15 = (Xi T2 904 15) := by rw [eU4]; exact Xi_same (by unfold rg; omega)
        have S88 : ∀ k : Nat, (k : Int) ≠ Xi U1 904 15 → Xi U4 914 k = Xi S 914 k ∧ Xi U4 915 k = Xi S 915 k := fun k hk => ⟨by rw [eU4, Xi_ne (by omega)]; exact (o69 k hk).1.trans (s62 k).1, by rw [eU4, Xi_ne (by omega)]; exact (o69 k hk).2.trans (s62 k).2⟩
        have N88 : Xi U4 914 (Xi U1 904 15).toNat = v2 ∧ Xi U4 915 (Xi U1 904 15).toNat = v3 := ⟨by rw [eU4, Xi_ne (by omega)]; exact e69.1, by rw [eU4, Xi_ne (by omega)]; exact e69.2⟩
        have G88 : GR U4 S := (GR_FR (FR_e eU4) rfl (GR_FR w20 rfl (GR_FR (FR_e eU1) rfl GR.rf)))
        have y88_16 : Xi U4 904 16 = Xi S 904 16 := hFU4.x 904 16 rfl
        have y88_18 : Xi U4 904 18 = Xi S 904 18 := hFU4.x 904 18 rfl
        have y88_19 : Xi U4 904 19 = Xi S 904 19 := hFU4.x 904 19 rfl
        have y88_23 : Xi U4 904 23 = Xi S 904 23 := hFU4.x 904 23 rfl
        have y88_30 : Xi U4 904 30 = Xi S 904 30 := hFU4.x 904 30 rfl
        have y88_32 : Xi U4 904 32 = Xi S 904 32 := hFU4.x 904 32 rfl
        have y88_41 : Xi U4 904 41 = Xi S 904 41 := hFU4.x 904 41 rfl
        have y88_47 : Xi U4 904 47 = Xi S 904 47 := hFU4.x 904 47 rfl
        have y88_49 : Xi U4 904 49 = Xi S 904 49 := hFU4.x 904 49 rfl
        have i88 : v3 < cM U4 v2 := by rcases h32 with ⟨q, _, r⟩ | ⟨q, _, r⟩ <;> rw [q] <;> first | (rw [cM1]; omega) | (rw [cM3]; omega)
        have M88 : LXM U4 := lxm_pl hM G88 S88 N88 (by omega) i88 (by omega)
        have L88 : LCN U4 := lcn_pl hLC S88 N88 (by omega) (by omega) (by omega) (by first | exact Or.inl ⟨by omega, by omega, n35 (by omega)⟩ | exact Or.inr ⟨by omega, by rw [show Xi U1 904 15 = z9 by omega]; exact (y35 (by omega)).1, by rw [show Xi U1 904 15 = z9 by omega]; exact (y35 (by omega)).2⟩) (by omega) (by omega) (by omega) (by omega) (by omega) (by omega) (by omega) (by omega) (by omega) 
        refine l_return rfl rfl ?_
        exact ⟨hHU4, hFU4, rfl, (by first | assumption | exact (by assumption : LXM U4)), (by first | assumption | exact (by assumption : LCN U4))⟩
    · refine l_aload_n rfl rfl ?_
      refine l_gfi rfl rfl rfl rfl rfl ?_
      refine l_goto rfl rfl ?_
      refine l_pfi rfl rfl rfl rfl ?_
      obtain ⟨U5, eU5⟩ : ∃ T : sS, T = uI S 904 15 (Int32.ofInt (Xi S 904 15)) := ⟨_, rfl⟩
      rw [← eU5]
      have hHU5 : HI U5 := by rw [eU5]; exact HI_w hH (show 0 ≤ (Xi S 904 15) by omega) (show (Xi S 904 15) ≤ 300 by omega)
      have hFU5 : FR md_mo_doPlural S U5 := by rw [eU5]; exact FR.wI hF (mdf_i (r := (904, 905, 15, 16)) (List.mem_of_getElem? (i := 0) rfl) (inR_i (by omega) (by omega) (by omega) (by omega)))
      have w28 : Xi U5 904 15 = (Xi S 904 15) := by rw [eU5]; exact Xi_same (by unfold rg; omega)
      have s62 : ∀ k, Xi U5 914 k = Xi S 914 k ∧ Xi U5 915 k = Xi S 915 k := fun k => ⟨by rw [eU5, Xi_ne (by omega)], by rw [eU5, Xi_ne (by omega)]⟩
      have c62 : 0 ≤ Xi U5 904 15 ∧ Xi U5 904 15 ≤ 300 := hHU5.c _ _
      refine l_aload_n rfl rfl ?_
      refine l_iload_n rfl rfl ?_
      refine l_iload_n rfl rfl ?_
      refine l_iconst rfl ?_
      have w29 : 0 ≤ Xi U5 904 15 ∧ Xi U5 904 15 ≤ 300 := hHU5.c _ _
      have w30 : Xi U5 904 69 = Xi S 904 69 := (show Xi U5 904 69 = Xi S 904 69 from by rw [eU5]; exact Xi_ne (by omega))
      refine l_callV rfl rfl rfl (t_mo_tellRun__2 hHU5 n v2 v3 1 ⟨by omega, by omega⟩ ⟨by omega, by omega⟩ ⟨by omega, by omega⟩ (by first | assumption | exact (TK_FR hFU5 rfl (by assumption : TK S _))) (by first | assumption | exact (RNV_FR hFU5 rfl (by assumption : RNV S _))) (by first | assumption | omega) (by rw [(hFU5.cx 951 rfl _).1]; exact hs) (by first | assumption | omega) _) ?_
      rintro _ T6 ⟨hHT6, w35, rfl, w32, e69, w33, o69⟩
      have hFT6 : FR md_mo_doPlural S T6 := FR.tr hFU5 w35 rfl
      show Rl _ _ _ _ _ [] _ _
      refine l_aload_n rfl rfl ?_
      refine l_iload rfl rfl ?_
      refine l_iconst rfl ?_
      refine l_icmp_ne rfl rfl (by unfold rg; omega) (by unfold rg; omega) (fun w36 => ?_) (fun w37 => ?_)
      · refine l_iload rfl rfl ?_
        refine l_pfi rfl rfl rfl rfl ?_
        obtain ⟨U7, eU7⟩ : ∃ T : sS, T = uI T6 904 15 (Int32.ofInt (Xi S 904 15)) := ⟨_, rfl⟩
        rw [← eU7]
        have hHU7 : HI U7 := by rw [eU7]; exact HI_w hHT6 (show 0 ≤ (Xi S 904 15) by omega) (show (Xi S 904 15) ≤ 300 by omega)
        have hFU7 : FR md_mo_doPlural S U7 := by rw [eU7]; exact FR.wI hFT6 (mdf_i (r := (904, 905, 15, 16)) (List.mem_of_getElem? (i := 0) rfl) (inR_i (by omega) (by omega) (by omega) (by omega)))
        have w38 : Xi U7 904 15 = (Xi S 904 15) := by rw [eU7]; exact Xi_same (by unfold rg; omega)
        have S88 : ∀ k : Nat, (k : Int) ≠ Xi U5 904 15 → Xi U7 914 k = Xi S 914 k ∧ Xi U7 915 k = Xi S 915 k := fun k hk => ⟨by rw [eU7, Xi_ne (by omega)]; exact (o69 k hk).1.trans (s62 k).1, by rw [eU7, Xi_ne (by omega)]; exact (o69 k hk).2.trans (s62 k).2⟩
        have N88 : Xi U7 914 (Xi U5 904 15).toNat = v2 ∧ Xi U7 915 (Xi U5 904 15).toNat = v3 := ⟨by rw [eU7, Xi_ne (by omega)]; exact e69.1, by rw [eU7, Xi_ne (by omega)]; exact e69.2⟩
        have G88 : GR U7 S := (GR_FR (FR_e eU7) rfl (GR_FR w35 rfl (GR_FR (FR_e eU5) rfl GR.rf)))
        have y88_16 : Xi U7 904 16 = Xi S 904 16 := hFU7.x 904 16 rfl
        have y88_18 : Xi U7 904 18 = Xi S 904 18 := hFU7.x 904 18 rfl
        have y88_19 : Xi U7 904 19 = Xi S 904 19 := hFU7.x 904 19 rfl
        have y88_23 : Xi U7 904 23 = Xi S 904 23 := hFU7.x 904 23 rfl
        have y88_30 : Xi U7 904 30 = Xi S 904 30 := hFU7.x 904 30 rfl
        have y88_32 : Xi U7 904 32 = Xi S 904 32 := hFU7.x 904 32 rfl
        have y88_41 : Xi U7 904 41 = Xi S 904 41 := hFU7.x 904 41 rfl
        have y88_47 : Xi U7 904 47 = Xi S 904 47 := hFU7.x 904 47 rfl
        have y88_49 : Xi U7 904 49 = Xi S 904 49 := hFU7.x 904 49 rfl
        have i88 : v3 < cM U7 v2 := by rcases h32 with ⟨q, _, r⟩ | ⟨q, _, r⟩ <;> rw [q] <;> first | (rw [cM1]; omega) | (rw [cM3]; omega)
        have M88 : LXM U7 := lxm_pl hM G88 S88 N88 (by omega) i88 (by omega)
        have L88 : LCN U7 := lcn_pl hLC S88 N88 (by omega) (by omega) (by omega) (by first | exact Or.inl ⟨by omega, by omega, n35 (by omega)⟩ | exact Or.inr ⟨by omega, by rw [show Xi U5 904 15 = z9 by omega]; exact (y35 (by omega)).1, by rw [show Xi U5 904 15 = z9 by omega]; exact (y35 (by omega)).2⟩) (by omega) (by omega) (by omega) (by omega) (by omega) (by omega) (by omega) (by omega) (by omega) 
        refine l_return rfl rfl ?_
        exact ⟨hHU7, hFU7, rfl, (by first | assumption | exact (by assumption : LXM U7)), (by first | assumption | exact (by assumption : LCN U7))⟩
      · refine l_aload_n rfl rfl ?_
        refine l_gfi rfl rfl rfl rfl rfl ?_
        have w40 : 0 ≤ (Xi T6 904 15) ∧ (Xi T6 904 15) ≤ 300 := hHT6.c _ _
        refine l_goto rfl rfl ?_
        refine l_pfi rfl rfl rfl rfl ?_
        obtain ⟨U8, eU8⟩ : ∃ T : sS, T = uI T6 904 15 (Int32.ofInt (Xi T6 904 15)) := ⟨_, rfl⟩
        rw [← eU8]
        have hHU8 : HI U8 := by rw [eU8]; exact HI_w hHT6 (show 0 ≤ (Xi T6 904 15) by omega) (show (Xi T6 904 15) ≤ 300 by omega)
        have hFU8 : FR md_mo_doPlural S U8 := by rw [eU8]; exact FR.wI hFT6 (mdf_i (r := (904, 905, 15, 16)) (List.mem_of_getElem? (i := 0) rfl) (inR_i (by omega) (by omega) (by omega) (by omega)))
        have w41 : Xi U8 904 15 = (Xi T6 904 15) := by rw [eU8]; exact Xi_same (by unfold rg; omega)
        have S88 : ∀ k : Nat, (k : Int) ≠ Xi U5 904 15 → Xi U8 914 k = Xi S 914 k ∧ Xi U8 915 k = Xi S 915 k := fun k hk => ⟨by rw [eU8, Xi_ne (by omega)]; exact (o69 k hk).1.trans (s62 k).1, by rw [eU8, Xi_ne (by omega)]; exact (o69 k hk).2.trans (s62 k).2⟩
        have N88 : Xi U8 914 (Xi U5 904 15).toNat = v2 ∧ Xi U8 915 (Xi U5 904 15).toNat = v3 := ⟨by rw [eU8, Xi_ne (by omega)]; exact e69.1, by rw [eU8, Xi_ne (by omega)]; exact e69.2⟩
        have G88 : GR U8 S := (GR_FR (FR_e eU8) rfl (GR_FR w35 rfl (GR_FR (FR_e eU5) rfl GR.rf)))
        have y88_16 : Xi U8 904 16 = Xi S 904 16 := hFU8.x 904 16 rfl
        have y88_18 : Xi U8 904 18 = Xi S 904 18 := hFU8.x 904 18 rfl
        have y88_19 : Xi U8 904 19 = Xi S 904 19 := hFU8.x 904 19 rfl
        have y88_23 : Xi U8 904 23 = Xi S 904 23 := hFU8.x 904 23 rfl
        have y88_30 : Xi U8 904 30 = Xi S 904 30 := hFU8.x 904 30 rfl
        have y88_32 : Xi U8 904 32 = Xi S 904 32 := hFU8.x 904 32 rfl
        have y88_41 : Xi U8 904 41 = Xi S 904 41 := hFU8.x 904 41 rfl
        have y88_47 : Xi U8 904 47 = Xi S 904 47 := hFU8.x 904 47 rfl
        have y88_49 : Xi U8 904 49 = Xi S 904 49 := hFU8.x 904 49 rfl
        have i88 : v3 < cM U8 v2 := by rcases h32 with ⟨q, _, r⟩ | ⟨q, _, r⟩ <;> rw [q] <;> first | (rw [cM1]; omega) | (rw [cM3]; omega)
        have M88 : LXM U8 := lxm_pl hM G88 S88 N88 (by omega) i88 (by omega)
        have L88 : LCN U8 := lcn_pl hLC S88 N88 (by omega) (by omega) (by omega) (by first | exact Or.inl ⟨by omega, by omega, n35 (by omega)⟩ | exact Or.inr ⟨by omega, by rw [show Xi U5 904 15 = z9 by omega]; exact (y35 (by omega)).1, by rw [show Xi U5 904 15 = z9 by omega]; exact (y35 (by omega)).2⟩) (by omega) (by omega) (by omega) (by omega) (by omega) (by omega) (by omega) (by omega) (by omega) 
        refine l_return rfl rfl ?_
        exact ⟨hHU8, hFU8, rfl, (by first | assumption | exact (by assumption : LXM U8)), (by first | assumption | exact (by assumption : LCN U8))⟩
  refine l_aload_n rfl rfl ?_
  refine l_iconst rfl ?_
  refine l_callV rfl rfl rfl (t_mo_kindOrPlural__2 hH n 0 ⟨by omega, by omega⟩ (by first | assumption | exact (TK_FR hF rfl (by assumption : TK S _))) (by first | assumption | exact (RNV_FR hF rfl (by assumption : RNV S _))) (by first | assumption | omega) (by first | assumption | exact (by assumption : LXM S)) _) ?_
  rintro _ _ ⟨rfl, z48, rfl, w48, w46, w47⟩
  show Rl _ _ _ _ _ [iv z48] _ _
  have r2 : z48 = r2R S 0 0 1 := by assumption
  refine l_istore_n rfl rfl rfl ?_
  refine l_iload_n rfl rfl ?_
  refine l_iconst rfl ?_
  refine l_icmp_eq rfl rfl (by unfold rg; omega) (by unfold rg; omega) (fun w49 => ?_) (fun w50 => ?_)
  · refine l_iconst rfl ?_
    refine l_istore_n rfl rfl rfl ?_
    refine l_iload_n rfl rfl ?_
    refine l_iconst rfl ?_
    refine l_icmp_eq rfl rfl (by unfold rg; omega) (by unfold rg; omega) (fun w51 => ?_) (fun w52 => ?_)
    · refine l_aload_n rfl rfl ?_
      refine l_iconst rfl ?_
      refine l_callV rfl rfl rfl (t_mo_typeOrPlural__3 hH n 0 ⟨by omega, by omega⟩ (by first | assumption | exact (TK_FR hF rfl (by assumption : TK S _))) (by first | assumption | exact (RNV_FR hF rfl (by assumption : RNV S _))) (by first | assumption | omega) (by first | assumption | exact (by assumption : LXM S)) _) ?_
      rintro _ _ ⟨rfl, z58, rfl, w58, w56, w57⟩
      show Rl _ _ _ _ _ [iv z58] _ _
      have r28 : z58 = r2R S 0 2 3 := by assumption
      refine l_istore_n rfl rfl rfl ?_
      have w59 : 0 ≤ Xi S 904 15 ∧ Xi S 904 15 ≤ 300 := hH.c _ _
      exact Rl_weak (C32 (3) (z58) (by omega) (by omega) (by omega)) (And.intro rfl (And.intro rfl (And.intro rfl (True.intro))))
    · refine l_iload_n rfl rfl ?_
      refine l_goto rfl rfl ?_
      refine l_istore_n rfl rfl rfl ?_
      have w60 : 0 ≤ Xi S 904 15 ∧ Xi S 904 15 ≤ 300 := hH.c _ _
      exact Rl_weak (C32 (3) (z48) (by omega) (by omega) (by omega)) (And.intro rfl (And.intro rfl (And.intro rfl (True.intro))))
  · refine l_iconst rfl ?_
    refine l_goto rfl rfl ?_
    refine l_istore_n rfl rfl rfl ?_
    refine l_iload_n rfl rfl ?_
    refine l_iconst rfl ?_
    refine l_icmp_eq rfl rfl (by unfold rg; omega) (by unfold rg; omega) (fun w61 => ?_) (fun w62 => ?_)
    · refine l_aload_n rfl rfl ?_
      refine l_iconst rfl ?_
      refine l_callV rfl rfl rfl (t_mo_typeOrPlural__3 hH n 0 ⟨by omega, by omega⟩ (by first | assumption | exact (TK_FR hF rfl (by assumption : TK S _))) (by first | assumption | exact (RNV_FR hF rfl (by assumption : RNV S _))) (by first | assumption | omega) (by first | assumption | exact (by assumption : LXM S)) _) ?_
      rintro _ _ ⟨rfl, z68, rfl, w68, w66, w67⟩
      show Rl _ _ _ _ _ [iv z68] _ _
      have r28 : z68 = r2R S 0 2 3 := by assumption
      refine l_istore_n rfl rfl rfl ?_
      have w69 : 0 ≤ Xi S 904 15 ∧ Xi S 904 15 ≤ 300 := hH.c _ _
      exact Rl_weak (C32 (1) (z68) (by omega) (by omega) (by omega)) (And.intro rfl (And.intro rfl (And.intro rfl (True.intro))))
    · refine l_iload_n rfl rfl ?_
      refine l_goto rfl rfl ?_
      refine l_istore_n rfl rfl rfl ?_
      have w70 : 0 ≤ Xi S 904 15 ∧ Xi S 904 15 ≤ 300 := hH.c _ _
      exact Rl_weak (C32 (1) (z48) (by omega) (by omega) (by omega)) (And.intro rfl (And.intro rfl (And.intro rfl (True.intro))))
def md_mo_doCommand : List rec := [(904, 905, 55, 56), (946, 947, 0, 100000), (947, 948, 0, 100000), (948, 949, 0, 100000), (949, 950, 0, 100000)]
abbrev Q_mo_doCommand (S : sS) (n : Nat) : pst := fun r S1 => HI S1 ∧ FR md_mo_doCommand S S1 ∧ (r = none)
set_option maxRecDepth 100000 in
theorem t_mo_doCommand {S : sS} (hH : HI S) (n : Nat) (hT : TK S n) (hv : RNV S n) (hM : LXM S) (h : Xi S 904 55 ≤ 19) (h1 : 1 ≤ Xi S 904 69) (ha : rnR S 0 11 ≠ -1) (d : Nat) : Mt lay0 (d + 5) m_mo_doCommand [.ref 904] S (Q_mo_doCommand S n) := by
  refine Mt_R rfl rfl ?_
  have hF : FR md_mo_doCommand S S := FR.rf
  have w1 : 0 ≤ Xi S 904 55 ∧ Xi S 904 55 ≤ 20 := hH.c _ _
  have w2 : 0 ≤ Xi S 904 69 ∧ Xi S 904 69 ≤ 2600 := hH.c _ _
  have hn5 := hT.1
  have hc69 : 0 ≤ Xi S 904 69 ∧ Xi S 904 69 ≤ 2600 := hH.c _ _
  have q0 := hv 0 (by omega)
  have g0 : 0 ≤ Xi S 950 0 ∧ Xi S 950 0 ≤ 5010 := hH.c 950 0
  have hc49 : 0 ≤ Xi S 904 49 ∧ Xi S 904 49 ≤ 12 := hH.c _ _
  have hc55 : 0 ≤ Xi S 904 55 := (hH.c 904 55).1
  refine l_aload_n rfl rfl ?_
  refine l_gfi rfl rfl rfl rfl rfl ?_
  refine l_istore_n rfl rfl rfl ?_
  refine l_aload_n rfl rfl ?_
  refine l_gfr rfl rfl rfl rfl rfl (hH.r 904 56 946 rfl) ?_
  refine l_iload_n rfl rfl ?_
  refine l_aload_n rfl rfl ?_
  refine l_iconst rfl ?_
  refine l_bipush rfl rfl ?_
  refine l_callV rfl rfl rfl (t_mo_meansRun__2 hH n 0 11 ⟨by omega, by omega⟩ ⟨by omega, by omega⟩ (by first | assumption | exact (TK_FR hF rfl (by assumption : TK S _))) (by first | assumption | exact (RNV_FR hF rfl (by assumption : RNV S _))) (by first | assumption | omega) (by first | assumption | exact (LXM_FR hF rfl (by assumption : LXM S))) _) ?_
  rintro _ _ ⟨rfl, z7, rfl, w7, w5, w6⟩
  show Rl _ _ _ _ _ [iv z7, iv (Xi S 904 55), .ref 946] _ _
  have x14 : z7 ≠ -1 → z7 < Xi S 904 49 := fun q => by have t := (by assumption : z7 ≠ -1 → z7 < cM S 11) q; rw [cM11] at t; exact t
  have r14 : z7 = rnR S 0 11 := (by assumption : z7 = rnR S _ _).trans (rnR_FR hF rfl rfl)
  refine l_iastore (n := 20) rfl rfl (by omega) (by omega) (by unfold rg; omega) ?_
  obtain ⟨U1, eU1⟩ : ∃ T : sS, T = uI S 946 (((Xi S 904 55)).toNat) (Int32.ofInt z7) := ⟨_, rfl⟩
  rw [← eU1]
  have hHU1 : HI U1 := by rw [eU1]; exact HI_w hH (show 0 ≤ z7 by omega) (show z7 ≤ 11 by omega)
  have hFU1 : FR md_mo_doCommand S U1 := by rw [eU1]; exact FR.wI hF (mdf_i (r := (946, 947, 0, 100000)) (List.mem_of_getElem? (i := 1) rfl) (inR_i (by omega) (by omega) (by omega) (by omega)))
  have w8 : Xi U1 946 (((Xi S 904 55)).toNat) = z7 := by rw [eU1]; exact Xi_same (by unfold rg; omega)
  refine l_aload_n rfl rfl ?_
  refine l_gfr rfl rfl rfl rfl rfl (hHU1.r 904 57 947 rfl) ?_
  refine l_iload_n rfl rfl ?_
  refine l_aload_n rfl rfl ?_
  refine l_gfi rfl rfl rfl rfl rfl ?_
  have w9 : 0 ≤ (Xi U1 904 151) ∧ (Xi U1 904 151) ≤ 8 := hHU1.c _ _
  refine l_iastore (n := 20) rfl rfl (by omega) (by omega) (by unfold rg; omega) ?_
  obtain ⟨U2, eU2⟩ : ∃ T : sS, T = uI U1 947 (((Xi S 904 55)).toNat) (Int32.ofInt (Xi U1 904 151)) := ⟨_, rfl⟩
  rw [← eU2]
  have hHU2 : HI U2 := by rw [eU2]; exact HI_w hHU1 (show 0 ≤ (Xi U1 904 151) by omega) (show (Xi U1 904 151) ≤ 8 by omega)
  have hFU2 : FR md_mo_doCommand S U2 := by rw [eU2]; exact FR.wI hFU1 (mdf_i (r := (947, 948, 0, 100000)) (List.mem_of_getElem? (i := 2) rfl) (inR_i (by omega) (by omega) (by omega) (by omega)))
  have w10 : Xi U2 947 (((Xi S 904 55)).toNat) = (Xi U1 904 151) := by rw [eU2]; exact Xi_same (by unfold rg; omega)
  refine l_aload_n rfl rfl ?_
  refine l_gfr rfl rfl rfl rfl rfl (hHU2.r 904 59 949 rfl) ?_
  refine l_iload_n rfl rfl ?_
  refine l_aload_n rfl rfl ?_
  refine l_gfi rfl rfl rfl rfl rfl ?_
  have w11 : -2 ≤ (Xi U2 904 153) ∧ (Xi U2 904 153) ≤ 15 := hHU2.c _ _
  refine l_iastore (n := 20) rfl rfl (by omega) (by omega) (by unfold rg; omega) ?_
  obtain ⟨U3, eU3⟩ : ∃ T : sS, T = uI U2 949 (((Xi S 904 55)).toNat) (Int32.ofInt (Xi U2 904 153)) := ⟨_, rfl⟩
  rw [← eU3]
  have hHU3 : HI U3 := by rw [eU3]; exact HI_w hHU2 (show -2 ≤ (Xi U2 904 153) by omega) (show (Xi U2 904 153) ≤ 15 by omega)
  have hFU3 : FR md_mo_doCommand S U3 := by rw [eU3]; exact FR.wI hFU2 (mdf_i (r := (949, 950, 0, 100000)) (List.mem_of_getElem? (i := 4) rfl) (inR_i (by omega) (by omega) (by omega) (by omega)))
  have w12 : Xi U3 949 (((Xi S 904 55)).toNat) = (Xi U2 904 153) := by rw [eU3]; exact Xi_same (by unfold rg; omega)
  refine l_aload_n rfl rfl ?_
  refine l_gfr rfl rfl rfl rfl rfl (hHU3.r 904 152 992 rfl) ?_
  refine l_iconst rfl ?_
  refine l_aload_n rfl rfl ?_
  refine l_gfr rfl rfl rfl rfl rfl (hHU3.r 904 58 948 rfl) ?_
  refine l_bipush rfl rfl ?_
  refine l_iload_n rfl rfl ?_
  refine l_imul rfl ?_
  refine l_bipush rfl rfl ?_
  refine l_acp rfl rfl rfl (acpJ (A := 8) (B := 160) rfl rfl (by omega) (by omega) (by omega) (by omega) (by omega) (by omega) (by omega)) ?_
  obtain ⟨T4, eT4⟩ : ∃ T : sS, T = cpJ U3 992 948 (0 : Int).toNat ((8 * (Xi S 904 55)) : Int).toNat (8 : Int).toNat := ⟨_, rfl⟩
  rw [← eT4]
  have hHT4 : HI T4 := by rw [eT4]; exact HI_cpJ hHU3
  have w13 : FR [(948, 949, 0, 100000)] U3 T4 := by rw [eT4]; exact FR_cpJ (by omega)
  have hFT4 : FR md_mo_doCommand S T4 := FR.tr hFU3 w13 rfl
  refine l_aload_n rfl rfl ?_
  refine l_dup rfl rfl ?_
  refine l_gfi rfl rfl rfl rfl rfl ?_
  have w14 : (Xi T4 904 55) = (Xi S 904 55) := (show Xi T4 904 55 = Xi U3 904 55 from w13.x _ _ rfl).trans ( (show Xi U3 904 55 = Xi U2 904 55 from by rw [eU3]; exact Xi_ne (by omega)).trans ( (show Xi U2 904 55 = Xi U1 904 55 from by rw [eU2]; exact Xi_ne (by omega)).trans ((show Xi U1 904 55 = Xi S 904 55 from by rw [eU1]; exact Xi_ne (by omega)))))
  rw [w14]
  refine l_iconst rfl ?_
  refine l_iadd rfl ?_
  refine l_pfi rfl rfl rfl rfl ?_
  obtain ⟨U5, eU5⟩ : ∃ T : sS, T = uI T4 904 55 (Int32.ofInt ((Xi S 904 55) + 1)) := ⟨_, rfl⟩
  rw [← eU5]
  have hHU5 : HI U5 := by rw [eU5]; exact HI_w hHT4 (show 0 ≤ ((Xi S 904 55) + 1) by omega) (show ((Xi S 904 55) + 1) ≤ 20 by omega)
  have hFU5 : FR md_mo_doCommand S U5 := by rw [eU5]; exact FR.wI hFT4 (mdf_i (r := (904, 905, 55, 56)) (List.mem_of_getElem? (i := 0) rfl) (inR_i (by omega) (by omega) (by omega) (by omega)))
  have w15 : Xi U5 904 55 = ((Xi S 904 55) + 1) := by rw [eU5]; exact Xi_same (by unfold rg; omega)
  refine l_return rfl rfl ?_
  exact ⟨hHU5, hFU5, rfl⟩
def md_mo_doHas : List rec := [(904, 905, 15, 16), (904, 905, 32, 33), (904, 905, 105, 106), (904, 905, 106, 107), (912, 913, 0, 100000), (913, 914, 0, 100000), (914, 915, 0, 100000), (915, 916, 0, 100000), (916, 917, 0, 100000), (928, 929, 0, 100000), (929, 930, 0, 100000)]
abbrev Q_mo_doHas (S : sS) (n : Nat) : pst := fun r S1 => HI S1 ∧ FR md_mo_doHas S S1 ∧ (r = none ∧ (TXM S1) ∧ (LXM S1) ∧ (LCN S1) ∧ (GR S1 S))
set_option maxRecDepth 100000 in
theorem t_mo_doHas {S : sS} (hH : HI S) (n : Nat) (hT : TK S n) (hv : RNV S n) (hM : LXM S) (hX : TXM S) (hLC : LCN S) (h3 : 3 ≤ Xi S 904 69) (hk : rnR S 0 0 ≠ -1) (ht : r2R S 1 2 3 ≠ -1) (hp : rnR S 2 7 = -1 → Xi S 904 32 ≤ 11 ∧ Xi S 951 2 ≤ 3) (d : Nat) : Mt lay0 (d + 6) m_mo_doHas [.ref 904] S (Q_mo_doHas S n) := by
  refine Mt_R rfl rfl ?_
  have hF : FR md_mo_doHas S S := FR.rf
  have w1 : 0 ≤ Xi S 904 32 ∧ Xi S 904 32 ≤ 12 := hH.c _ _
  have w2 : 0 ≤ Xi S 904 69 ∧ Xi S 904 69 ≤ 2600 := hH.c _ _
  have w3 : 0 ≤ Xi S 951 2 ∧ Xi S 951 2 ≤ 5010 := hH.c _ _
  have hn5 := hT.1
  have hc69 : 0 ≤ Xi S 904 69 ∧ Xi S 904 69 ≤ 2600 := hH.c _ _
  have q0 := hv 0 (by omega)
  have q1 := hv 1 (by omega)
  have q2 := hv 2 (by omega)
  have g0 : 0 ≤ Xi S 950 0 ∧ Xi S 950 0 ≤ 5010 := hH.c 950 0
  have g1 : 0 ≤ Xi S 950 1 ∧ Xi S 950 1 ≤ 5010 := hH.c 950 1
  have g2 : 0 ≤ Xi S 950 2 ∧ Xi S 950 2 ≤ 5010 := hH.c 950 2
  have hc15 : 0 ≤ Xi S 904 15 ∧ Xi S 904 15 ≤ 300 := hH.c _ _
  have hl9 := lcn_le hH hLC
  have hc32 : 0 ≤ Xi S 904 32 ∧ Xi S 904 32 ≤ 12 := hH.c _ _
  have hc16 : 0 ≤ Xi S 904 16 ∧ Xi S 904 16 ≤ 16 := hH.c _ _
  refine l_aload_n rfl rfl ?_
  refine l_iconst rfl ?_
  refine l_iconst rfl ?_
  refine l_callV rfl rfl rfl (t_mo_meansRun__2 hH n 0 0 ⟨by omega, by omega⟩ ⟨by omega, by omega⟩ (by first | assumption | exact (TK_FR hF rfl (by assumption : TK S _))) (by first | assumption | exact (RNV_FR hF rfl (by assumption : RNV S _))) (by first | assumption | omega) (by first | assumption | exact (by assumption : LXM S)) _) ?_
  rintro _ _ ⟨rfl, z9, rfl, w9, w7, w8⟩
  show Rl _ _ _ _ _ [iv z9] _ _
  have x3 : z9 ≠ -1 → z9 < Xi S 904 16 := fun q => by have t := (by assumption : z9 ≠ -1 → z9 < cM S 0) q; rw [cM0] at t; exact t
  have r3 : z9 = rnR S 0 0 := by assumption
  refine l_istore_n rfl rfl rfl ?_
  refine l_aload_n rfl rfl ?_
  refine l_iconst rfl ?_
  refine l_callV rfl rfl rfl (t_mo_typeOrPlural__2 hH n 1 ⟨by omega, by omega⟩ (by first | assumption | exact (TK_FR hF rfl (by assumption : TK S _))) (by first | assumption | exact (RNV_FR hF rfl (by assumption : RNV S _))) (by first | assumption | omega) (by first | assumption | exact (by assumption : LXM S)) _) ?_
  rintro _ _ ⟨rfl, z14, rfl, w14, w13⟩
  show Rl _ _ _ _ _ [iv z14] _ _
  have r9 : z14 = r2R S 1 2 3 := by assumption
  refine l_istore_n rfl rfl rfl ?_
  refine l_aload_n rfl rfl ?_
  refine l_iconst rfl ?_
  refine l_bipush rfl rfl ?_
  refine l_callV rfl rfl rfl (t_mo_meansRun__2 hH n 2 7 ⟨by omega, by omega⟩ ⟨by omega, by omega⟩ (by first | assumption | exact (TK_FR hF rfl (by assumption : TK S _))) (by first | assumption | exact (RNV_FR hF rfl (by assumption : RNV S _))) (by first | assumption | omega) (by first | assumption | exact (by assumption : LXM S)) _) ?_
  rintro _ _ ⟨rfl, z20, rfl, w20, w18, w19⟩
  show Rl _ _ _ _ _ [iv z20] _ _
  have x17 : z20 ≠ -1 → z20 < Xi S 904 32 := fun q => by have t := (by assumption : z20 ≠ -1 → z20 < cM S 7) q; rw [cM7] at t; exact t
  have r17 : z20 = rnR S 2 7 := by assumption
  refine l_istore_n rfl rfl rfl ?_
  refine l_iload_n rfl rfl ?_
  refine l_iconst rfl ?_
  refine l_icmp_ne rfl rfl (by unfold rg; omega) (by unfold rg; omega) (fun w21 => ?_) (fun w22 => ?_)
  · refine l_aload_n rfl rfl ?_
    refine l_gfr rfl rfl rfl rfl rfl (hH.r 904 33 928 rfl) ?_
    refine l_iload_n rfl rfl ?_
    refine l_iaload (n := 12) rfl rfl (by omega) (by omega) (by unfold rg; omega) ?_
    have w23 : 0 ≤ (Xi S 928 ((z20).toNat)) ∧ (Xi S 928 ((z20).toNat)) ≤ 7 := hH.c _ _
    refine l_iload_n rfl rfl ?_
    refine l_icmp_eq rfl rfl (by unfold rg; omega) (by unfold rg; omega) (fun w24 => ?_) (fun w25 => ?_)
    · refine l_aload_n rfl rfl ?_
      refine l_gfr rfl rfl rfl rfl rfl (hH.r 904 34 929 rfl) ?_
      refine l_bipush rfl rfl ?_
      refine l_iload_n rfl rfl ?_
      refine l_imul rfl ?_
      refine l_iload_n rfl rfl ?_
      refine l_iadd rfl ?_
      refine l_iconst rfl ?_
      refine l_bastoreZ1 (n := 192) rfl rfl (by omega) (by omega) (by unfold rg; omega) ⟨by omega, by omega⟩ ?_
      obtain ⟨U1, eU1⟩ : ∃ T : sS, T = uI S 929 ((((12 * z9) + z20)).toNat) (Int32.ofInt 1) := ⟨_, rfl⟩
      rw [← eU1]
      have hHU1 : HI U1 := by rw [eU1]; exact HI_w hH (show 0 ≤ 1 by omega) (show 1 ≤ 1 by omega)
      have hFU1 : FR md_mo_doHas S U1 := by rw [eU1]; exact FR.wI hF (mdf_i (r := (929, 930, 0, 100000)) (List.mem_of_getElem? (i := 10) rfl) (inR_i (by omega) (by omega) (by omega) (by omega)))
      have w26 : Xi U1 929 ((((12 * z9) + z20)).toNat) = 1 := by rw [eU1]; exact Xi_same (by unfold rg; omega)
      refine l_return rfl rfl ?_
      exact ⟨hHU1, hFU1, rfl, (by first | assumption | exact (TXM_FR (FR_e eU1) rfl (by assumption : TXM S))), (by first | assumption | exact (LXM_FR (FR_e eU1) rfl (by assumption : LXM S))), (by first | assumption | exact (LCN_FR (FR_e eU1) rfl (by assumption : LCN S))), (by first | exact GR_FR (FR_e eU1) rfl g53 | exact GR_FR hFU1 rfl GR.rf | exact (GR_FR (FR_e eU1) rfl GR.rf))⟩
    · refine l_aload_n rfl rfl ?_
      refine l_iconst rfl ?_
      refine l_aload_n rfl rfl ?_
      refine l_gfr rfl rfl rfl rfl rfl (hH.r 904 67 950 rfl) ?_
      refine l_iconst rfl ?_
      refine l_iaload (n := 2600) rfl rfl (by omega) (by omega) (by unfold rg; omega) ?_
      have w33 : 0 ≤ (Xi S 950 ((0 : Int).toNat)) ∧ (Xi S 950 ((0 : Int).toNat)) ≤ 5010 := hH.c _ _
      have w34 : (Xi S 950 ((0 : Int).toNat)) = Xi S 950 0 := rfl
      have e76 : (Xi S 950 ((0 : Int).toNat)) = Xi S 950 0 := by first | rfl | exact (hF.cx 950 rfl _).1
      refine l_callV rfl rfl rfl (t_mo_wrong hH 5 (Xi S 950 ((0 : Int).toNat)) ⟨by omega, by omega⟩ ⟨by omega, by omega⟩ _) ?_
      rintro _ T2 ⟨hHT2, w40, rfl, w38⟩
      have hFT2 : FR md_mo_doHas S T2 := FR.tr hF w40 rfl
      show Rl _ _ _ _ _ [] _ _
      refine l_return rfl rfl ?_
      have w43 : Xi T2 904 32 = Xi S 904 32 := (show Xi T2 904 32 = Xi S 904 32 from w40.x _ _ rfl)
      exact ⟨hHT2, hFT2, rfl, (by first | assumption | exact (TXM_FR w40 rfl (by assumption : TXM S))), (by first | assumption | exact (LXM_FR w40 rfl (by assumption : LXM S))), (by first | assumption | exact (LCN_FR w40 rfl (by assumption : LCN S))), (by first | exact GR_FR (FR_e rfl) rfl g53 | exact GR_FR hFT2 rfl GR.rf | exact (GR_FR w40 rfl GR.rf))⟩
  · refine l_aload_n rfl rfl ?_
    refine l_gfi rfl rfl rfl rfl rfl ?_
    refine l_istore_n rfl rfl rfl ?_
    refine l_aload_n rfl rfl ?_
    refine l_gfr rfl rfl rfl rfl rfl (hH.r 904 33 928 rfl) ?_
    refine l_iload_n rfl rfl ?_
    refine l_iload_n rfl rfl ?_
    refine l_iastore (n := 12) rfl rfl (by omega) (by omega) (by unfold rg; omega) ?_
    obtain ⟨U3, eU3⟩ : ∃ T : sS, T = uI S 928 (((Xi S 904 32)).toNat) (Int32.ofInt z14) := ⟨_, rfl⟩
    rw [← eU3]
    have hHU3 : HI U3 := by rw [eU3]; exact HI_w hH (show 0 ≤ z14 by omega) (show z14 ≤ 7 by omega)
    have hFU3 : FR md_mo_doHas S U3 := by rw [eU3]; exact FR.wI hF (mdf_i (r := (928, 929, 0, 100000)) (List.mem_of_getElem? (i := 9) rfl) (inR_i (by omega) (by omega) (by omega) (by omega)))
    have w47 : Xi U3 928 (((Xi S 904 32)).toNat) = z14 := by rw [eU3]; exact Xi_same (by unfold rg; omega)
    have g37 : GR U3 S := GR.w GR.rf eU3 (by unfold rg; omega) (by omega)
    have x37 : LXK U3 S (Xi S 904 15) := LXK_FR (FR_e eU3) rfl
    have c37 : Xi U3 904 15 = Xi S 904 15 := by rw [eU3, Xi_ne (by omega)]
    have d37 : Xi U3 904 32 = Xi S 904 32 := by rw [eU3, Xi_ne (by omega)]
    have b37 : ∀ j : Nat, (j : Int) < Xi S 904 32 → Xi U3 928 j = Xi S 928 j := fun j hj => by rw [eU3, Xi_ne (by omega)]
    refine l_aload_n rfl rfl ?_
    refine l_bipush rfl rfl ?_
    refine l_iload_n rfl rfl ?_
    refine l_iconst rfl ?_
    have w48 : Xi U3 904 15 = Xi S 904 15 := (show Xi U3 904 15 = Xi S 904 15 from by rw [eU3]; exact Xi_ne (by omega))
    have w49 : 0 ≤ Xi S 904 15 ∧ Xi S 904 15 ≤ 300 := hH.c _ _
    have w50 : Xi U3 904 32 = Xi S 904 32 := (show Xi U3 904 32 = Xi S 904 32 from by rw [eU3]; exact Xi_ne (by omega))
    have w52 : Xi U3 904 69 = Xi S 904 69 := (show Xi U3 904 69 = Xi S 904 69 from by rw [eU3]; exact Xi_ne (by omega))
    refine l_callV rfl rfl rfl (t_mo_tellRun hHU3 n 7 (Xi S 904 32) 2 ⟨by omega, by omega⟩ ⟨by omega, by omega⟩ ⟨by omega, by omega⟩ (by first | assumption | exact (TK_FR hFU3 rfl (by assumption : TK S _))) (by first | assumption | exact (RNV_FR hFU3 rfl (by assumption : RNV S _))) (by first | assumption | omega) (by rw [(hFU3.cx 951 rfl _).1]; exact (hp (by omega)).2) (by first | assumption | omega) _) ?_
    rintro _ T4 ⟨hHT4, w56, rfl, w54, e43, k43⟩
    have hFT4 : FR md_mo_doHas S T4 := FR.tr hFU3 w56 rfl
    show Rl _ _ _ _ _ [] _ _
    have g43 : GR T4 S := GR_FR (by assumption : FR md_mo_tellRun U3 T4) rfl g37
    have x43 : LXK T4 S (Xi S 904 15) := x37.tr k43 (by omega)
    have b43 : ∀ j : Nat, (j : Int) < Xi S 904 32 → Xi T4 928 j = Xi S 928 j := fun j hj => ((by assumption : FR md_mo_tellRun U3 T4).cx 928 rfl j).1.trans (b37 j hj)
    have z43 : (Xi S 904 32) = Xi S 904 32 := by omega
    have w43 : Xi T4 904 32 = Xi S 904 32 := ((by assumption : FR md_mo_tellRun U3 T4).x 904 32 rfl).trans d37
    refine l_aload_n rfl rfl ?_
    refine l_dup rfl rfl ?_
    refine l_gfi rfl rfl rfl rfl rfl ?_
    have w57 : (Xi T4 904 32) = (Xi S 904 32) := (show Xi T4 904 32 = Xi U3 904 32 from w56.x _ _ rfl).trans ((show Xi U3 904 32 = Xi S 904 32 from by rw [eU3]; exact Xi_ne (by omega)))
    rw [w57]
    refine l_iconst rfl ?_
    refine l_iadd rfl ?_
    refine l_pfi rfl rfl rfl rfl ?_
    obtain ⟨U5, eU5⟩ : ∃ T : sS, T = uI T4 904 32 (Int32.ofInt ((Xi S 904 32) + 1)) := ⟨_, rfl⟩
    rw [← eU5]
    have hHU5 : HI U5 := by rw [eU5]; exact HI_w hHT4 (show 0 ≤ ((Xi S 904 32) + 1) by omega) (show ((Xi S 904 32) + 1) ≤ 12 by omega)
    have hFU5 : FR md_mo_doHas S U5 := by rw [eU5]; exact FR.wI hFT4 (mdf_i (r := (904, 905, 32, 33)) (List.mem_of_getElem? (i := 1) rfl) (inR_i (by omega) (by omega) (by omega) (by omega)))
    have w58 : Xi U5 904 32 = ((Xi S 904 32) + 1) := by rw [eU5]; exact Xi_same (by unfold rg; omega)
    have v53 : Xi U5 904 15 = Xi T4 904 15 := by rw [eU5, Xi_ne (by omega)]
    have g53 : GR U5 S := GR.w g43 eU5 (by unfold rg; omega) (by omega)
    have x53 : LXK U5 S (Xi S 904 15) := x43.fr (FR_e eU5) rfl
    have f53 : Xi U5 904 32 = Xi S 904 32 + 1 := by omega
    have d53 : Xi U5 915 (Xi S 904 15).toNat < cM U5 (Xi U5 914 (Xi S 904 15).toNat) := by rw [show Xi U5 915 (Xi S 904 15).toNat = Xi T4 915 (Xi S 904 15).toNat by rw [eU5, Xi_ne (by omega)], show Xi U5 914 (Xi S 904 15).toNat = Xi T4 914 (Xi S 904 15).toNat by rw [eU5, Xi_ne (by omega)], ← c37, e43.1, e43.2, cM7]; omega
    have M53 : LXM U5 := lxm_gr hM x53 g53 (by omega) (Or.inr ⟨by omega, d53⟩)
    have y53_16 : Xi U5 904 16 = Xi S 904 16 := hFU5.x 904 16 rfl
    have y53_18 : Xi U5 904 18 = Xi S 904 18 := hFU5.x 904 18 rfl
    have y53_19 : Xi U5 904 19 = Xi S 904 19 := hFU5.x 904 19 rfl
    have y53_23 : Xi U5 904 23 = Xi S 904 23 := hFU5.x 904 23 rfl
    have y53_30 : Xi U5 904 30 = Xi S 904 30 := hFU5.x 904 30 rfl
    have y53_41 : Xi U5 904 41 = Xi S 904 41 := hFU5.x 904 41 rfl
    have y53_47 : Xi U5 904 47 = Xi S 904 47 := hFU5.x 904 47 rfl
    have y53_49 : Xi U5 904 49 = Xi S 904 49 := hFU5.x 904 49 rfl
    have L53 : LCN U5 := lcn_i hLC (pls_le x53 (by omega) (by omega) (by omega)) (by omega)
    have X53 : TXM U5 := txm_p hX (by omega) (fun j hj => by rw [eU5, Xi_ne (by omega)]; exact b43 j hj) (fun j => (hFU5.cx 918 rfl j).1) (fun j => (hFU5.cx 930 rfl j).1) (fun j => (hFU5.cx 931 rfl j).1) (fun j => (hFU5.cx 932 rfl j).1) (fun j => (hFU5.cx 933 rfl j).1) (fun j => (hFU5.cx 934 rfl j).1) (fun j => (hFU5.cx 935 rfl j).1) (hFU5.x 904 16 rfl) (hFU5.x 904 19 rfl)
    refine l_goto rfl rfl ?_
    refine l_aload_n rfl rfl ?_
    refine l_gfr rfl rfl rfl rfl rfl (hHU5.r 904 34 929 rfl) ?_
    refine l_bipush rfl rfl ?_
    refine l_iload_n rfl rfl ?_
    refine l_imul rfl ?_
    refine l_iload_n rfl rfl ?_
    refine l_iadd rfl ?_
    refine l_iconst rfl ?_
    refine l_bastoreZ1 (n := 192) rfl rfl (by omega) (by omega) (by unfold rg; omega) ⟨by omega, by omega⟩ ?_
    obtain ⟨U6, eU6⟩ : ∃ T : sS, T = uI U5 929 ((((12 * z9) + (Xi S 904 32))).toNat) (Int32.ofInt 1) := ⟨_, rfl⟩
    rw [← eU6]
    have hHU6 : HI U6 := by rw [eU6]; exact HI_w hHU5 (show 0 ≤ 1 by omega) (show 1 ≤ 1 by omega)
    have hFU6 : FR md_mo_doHas S U6 := by rw [eU6]; exact FR.wI hFU5 (mdf_i (r := (929, 930, 0, 100000)) (List.mem_of_getElem? (i := 10) rfl) (inR_i (by omega) (by omega) (by omega) (by omega)))
    have w59 : Xi U6 929 ((((12 * z9) + (Xi S 904 32))).toNat) = 1 := by rw [eU6]; exact Xi_same (by unfold rg; omega)
    refine l_return rfl rfl ?_
    exact ⟨hHU6, hFU6, rfl, (by first | assumption | exact (TXM_FR (FR_e eU6) rfl (by assumption : TXM U5))), (by first | assumption | exact (LXM_FR (FR_e eU6) rfl (by assumption : LXM U5))), (by first | assumption | exact (LCN_FR (FR_e eU6) rfl (by assumption : LCN U5))), (by first | exact GR_FR (FR_e eU6) rfl g53 | exact GR_FR hFU6 rfl GR.rf | exact (GR_FR (FR_e eU6) rfl (GR.w (GR_FR w56 rfl (GR.w GR.rf eU3 (by unfold rg; omega) (by omega))) eU5 (by unfold rg; omega) (by omega))))⟩
abbrev Q_mo_direction (S : sS) (d0 : Int) : pst := fun r S1 => S = S1 ∧ (∃ (z : Nat) (x : String × Nat × String × List Int32), r = some (.ref (SB + z)) ∧ strT[z]? = some x)
set_option maxRecDepth 100000 in
theorem t_mo_direction {S : sS} (hH : HI S) (d0 : Int) (hd0 : 0 ≤ d0 ∧ d0 ≤ 5) (d : Nat) : Mt lay0 (d + 1) m_mo_direction [iv d0] S (Q_mo_direction S d0) := by
  refine Mt_R rfl rfl ?_
  refine l_iload_n rfl rfl ?_
  refine l_if_ne rfl rfl (by unfold rg; omega) (fun w1 => ?_) (fun w2 => ?_)
  · refine l_iload_n rfl rfl ?_
    refine l_iconst rfl ?_
    refine l_icmp_ne rfl rfl (by unfold rg; omega) (by unfold rg; omega) (fun w3 => ?_) (fun w4 => ?_)
    · refine l_iload_n rfl rfl ?_
      refine l_iconst rfl ?_
      refine l_icmp_ne rfl rfl (by unfold rg; omega) (by unfold rg; omega) (fun w5 => ?_) (fun w6 => ?_)
      · refine l_iload_n rfl rfl ?_
        refine l_iconst rfl ?_
        refine l_icmp_ne rfl rfl (by unfold rg; omega) (by unfold rg; omega) (fun w7 => ?_) (fun w8 => ?_)
        · refine l_iload_n rfl rfl ?_
          refine l_iconst rfl ?_
          refine l_icmp_ne rfl rfl (by unfold rg; omega) (by unfold rg; omega) (fun w9 => ?_) (fun w10 => ?_)
          · refine l_ldcwR (i := 63) rfl rfl ?_
            refine l_areturn rfl rfl ?_
            exact ⟨rfl, _, _, rfl, (show strT[63]? = some _ from rfl)⟩
          · refine l_ldcwR (i := 62) rfl rfl ?_
            refine l_goto rfl rfl ?_
            refine l_areturn rfl rfl ?_
            exact ⟨rfl, _, _, rfl, (show strT[62]? = some _ from rfl)⟩
        · refine l_ldcwR (i := 61) rfl rfl ?_
          refine l_goto rfl rfl ?_
          refine l_areturn rfl rfl ?_
          exact ⟨rfl, _, _, rfl, (show strT[61]? = some _ from rfl)⟩
      · refine l_ldcwR (i := 60) rfl rfl ?_
        refine l_goto rfl rfl ?_
        refine l_areturn rfl rfl ?_
        exact ⟨rfl, _, _, rfl, (show strT[60]? = some _ from rfl)⟩
    · refine l_ldcwR (i := 59) rfl rfl ?_
      refine l_goto rfl rfl ?_
      refine l_areturn rfl rfl ?_
      exact ⟨rfl, _, _, rfl, (show strT[59]? = some _ from rfl)⟩
  · refine l_ldcwR (i := 58) rfl rfl ?_
    refine l_goto rfl rfl ?_
    refine l_areturn rfl rfl ?_
    exact ⟨rfl, _, _, rfl, (show strT[58]? = some _ from rfl)⟩
def md_mo_tellWord : List rec := [(904, 905, 15, 16), (912, 913, 0, 100000), (913, 914, 0, 100000), (914, 915, 0, 100000), (915, 916, 0, 100000), (916, 917, 0, 100000)]
abbrev Q_mo_tellWord (S : sS) (so : Int) (ix : Int) (i : Nat) (xi : String × Nat × String × List Int32) : pst := fun r S1 => HI S1 ∧ FR md_mo_tellWord S S1 ∧ (r = none ∧ (Xi S1 904 15 = Xi S 904 15 + 1) ∧ (Xi S1 914 (Xi S 904 15).toNat = so ∧ Xi S1 915 (Xi S 904 15).toNat = ix) ∧ (LXK S1 S (Xi S 904 15)))
set_option maxRecDepth 100000 in
theorem t_mo_tellWord {S : sS} (hH : HI S) (so : Int) (ix : Int) (i : Nat) (xi : String × Nat × String × List Int32) (hso : 0 ≤ so ∧ so ≤ 12) (hix : 0 ≤ ix ∧ ix ≤ 63) (hi : strT[i]? = some xi) (hle : Xi S 904 15 ≤ 299) (d : Nat) : Mt lay0 (d + 5) m_mo_tellWord [.ref 904, iv so, iv ix, .ref (SB + i)] S (Q_mo_tellWord S so ix i xi) := by
  refine Mt_R rfl rfl ?_
  have hF : FR md_mo_tellWord S S := FR.rf
  have hsli := str_sm hi
  have w1 : 0 ≤ Xi S 904 15 ∧ Xi S 904 15 ≤ 300 := hH.c _ _
  refine l_aload_n rfl rfl ?_
  refine l_iload_n rfl rfl ?_
  refine l_iload_n rfl rfl ?_
  refine l_aload_n rfl rfl ?_
  refine l_callS rfl rfl (by decide) rfl (t_mo_packed hH i xi hi _) ?_
  rintro _ _ ⟨rfl, z2, rfl⟩
  show Rl _ _ _ _ _ [jw z2, iv ix, iv so, .ref 904] _ _
  refine l_lconst (z := 0) rfl rfl ?_
  refine l_lconst (z := 0) rfl rfl ?_
  refine l_iconst rfl ?_
  refine l_callV rfl rfl rfl (t_mo_tell hH so ix z2 0 0 1 ⟨by omega, by omega⟩ ⟨by omega, by omega⟩ ⟨by omega, by omega⟩ (by first | assumption | omega) _) ?_
  rintro _ T1 ⟨hHT1, w8, rfl, w4, w5, w6⟩
  have hFT1 : FR md_mo_tellWord S T1 := FR.tr hF w8 rfl
  show Rl _ _ _ _ _ [] _ _
  refine l_return rfl rfl ?_
  have w9 : 0 ≤ Xi T1 904 15 ∧ Xi T1 904 15 ≤ 300 := hHT1.c _ _
  exact ⟨hHT1, hFT1, rfl, (by first | assumption | omega), (by first | assumption | omega), (by first | assumption | omega)⟩
def md_mo_firstCommand : List rec := [(904, 905, 55, 56), (946, 947, 0, 100000), (947, 948, 0, 100000), (948, 949, 0, 100000), (949, 950, 0, 100000)]
abbrev Q_mo_firstCommand (S : sS) (action : Int) (i : Nat) (xi : String × Nat × String × List Int32) (kind : Int) : pst := fun r S1 => HI S1 ∧ FR md_mo_firstCommand S S1 ∧ (r = none ∧ (Xi S1 904 55 = Xi S 904 55 + 1))
set_option maxRecDepth 100000 in
theorem t_mo_firstCommand {S : sS} (hH : HI S) (action : Int) (i : Nat) (xi : String × Nat × String × List Int32) (kind : Int) (haction : 0 ≤ action ∧ action ≤ 11) (hi : strT[i]? = some xi) (hkind : -2 ≤ kind ∧ kind ≤ 15) (h : Xi S 904 55 ≤ 19) (d : Nat) : Mt lay0 (d + 5) m_mo_firstCommand [.ref 904, iv action, .ref (SB + i), iv kind] S (Q_mo_firstCommand S action i xi kind) := by
  refine Mt_R rfl rfl ?_
  have hF : FR md_mo_firstCommand S S := FR.rf
  have hsli := str_sm hi
  have w1 : 0 ≤ Xi S 904 55 ∧ Xi S 904 55 ≤ 20 := hH.c _ _
  have hc55 : 0 ≤ Xi S 904 55 := (hH.c 904 55).1
  have C41 : ∀  (T1 : sS) (_ : HI T1) (_ : FR md_mo_firstCommand S T1) (v4 : Int) (v5 : Int), (0 ≤ v4 ∧ v4 ≤ 19) → (0 ≤ v5 ∧ v5 ≤ 1) → (v4 = Xi S 904 55) → (Xi T1 904 55 = Xi S 904 55) → (v5 ≤ 1) → Rl lay0 (d + 4) m_mo_firstCommand 41 [(0, .ref 904), (3, iv kind), (4, iv v4), (5, iv v5)] [] T1 (Q_mo_firstCommand S action i xi kind) := by
    intro T1 hHT1 hFT1 v4 v5 w2 w3 w4 w5 w6
    have w7 : 0 ≤ Xi T1 904 55 ∧ Xi T1 904 55 ≤ 20 := hHT1.c _ _
    have C63 : ∀  (T2 : sS) (_ : HI T2) (_ : FR md_mo_firstCommand S T2) (v4 : Int) (v5 : Int), (0 ≤ v4 ∧ v4 ≤ 19) → (0 ≤ v5 ∧ v5 ≤ 2) → (v4 = Xi S 904 55) → (Xi T2 904 55 = Xi S 904 55) → (v5 ≤ 2) → Rl lay0 (d + 4) m_mo_firstCommand 63 [(0, .ref 904), (3, iv kind), (4, iv v4), (5, iv v5)] [] T2 (Q_mo_firstCommand S action i xi kind) := by
      intro T2 hHT2 hFT2 v4 v5 w8 w9 w10 w11 w12
      have w13 : 0 ≤ Xi T2 904 55 ∧ Xi T2 904 55 ≤ 20 := hHT2.c _ _
      refine l_aload_n rfl rfl ?_
      refine l_gfr rfl rfl rfl rfl rfl (hHT2.r 904 57 947 rfl) ?_
      refine l_iload rfl rfl ?_
      refine l_iload rfl rfl ?_
      refine l_iastore (n := 20) rfl rfl (by omega) (by omega) (by unfold rg; omega) ?_
      obtain ⟨U3, eU3⟩ : ∃ T : sS, T = uI T2 947 ((v4).toNat) (Int32.ofInt v5) := ⟨_, rfl⟩
      rw [← eU3]
      have hHU3 : HI U3 := by rw [eU3]; exact HI_w hHT2 (show 0 ≤ v5 by omega) (show v5 ≤ 8 by omega)
      have hFU3 : FR md_mo_firstCommand S U3 := by rw [eU3]; exact FR.wI hFT2 (mdf_i (r := (947, 948, 0, 100000)) (List.mem_of_getElem? (i := 2) rfl) (inR_i (by omega) (by omega) (by omega) (by omega)))
      have w14 : Xi U3 947 ((v4).toNat) = v5 := by rw [eU3]; exact Xi_same (by unfold rg; omega)
      refine l_aload_n rfl rfl ?_
      refine l_gfr rfl rfl rfl rfl rfl (hHU3.r 904 59 949 rfl) ?_
      refine l_iload rfl rfl ?_
      refine l_iload_n rfl rfl ?_
      refine l_iastore (n := 20) rfl rfl (by omega) (by omega) (by unfold rg; omega) ?_
      obtain ⟨U4, eU4⟩ : ∃ T : sS, T = uI U3 949 ((v4).toNat) (Int32.ofInt kind) := ⟨_, rfl⟩
      rw [← eU4]
      have hHU4 : HI U4 := by rw [eU4]; exact HI_w hHU3 (show -2 ≤ kind by omega) (show kind ≤ 15 by omega)
      have hFU4 : FR md_mo_firstCommand S U4 := by rw [eU4]; exact FR.wI hFU3 (mdf_i (r := (949, 950, 0, 100000)) (List.mem_of_getElem? (i := 4) rfl) (inR_i (by omega) (by omega) (by omega) (by omega)))
      have w15 : Xi U4 949 ((v4).toNat) = kind := by rw [eU4]; exact Xi_same (by unfold rg; omega)
      refine l_aload_n rfl rfl ?_
      refine l_dup rfl rfl ?_
      refine l_gfi rfl rfl rfl rfl rfl ?_
      have w16 : (Xi U4 904 55) = (Xi T2 904 55) := (show Xi U4 904 55 = Xi U3 904 55 from by rw [eU4]; exact Xi_ne (by omega)).trans ((show Xi U3 904 55 = Xi T2 904 55 from by rw [eU3]; exact Xi_ne (by omega)))
      rw [w16]
      refine l_iconst rfl ?_
      refine l_iadd rfl ?_
      refine l_pfi rfl rfl rfl rfl ?_
      obtain ⟨U5, eU5⟩ : ∃ T : sS, T = uI U4 904 55 (Int32.ofInt ((Xi T2 904 55) + 1)) := ⟨_, rfl⟩
      rw [← eU5]
      have hHU5 : HI U5 := by rw [eU5]; exact HI_w hHU4 (show 0 ≤ ((Xi T2 904 55) + 1) by omega) (show ((Xi T2 904 55) + 1) ≤ 20 by omega)
      have hFU5 : FR md_mo_firstCommand S U5 := by rw [eU5]; exact FR.wI hFU4 (mdf_i (r := (904, 905, 55, 56)) (List.mem_of_getElem? (i := 0) rfl) (inR_i (by omega) (by omega) (by omega) (by omega)))
      have w17 : Xi U5 904 55 = ((Xi T2 904 55) + 1) := by rw [eU5]; exact Xi_same (by unfold rg; omega)
      refine l_return rfl rfl ?_
      have w18 : 0 ≤ Xi U5 904 55 ∧ Xi U5 904 55 ≤ 20 := hHU5.c _ _
      exact ⟨hHU5, hFU5, rfl, (by first | assumption | omega)⟩
    refine l_iload_n rfl rfl ?_
    refine l_iconst rfl ?_
    refine l_icmp_eq rfl rfl (by unfold rg; omega) (by unfold rg; omega) (fun w19 => ?_) (fun w20 => ?_)
    · have w21 : 0 ≤ Xi T1 904 55 ∧ Xi T1 904 55 ≤ 20 := hHT1.c _ _
      exact Rl_weak (C63 T1 hHT1 hFT1 (v4) (v5) (by omega) (by omega) (by omega) (by omega) (by omega)) (And.intro rfl (And.intro rfl (And.intro rfl (And.intro rfl (True.intro)))))
    · refine l_aload_n rfl rfl ?_
      refine l_gfr rfl rfl rfl rfl rfl (hHT1.r 904 58 948 rfl) ?_
      refine l_bipush rfl rfl ?_
      refine l_iload rfl rfl ?_
      refine l_imul rfl ?_
      refine l_iload rfl rfl ?_
      refine l_iadd rfl ?_
      refine l_lconst (z := 0) rfl rfl ?_
      refine l_lastore (n := 160) rfl rfl (by omega) (by omega) (by unfold rg; omega) ?_
      obtain ⟨U6, eU6⟩ : ∃ T : sS, T = uJ T1 948 ((((8 * v4) + v5)).toNat) (Int64.ofInt 0) := ⟨_, rfl⟩
      rw [← eU6]
      have hHU6 : HI U6 := by rw [eU6]; exact HI_J hHT1
      have hFU6 : FR md_mo_firstCommand S U6 := by rw [eU6]; exact FR.wJ hFT1 (mdf_i (r := (948, 949, 0, 100000)) (List.mem_of_getElem? (i := 3) rfl) (inR_i (by omega) (by omega) (by omega) (by omega)))
      refine l_iinc rfl rfl rfl rfl ?_
      have w22 : Xi U6 904 55 = Xi T1 904 55 := (show Xi U6 904 55 = Xi T1 904 55 from by rw [eU6]; rfl)
      exact Rl_weak (C63 U6 hHU6 hFU6 (v4) ((v5 + 1)) (by omega) (by omega) (by omega) (by omega) (by omega)) (And.intro rfl (And.intro rfl (And.intro rfl (And.intro rfl (True.intro)))))
  refine l_aload_n rfl rfl ?_
  refine l_gfi rfl rfl rfl rfl rfl ?_
  refine l_istore rfl rfl rfl ?_
  refine l_aload_n rfl rfl ?_
  refine l_gfr rfl rfl rfl rfl rfl (hH.r 904 56 946 rfl) ?_
  refine l_iload rfl rfl ?_
  refine l_iload_n rfl rfl ?_
  refine l_iastore (n := 20) rfl rfl (by omega) (by omega) (by unfold rg; omega) ?_
  obtain ⟨U7, eU7⟩ : ∃ T : sS, T = uI S 946 (((Xi S 904 55)).toNat) (Int32.ofInt action) := ⟨_, rfl⟩
  rw [← eU7]
  have hHU7 : HI U7 := by rw [eU7]; exact HI_w hH (show 0 ≤ action by omega) (show action ≤ 11 by omega)
  have hFU7 : FR md_mo_firstCommand S U7 := by rw [eU7]; exact FR.wI hF (mdf_i (r := (946, 947, 0, 100000)) (List.mem_of_getElem? (i := 1) rfl) (inR_i (by omega) (by omega) (by omega) (by omega)))
  have w24 : Xi U7 946 (((Xi S 904 55)).toNat) = action := by rw [eU7]; exact Xi_same (by unfold rg; omega)
  refine l_iconst rfl ?_
  refine l_istore rfl rfl rfl ?_
  refine l_aload_n rfl rfl ?_
  refine l_callT rfl rfl (cOkT0 (str_is hi) rfl) (t_js_length hi _) ?_
  rintro _ _ ⟨rfl, rfl⟩
  show Rl _ _ _ _ _ [iv (xi.2.2.2.length : Int)] _ _
  refine l_if_le rfl rfl (by unfold rg; omega) (fun w26 => ?_) (fun w27 => ?_)
  · have w28 : Xi U7 904 55 = Xi S 904 55 := (show Xi U7 904 55 = Xi S 904 55 from by rw [eU7]; exact Xi_ne (by omega))
    exact Rl_weak (C41 U7 hHU7 hFU7 ((Xi S 904 55)) (0) (by omega) (by omega) (by omega) (by omega) (by omega)) (And.intro rfl (And.intro rfl (And.intro rfl (And.intro rfl (True.intro)))))
  · refine l_aload_n rfl rfl ?_
    refine l_gfr rfl rfl rfl rfl rfl (hHU7.r 904 58 948 rfl) ?_
    refine l_bipush rfl rfl ?_
    refine l_iload rfl rfl ?_
    refine l_imul rfl ?_
    refine l_aload_n rfl rfl ?_
    refine l_callS rfl rfl (by decide) rfl (t_mo_packed hHU7 i xi hi _) ?_
    rintro _ _ ⟨rfl, z32, rfl⟩
    show Rl _ _ _ _ _ [jw z32, iv (8 * (Xi S 904 55)), .ref 948] _ _
    refine l_lastore (n := 160) rfl rfl (by omega) (by omega) (by unfold rg; omega) ?_
    obtain ⟨U8, eU8⟩ : ∃ T : sS, T = uJ U7 948 (((8 * (Xi S 904 55))).toNat) (Int64.ofInt z32) := ⟨_, rfl⟩
    rw [← eU8]
    have hHU8 : HI U8 := by rw [eU8]; exact HI_J hHU7
    have hFU8 : FR md_mo_firstCommand S U8 := by rw [eU8]; exact FR.wJ hFU7 (mdf_i (r := (948, 949, 0, 100000)) (List.mem_of_getElem? (i := 3) rfl) (inR_i (by omega) (by omega) (by omega) (by omega)))
    refine l_iconst rfl ?_
    refine l_istore rfl rfl rfl ?_
    have w33 : Xi U8 904 55 = Xi S 904 55 := (show Xi U8 904 55 = Xi U7 904 55 from by rw [eU8]; rfl).trans ((show Xi U7 904 55 = Xi S 904 55 from by rw [eU7]; exact Xi_ne (by omega)))
    exact Rl_weak (C41 U8 hHU8 hFU8 ((Xi S 904 55)) (1) (by omega) (by omega) (by omega) (by omega) (by omega)) (And.intro rfl (And.intro rfl (And.intro rfl (And.intro rfl (True.intro)))))


