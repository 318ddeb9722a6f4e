/-! SAFETY: the vocabulary -/
/-- of an entry: its number is below its sort's count -/
def lexB (S : sS) (s w : Int) : Prop := 0 ≤ w ∧ (s = 0 → w < Xi S 5 0) ∧ (s = 1 → w < Xi S 5 1) ∧ (s = 2 → w < Xi S 5 2) ∧ (s = 3 → w < Xi S 5 3) ∧ (s = 4 → w < Xi S 5 4) ∧ (s = 5 → w < Xi S 5 5) ∧ (s = 6 → w < Xi S 5 6) ∧ (s = 7 → w < Xi S 5 7) ∧ (s = 8 → w < Xi S 5 8) ∧ (s = 11 → w < Xi S 5 0) ∧ (s = 12 → w < Xi S 5 1) ∧ (s = 13 → w < Xi S 5 7) ∧ (s = 14 → w ≤ 5) ∧ s ≠ 9 ∧ s ≠ 10
def LEX (S : sS) : Prop := ∀ i : Nat, (i : Int) < Xi S 1 3 → lexB S (Xi S 3 i) (Xi S 4 i)
/-- entries that stay as they are -/
def LKEEP (S S1 : sS) : Prop := Xi S 1 3 ≤ Xi S1 1 3 ∧ ∀ i : Nat, (i : Int) < Xi S 1 3 → Xi S1 3 i = Xi S 3 i ∧ Xi S1 4 i = Xi S 4 i ∧ ∀ t, t < 3 → Xj S1 2 (3 * i + t) = Xj S 2 (3 * i + t)
theorem LKEEP.rf {S : sS} : LKEEP S S := ⟨Int.le_refl _, fun _ _ => ⟨rfl, rfl, fun _ _ => rfl⟩⟩
theorem LKEEP.tr {S S1 S2 : sS} (h : LKEEP S S1) (g : LKEEP S1 S2) : LKEEP S S2 := ⟨Int.le_trans h.1 g.1, fun i hi => by
  obtain ⟨a, b, c⟩ := h.2 i hi
  obtain ⟨x, y, z⟩ := g.2 i (Int.lt_of_lt_of_le hi h.1)
  exact ⟨x.trans a, y.trans b, fun t ht => (z t ht).trans (c t ht)⟩⟩
/-- what three words mean -/
def msc (S : sS) (a b c : Int) : Nat → Nat → Int
  | 0, _ => -1
  | m + 1, i => if Xj S 2 (3 * i) = a ∧ Xj S 2 (3 * i + 1) = b ∧ Xj S 2 (3 * i + 2) = c then Xi S 3 i * 256 + Xi S 4 i else msc S a b c m (i + 1)
def mnF (S : sS) (a b c : Int) : Int := msc S a b c (Xi S 1 3).toNat 0
/-- the words of a row, as meaning takes them -/
def mnR (S : sS) (k f n : Nat) : Int := mnF S (Xj S k f) (if 1 < n then Xj S k (f + 1) else 0) (if 2 < n then Xj S k (f + 2) else 0)
theorem msc_keep {S S1 : sS} {a b c : Int} (h : LKEEP S S1) : ∀ (m i : Nat), (i : Int) + m ≤ Xi S 1 3 → msc S1 a b c m i = msc S a b c m i := by
  intro m
  induction m with
  | zero => intro i _; rfl
  | succ m ih =>
    intro i hi
    obtain ⟨x, y, z⟩ := h.2 i (by omega)
    unfold msc
    rw [x, y, show Xj S1 2 (3 * i) = Xj S 2 (3 * i) from z 0 (by omega), show Xj S1 2 (3 * i + 1) = Xj S 2 (3 * i + 1) from z 1 (by omega), show Xj S1 2 (3 * i + 2) = Xj S 2 (3 * i + 2) from z 2 (by omega), ih (i + 1) (by omega)]
theorem msc_more {S : sS} {a b c : Int} : ∀ (m n i : Nat), msc S a b c m i ≠ -1 → msc S a b c (m + n) i = msc S a b c m i := by
  intro m
  induction m with
  | zero => intro n i h; exact absurd rfl h
  | succ m ih =>
    intro n i h
    rw [show m + 1 + n = (m + n) + 1 by omega]
    unfold msc at h ⊢
    split
    · rfl
    · next hh =>
      rw [if_neg hh] at h
      exact ih n (i + 1) h
/-- what means something means it still -/
theorem mnF_keep {S S1 : sS} {a b c : Int} (h : LKEEP S S1) (h0 : 0 ≤ Xi S 1 3) (hm : mnF S a b c ≠ -1) : mnF S1 a b c = mnF S a b c := by
  unfold mnF at hm ⊢
  have e : (Xi S1 1 3).toNat = (Xi S 1 3).toNat + ((Xi S1 1 3).toNat - (Xi S 1 3).toNat) := by have := h.1; omega
  have k := msc_keep (a := a) (b := b) (c := c) h (Xi S 1 3).toNat 0 (by omega)
  rw [e, msc_more _ _ _ (by rw [k]; exact hm), k]
theorem msc_at {S : sS} {a b c : Int} : ∀ (m i : Nat), msc S a b c m i = -1 ∨ ∃ j, i ≤ j ∧ j < i + m ∧ msc S a b c m i = Xi S 3 j * 256 + Xi S 4 j := by
  intro m
  induction m with
  | zero => intro i; exact Or.inl rfl
  | succ m ih =>
    intro i
    unfold msc
    split
    · exact Or.inr ⟨i, by omega, by omega, rfl⟩
    · rcases ih (i + 1) with h | ⟨j, h1, h2, h3⟩
      · exact Or.inl h
      · exact Or.inr ⟨j, by omega, by omega, h3⟩
/-- a meaning: nothing, or a sort and a number -/
def mOK (S : sS) (z : Int) : Prop := z = -1 ∨ ∃ s w : Int, z = s * 256 + w ∧ (0 ≤ s ∧ s ≤ 14) ∧ (0 ≤ w ∧ w ≤ 63) ∧ lexB S s w
theorem mnF_ok {S : sS} {a b c : Int} (hH : HI S) (hL : LEX S) : mOK S (mnF S a b c) := by
  have h0 : 0 ≤ Xi S 1 3 ∧ Xi S 1 3 ≤ 200 := hH.c 1 3
  unfold mnF
  rcases msc_at (S := S) (a := a) (b := b) (c := c) (Xi S 1 3).toNat 0 with h | ⟨j, h1, h2, h3⟩
  · exact Or.inl h
  · have a1 : 0 ≤ Xi S 3 j ∧ Xi S 3 j ≤ 14 := hH.c 3 j
    have a2 : 0 ≤ Xi S 4 j ∧ Xi S 4 j ≤ 63 := hH.c 4 j
    exact Or.inr ⟨_, _, h3, a1, a2, hL j (by omega)⟩
theorem lexB_fr {S S1 : sS} {s w : Int} (h : ∀ j, Xi S1 5 j = Xi S 5 j) (hb : lexB S s w) : lexB S1 s w := by unfold lexB at *; simp only [h]; exact hb
theorem LEX_fr {S S1 : sS} (h1 : Xi S1 1 3 = Xi S 1 3) (h3 : ∀ j, Xi S1 3 j = Xi S 3 j) (h4 : ∀ j, Xi S1 4 j = Xi S 4 j) (h5 : ∀ j, Xi S1 5 j = Xi S 5 j) (hL : LEX S) : LEX S1 := fun i hi => by
  rw [h1] at hi
  rw [h3, h4]
  exact lexB_fr h5 (hL i hi)
/-- no rectangle meets a cell -/
theorem FR.cx {l : List rec} {S S1 : sS} (h : FR l S S1) (k : Nat) (e : l.all (fun r => Nat.ble r.2.1 k || Nat.ble (k + 1) r.1) = true) (j : Nat) : Xi S1 k j = Xi S k j ∧ Xj S1 k j = Xj S k j := by
  have m : mdf l k j = false := by
    unfold mdf
    rw [List.any_eq_false]
    intro r hr
    have z := List.all_eq_true.mp e r hr
    rw [Bool.or_eq_true] at z
    intro q
    unfold inR at q
    simp only [Bool.and_eq_true] at q
    rcases z with z | z
    · have := Nat.le_of_ble_eq_true z; have := Nat.le_of_ble_eq_true q.2.1; omega
    · have := Nat.le_of_ble_eq_true z; have := Nat.le_of_ble_eq_true q.1; omega
  exact ⟨h.x k j m, h.xj k j m⟩
theorem LEX_FR {l : List rec} {S S1 : sS} (h : FR l S S1) (e3 : mdf l 1 3 = false) (e : (l.all (fun r => Nat.ble r.2.1 3 || Nat.ble 4 r.1) && (l.all (fun r => Nat.ble r.2.1 4 || Nat.ble 5 r.1) && l.all (fun r => Nat.ble r.2.1 5 || Nat.ble 6 r.1))) = true) (hL : LEX S) : LEX S1 := by
  rw [Bool.and_eq_true, Bool.and_eq_true] at e
  exact LEX_fr (h.x 1 3 e3) (fun j => (h.cx 3 e.1 j).1) (fun j => (h.cx 4 e.2.1 j).1) (fun j => (h.cx 5 e.2.2 j).1) hL
theorem LKEEP_FR {l : List rec} {S S1 : sS} (h : FR l S S1) (e3 : mdf l 1 3 = false) (e : (l.all (fun r => Nat.ble r.2.1 2 || Nat.ble 3 r.1) && (l.all (fun r => Nat.ble r.2.1 3 || Nat.ble 4 r.1) && l.all (fun r => Nat.ble r.2.1 4 || Nat.ble 5 r.1))) = true) : LKEEP S S1 := by
  rw [Bool.and_eq_true, Bool.and_eq_true] at e
  exact ⟨Int.le_of_eq (h.x 1 3 e3).symm, fun i _ => ⟨(h.cx 3 e.2.1 i).1, (h.cx 4 e.2.2 i).1, fun t _ => (h.cx 2 e.1 _).2⟩⟩
/-- one entry more -/
theorem lex_add {S U : sS} {s w : Int} (hL : LEX S) (h0 : 0 ≤ Xi S 1 3) (hk : ∀ i : Nat, (i : Int) < Xi S 1 3 → Xi U 3 i = Xi S 3 i ∧ Xi U 4 i = Xi S 4 i) (hs : Xi U 3 (Xi S 1 3).toNat = s) (hw : Xi U 4 (Xi S 1 3).toNat = w) (h5 : ∀ j, Xi U 5 j = Xi S 5 j) (he : Xi U 1 3 = Xi S 1 3 + 1) (hb : lexB S s w) : LEX U := fun i hi => by
  rw [he] at hi
  rcases (by omega : (i : Int) < Xi S 1 3 ∨ i = (Xi S 1 3).toNat) with h | h
  · rw [(hk i h).1, (hk i h).2]; exact lexB_fr h5 (hL i h)
  · rw [h, hs, hw]; exact lexB_fr h5 hb
theorem alen_z {n : Nat} : Int32.ofNat n = Int32.ofInt (n : Int) := by
  show Int32.ofBitVec (BitVec.ofNat 32 n) = Int32.ofBitVec (BitVec.ofInt 32 (n : Int))
  rw [BitVec.ofInt_natCast]
theorem sv_k {k : Nat} (h : k < 2000) : Nat.ble SV k = false := by
  cases e : Nat.ble SV k with
  | false => rfl
  | true => have := Nat.le_of_ble_eq_true e; unfold SV at this; omega
theorem msc_s {S : sS} {a b c : Int} {n v : Int} (h0 : 0 ≤ v) (hv : v < n) (hne : ¬ (Xj S 2 (3 * v).toNat = a ∧ Xj S 2 (3 * v + 1).toNat = b ∧ Xj S 2 (3 * v + 2).toNat = c)) : msc S a b c (n - v).toNat v.toNat = msc S a b c (n - (v + 1)).toNat (v + 1).toNat := by
  have e : (n - v).toNat = (n - (v + 1)).toNat + 1 := by omega
  have e1 : (3 * v).toNat = 3 * v.toNat := by omega
  have e2 : (3 * v + 1).toNat = 3 * v.toNat + 1 := by omega
  have e3 : (3 * v + 2).toNat = 3 * v.toNat + 2 := by omega
  have e4 : (v + 1).toNat = v.toNat + 1 := by omega
  rw [e1, e2, e3] at hne
  rw [e, e4]
  conv => lhs; unfold msc
  rw [if_neg hne]
theorem msc_f {S : sS} {a b c : Int} {n v : Int} (h0 : 0 ≤ v) (hv : v < n) (h1 : Xj S 2 (3 * v).toNat = a) (h2 : Xj S 2 (3 * v + 1).toNat = b) (h3 : Xj S 2 (3 * v + 2).toNat = c) : msc S a b c (n - v).toNat v.toNat = Xi S 3 v.toNat * 256 + Xi S 4 v.toNat := by
  have e : (n - v).toNat = (n - (v + 1)).toNat + 1 := by omega
  have e1 : (3 * v).toNat = 3 * v.toNat := by omega
  have e2 : (3 * v + 1).toNat = 3 * v.toNat + 1 := by omega
  have e3 : (3 * v + 2).toNat = 3 * v.toNat + 2 := by omega
  rw [e1] at h1
  rw [e2] at h2
  rw [e3] at h3
  rw [e]
  unfold msc
  rw [if_pos ⟨h1, h2, h3⟩]
theorem msc_e {S : sS} {a b c : Int} {n v : Int} (hv : n ≤ v) : msc S a b c (n - v).toNat v.toNat = -1 := by
  have e : (n - v).toNat = 0 := by omega
  rw [e]
  rfl
theorem mn_a {S : sS} {k : Nat} {f n : Int} (h : n ≤ 1) : mnR S k f.toNat n.toNat = msc S (Xj S k f.toNat) 0 0 (Xi S 1 3 - 0).toNat (0 : Int).toNat := by
  unfold mnR mnF
  rw [if_neg (by omega), if_neg (by omega), Int.sub_zero]
  rfl
theorem mn_b {S : sS} {k : Nat} {f n : Int} (h0 : 0 ≤ f) (h : 1 < n) (h2 : n ≤ 2) : mnR S k f.toNat n.toNat = msc S (Xj S k f.toNat) (Xj S k (f + 1).toNat) 0 (Xi S 1 3 - 0).toNat (0 : Int).toNat := by
  unfold mnR mnF
  rw [if_pos (by omega), if_neg (by omega), Int.sub_zero, show (f + 1).toNat = f.toNat + 1 by omega]
  rfl
theorem mn_c {S : sS} {k : Nat} {f n : Int} (h0 : 0 ≤ f) (h : 2 < n) : mnR S k f.toNat n.toNat = msc S (Xj S k f.toNat) (Xj S k (f + 1).toNat) (Xj S k (f + 2).toNat) (Xi S 1 3 - 0).toNat (0 : Int).toNat := by
  unfold mnR mnF
  rw [if_pos (by omega), if_pos (by omega), Int.sub_zero, show (f + 1).toNat = f.toNat + 1 by omega, show (f + 2).toNat = f.toNat + 2 by omega]
  rfl
theorem mnR_ok {S : sS} {k f n : Nat} (hH : HI S) (hL : LEX S) : mOK S (mnR S k f n) := mnF_ok hH hL
theorem mOK_d {S : sS} {z : Int} (h : mOK S z) : z = -1 ∨ ((0 ≤ z / 256 ∧ z / 256 ≤ 14) ∧ (0 ≤ z % 256 ∧ z % 256 ≤ 63) ∧ lexB S (z / 256) (z % 256)) := by
  rcases h with h | ⟨s, w, h, h1, h2, h3⟩
  · exact Or.inl h
  · have e1 : z / 256 = s := by omega
    have e2 : z % 256 = w := by omega
    rw [e1, e2]
    exact Or.inr ⟨h1, h2, h3⟩
theorem addU {S U1 U2 U3 U4 U5 U6 : sS} {s w a b c : Int} (e1 : U1 = uJ S 2 (3 * Xi S 1 3).toNat (Int64.ofInt a)) (e2 : U2 = uJ U1 2 (3 * Xi S 1 3 + 1).toNat (Int64.ofInt b)) (e3 : U3 = uJ U2 2 (3 * Xi S 1 3 + 2).toNat (Int64.ofInt c)) (e4 : U4 = uI U3 3 (Xi S 1 3).toNat (Int32.ofInt s)) (e5 : U5 = uI U4 4 (Xi S 1 3).toNat (Int32.ofInt w)) (e6 : U6 = uI U5 1 3 (Int32.ofInt (Xi S 1 3 + 1))) (h0 : 0 ≤ Xi S 1 3) (h1 : Xi S 1 3 < 200) :
    (∀ i : Nat, (i : Int) < Xi S 1 3 → Xi U6 3 i = Xi S 3 i ∧ Xi U6 4 i = Xi S 4 i ∧ ∀ t, t < 3 → Xj U6 2 (3 * i + t) = Xj S 2 (3 * i + t)) ∧ Xi U6 1 3 = Xi S 1 3 + 1 ∧ (∀ j, Xi U6 5 j = Xi S 5 j) ∧ (rg s → Xi U6 3 (Xi S 1 3).toNat = s) ∧ (rg w → Xi U6 4 (Xi S 1 3).toNat = w) := by
  subst e1 e2 e3 e4 e5 e6
  refine ⟨fun i hi => ⟨?_, ?_, fun t ht => ?_⟩, ?_, fun j => ?_, fun hs => ?_, fun hw => ?_⟩
  · rw [Xi_ne (by omega), Xi_ne (by omega), Xi_ne (by omega), Xi_J, Xi_J, Xi_J]
  · rw [Xi_ne (by omega), Xi_ne (by omega), Xi_ne (by omega), Xi_J, Xi_J, Xi_J]
  · rw [Xj_I, Xj_I, Xj_I, Xj_ne (by omega), Xj_ne (by omega), Xj_ne (by omega)]
  · exact Xi_same (by unfold rg; omega)
  · rw [Xi_ne (by omega), Xi_ne (by omega), Xi_ne (by omega), Xi_J, Xi_J, Xi_J]
  · rw [Xi_ne (by omega), Xi_ne (by omega), Xi_same hs]
  · rw [Xi_ne (by omega), Xi_same hw]
theorem lex_addU {S U1 U2 U3 U4 U5 U6 : sS} {s w a b c : Int} (hL : LEX S) (e1 : U1 = uJ S 2 (3 * Xi S 1 3).toNat (Int64.ofInt a)) (e2 : U2 = uJ U1 2 (3 * Xi S 1 3 + 1).toNat (Int64.ofInt b)) (e3 : U3 = uJ U2 2 (3 * Xi S 1 3 + 2).toNat (Int64.ofInt c)) (e4 : U4 = uI U3 3 (Xi S 1 3).toNat (Int32.ofInt s)) (e5 : U5 = uI U4 4 (Xi S 1 3).toNat (Int32.ofInt w)) (e6 : U6 = uI U5 1 3 (Int32.ofInt (Xi S 1 3 + 1))) (h0 : 0 ≤ Xi S 1 3) (h1 : Xi S 1 3 < 200) (hs : 0 ≤ s ∧ s ≤ 14) (hw : 0 ≤ w ∧ w ≤ 63) (hb : lexB S s w) : LEX U6 := by
  obtain ⟨p, q, r, t, u⟩ := addU e1 e2 e3 e4 e5 e6 h0 h1
  exact lex_add hL h0 (fun i hi => ⟨(p i hi).1, (p i hi).2.1⟩) (t (by unfold rg; omega)) (u (by unfold rg; omega)) r q hb
theorem lkeep_addU {S U1 U2 U3 U4 U5 U6 : sS} {s w a b c : Int} (e1 : U1 = uJ S 2 (3 * Xi S 1 3).toNat (Int64.ofInt a)) (e2 : U2 = uJ U1 2 (3 * Xi S 1 3 + 1).toNat (Int64.ofInt b)) (e3 : U3 = uJ U2 2 (3 * Xi S 1 3 + 2).toNat (Int64.ofInt c)) (e4 : U4 = uI U3 3 (Xi S 1 3).toNat (Int32.ofInt s)) (e5 : U5 = uI U4 4 (Xi S 1 3).toNat (Int32.ofInt w)) (e6 : U6 = uI U5 1 3 (Int32.ofInt (Xi S 1 3 + 1))) (h0 : 0 ≤ Xi S 1 3) (h1 : Xi S 1 3 < 200) : LKEEP S U6 := by
  obtain ⟨p, q, r, t, u⟩ := addU e1 e2 e3 e4 e5 e6 h0 h1
  exact ⟨by omega, p⟩
theorem mOK_n {S : sS} {z : Int} (h : mOK S z) : z = -1 ∨ ((0 ≤ z / 256 ∧ z / 256 ≤ 14) ∧ (0 ≤ z % 256 ∧ z % 256 ≤ 63)) := by
  rcases h with h | ⟨s, w, h, h1, h2, h3⟩
  · exact Or.inl h
  · exact Or.inr ⟨by omega, by omega⟩
theorem lx {S : sS} {z s : Int} (h : mOK S z) (e : z / 256 = s) (h0 : 0 ≤ s) : lexB S s (z % 256) := by
  rcases mOK_d h with h | ⟨h1, h2, h3⟩
  · omega
  · rw [← e]; exact h3
theorem fb0 {S : sS} {z : Int} (hH : HI S) (h : lexB S 0 z) : 0 ≤ z ∧ z ≤ 15 ∧ z < Xi S 5 0 := by
  have a := h.1
  have b := h.2.1 rfl
  have c : 0 ≤ Xi S 5 0 ∧ Xi S 5 0 ≤ 16 := hH.c 5 0
  omega
theorem fb1 {S : sS} {z : Int} (hH : HI S) (h : lexB S 1 z) : 0 ≤ z ∧ z ≤ 7 ∧ z < Xi S 5 1 := by
  have a := h.1
  have b := h.2.2.1 rfl
  have c : 0 ≤ Xi S 5 1 ∧ Xi S 5 1 ≤ 8 := hH.c 5 1
  omega
theorem fb2 {S : sS} {z : Int} (hH : HI S) (h : lexB S 2 z) : 0 ≤ z ∧ z ≤ 23 ∧ z < Xi S 5 2 := by
  have a := h.1
  have b := h.2.2.2.1 rfl
  have c : 0 ≤ Xi S 5 2 ∧ Xi S 5 2 ≤ 24 := hH.c 5 2
  omega
theorem fb3 {S : sS} {z : Int} (hH : HI S) (h : lexB S 3 z) : 0 ≤ z ∧ z ≤ 23 ∧ z < Xi S 5 3 := by
  have a := h.1
  have b := h.2.2.2.2.1 rfl
  have c : 0 ≤ Xi S 5 3 ∧ Xi S 5 3 ≤ 24 := hH.c 5 3
  omega
theorem fb4 {S : sS} {z : Int} (hH : HI S) (h : lexB S 4 z) : 0 ≤ z ∧ z ≤ 63 ∧ z < Xi S 5 4 := by
  have a := h.1
  have b := h.2.2.2.2.2.1 rfl
  have c : 0 ≤ Xi S 5 4 ∧ Xi S 5 4 ≤ 64 := hH.c 5 4
  omega
theorem fb5 {S : sS} {z : Int} (hH : HI S) (h : lexB S 5 z) : 0 ≤ z ∧ z ≤ 11 ∧ z < Xi S 5 5 := by
  have a := h.1
  have b := h.2.2.2.2.2.2.1 rfl
  have c : 0 ≤ Xi S 5 5 ∧ Xi S 5 5 ≤ 12 := hH.c 5 5
  omega
theorem fb6 {S : sS} {z : Int} (hH : HI S) (h : lexB S 6 z) : 0 ≤ z ∧ z ≤ 5 ∧ z < Xi S 5 6 := by
  have a := h.1
  have b := h.2.2.2.2.2.2.2.1 rfl
  have c : 0 ≤ Xi S 5 6 ∧ Xi S 5 6 ≤ 6 := hH.c 5 6
  omega
theorem fb7 {S : sS} {z : Int} (hH : HI S) (h : lexB S 7 z) : 0 ≤ z ∧ z ≤ 7 ∧ z < Xi S 5 7 := by
  have a := h.1
  have b := h.2.2.2.2.2.2.2.2.1 rfl
  have c : 0 ≤ Xi S 5 7 ∧ Xi S 5 7 ≤ 8 := hH.c 5 7
  omega
theorem fb8 {S : sS} {z : Int} (hH : HI S) (h : lexB S 8 z) : 0 ≤ z ∧ z ≤ 11 ∧ z < Xi S 5 8 := by
  have a := h.1
  have b := h.2.2.2.2.2.2.2.2.2.1 rfl
  have c : 0 ≤ Xi S 5 8 ∧ Xi S 5 8 ≤ 12 := hH.c 5 8
  omega
theorem fb11 {S : sS} {z : Int} (hH : HI S) (h : lexB S 11 z) : 0 ≤ z ∧ z ≤ 15 ∧ z < Xi S 5 0 := by
  have a := h.1
  have b := h.2.2.2.2.2.2.2.2.2.2.1 rfl
  have c : 0 ≤ Xi S 5 0 ∧ Xi S 5 0 ≤ 16 := hH.c 5 0
  omega
theorem fb12 {S : sS} {z : Int} (hH : HI S) (h : lexB S 12 z) : 0 ≤ z ∧ z ≤ 7 ∧ z < Xi S 5 1 := by
  have a := h.1
  have b := h.2.2.2.2.2.2.2.2.2.2.2.1 rfl
  have c : 0 ≤ Xi S 5 1 ∧ Xi S 5 1 ≤ 8 := hH.c 5 1
  omega
theorem fb13 {S : sS} {z : Int} (hH : HI S) (h : lexB S 13 z) : 0 ≤ z ∧ z ≤ 7 ∧ z < Xi S 5 7 := by
  have a := h.1
  have b := h.2.2.2.2.2.2.2.2.2.2.2.2.1 rfl
  have c : 0 ≤ Xi S 5 7 ∧ Xi S 5 7 ≤ 8 := hH.c 5 7
  omega
theorem fb14 {S : sS} {z : Int} (_ : HI S) (h : lexB S 14 z) : 0 ≤ z ∧ z ≤ 5 := by
  have a := h.1
  have b := h.2.2.2.2.2.2.2.2.2.2.2.2.2.1 rfl
  omega
theorem lkeep_J {S T U : sS} {v6 v7 p : Int} {v : Int64} (e : U = uJ T 2 p.toNat v) (h : LKEEP S T ∧ Xi S 1 3 ≤ v6) (hp : p = 3 * v6 + v7) (h0 : 0 ≤ v7) : LKEEP S U ∧ Xi S 1 3 ≤ v6 := by
  refine ⟨⟨by rw [e]; exact h.1.1, fun i hi => ?_⟩, h.2⟩
  obtain ⟨a, b, c⟩ := h.1.2 i hi
  refine ⟨by rw [e]; exact a, by rw [e]; exact b, fun t ht => ?_⟩
  have := h.2
  rw [e, Xj_ne (by omega)]
  exact c t ht
theorem LEX_J {T U : sS} {k p : Nat} {v : Int64} (e : U = uJ T k p v) (h : LEX T) : LEX U := by rw [e]; exact h
theorem lexB_mono {S U : sS} {s w : Int} (h : ∀ j, Xi S 5 j ≤ Xi U 5 j) (hb : lexB S s w) : lexB U s w := by
  unfold lexB at *
  obtain ⟨a, b0, b1, b2, b3, b4, b5, b6, b7, b8, b11, b12, b13, b14, b9, b10⟩ := hb
  exact ⟨a, fun e => Int.lt_of_lt_of_le (b0 e) (h 0), fun e => Int.lt_of_lt_of_le (b1 e) (h 1), fun e => Int.lt_of_lt_of_le (b2 e) (h 2), fun e => Int.lt_of_lt_of_le (b3 e) (h 3), fun e => Int.lt_of_lt_of_le (b4 e) (h 4), fun e => Int.lt_of_lt_of_le (b5 e) (h 5), fun e => Int.lt_of_lt_of_le (b6 e) (h 6), fun e => Int.lt_of_lt_of_le (b7 e) (h 7), fun e => Int.lt_of_lt_of_le (b8 e) (h 8), fun e => Int.lt_of_lt_of_le (b11 e) (h 0), fun e => Int.lt_of_lt_of_le (b12 e) (h 1), fun e => Int.lt_of_lt_of_le (b13 e) (h 7), b14, b9, b10⟩
theorem cnt_up {S U : sS} {j : Nat} (e : U = uI S 5 j (Int32.ofInt (Xi S 5 j + 1))) (h : Xi S 5 j < 2147483647) : ∀ t, Xi S 5 t ≤ Xi U 5 t := fun t => by
  by_cases ht : t = j
  · subst ht
    rw [e, Xi_same ⟨by have := (Xi_rg (S := S) (k := 5) (j := t)).1; omega, by omega⟩]
    omega
  · rw [e, Xi_ne (by omega)]
    exact Int.le_refl _
theorem LEX_cnt {S U : sS} {j : Nat} (e : U = uI S 5 j (Int32.ofInt (Xi S 5 j + 1))) (h : Xi S 5 j < 2147483647) (hL : LEX S) : LEX U := fun i hi => by
  have a : Xi U 1 3 = Xi S 1 3 := by rw [e]; exact Xi_ne (by omega)
  have b : Xi U 3 i = Xi S 3 i := by rw [e]; exact Xi_ne (by omega)
  have c : Xi U 4 i = Xi S 4 i := by rw [e]; exact Xi_ne (by omega)
  rw [a] at hi
  rw [b, c]
  exact lexB_mono (cnt_up e h) (hL i hi)
theorem lexB_new {S U : sS} {s : Int} (e : U = uI S 5 s.toNat (Int32.ofInt (Xi S 5 s.toNat + 1))) (h0 : 0 ≤ s) (h8 : s ≤ 8) (h1 : 0 ≤ Xi S 5 s.toNat) (h2 : Xi S 5 s.toNat < 2147483647) : lexB U s (Xi S 5 s.toNat) := by
  have k : Xi U 5 s.toNat = Xi S 5 s.toNat + 1 := by rw [e]; exact Xi_same ⟨by omega, by omega⟩
  have lt : Xi S 5 s.toNat < Xi U 5 s.toNat := by omega
  exact ⟨h1, fun q => by subst q; exact lt, fun q => by subst q; exact lt, fun q => by subst q; exact lt, fun q => by subst q; exact lt, fun q => by subst q; exact lt, fun q => by subst q; exact lt, fun q => by subst q; exact lt, fun q => by subst q; exact lt, fun q => by subst q; exact lt, fun q => by omega, fun q => by omega, fun q => by omega, fun q => by omega, by omega, by omega⟩
/-- no entry has a number that isn't told yet -/
theorem lex_no {S : sS} {s : Int} (hL : LEX S) (h0 : 0 ≤ s) (h8 : s ≤ 8) : ∀ i : Nat, (i : Int) < Xi S 1 3 → Xi S 3 i = s → Xi S 4 i ≠ Xi S 5 s.toNat := fun i hi hs hw => by
  obtain ⟨a, b0, b1, b2, b3, b4, b5, b6, b7, b8, -⟩ := hL i hi
  rw [hs, hw] at b0 b1 b2 b3 b4 b5 b6 b7 b8
  have q : s = 0 ∨ s = 1 ∨ s = 2 ∨ s = 3 ∨ s = 4 ∨ s = 5 ∨ s = 6 ∨ s = 7 ∨ s = 8 := by omega
  rcases q with rfl | rfl | rfl | rfl | rfl | rfl | rfl | rfl | rfl
  · exact absurd (b0 rfl) (Int.lt_irrefl _)
  · exact absurd (b1 rfl) (Int.lt_irrefl _)
  · exact absurd (b2 rfl) (Int.lt_irrefl _)
  · exact absurd (b3 rfl) (Int.lt_irrefl _)
  · exact absurd (b4 rfl) (Int.lt_irrefl _)
  · exact absurd (b5 rfl) (Int.lt_irrefl _)
  · exact absurd (b6 rfl) (Int.lt_irrefl _)
  · exact absurd (b7 rfl) (Int.lt_irrefl _)
  · exact absurd (b8 rfl) (Int.lt_irrefl _)
theorem LKEEP_cnt {S U : sS} {j : Nat} {v : Int32} (e : U = uI S 5 j v) : LKEEP S U := by
  refine ⟨by rw [e, Xi_ne (by omega)]; exact Int.le_refl _, fun i _ => ⟨by rw [e]; exact Xi_ne (by omega), by rw [e]; exact Xi_ne (by omega), fun t _ => by rw [e]; rfl⟩⟩
theorem lh5 {j : Nat} : (lh 5 j).1 ≤ 0 := by
  have q : j = 0 ∨ j = 1 ∨ j = 2 ∨ j = 3 ∨ j = 4 ∨ j = 5 ∨ j = 6 ∨ j = 7 ∨ j = 8 ∨ 9 ≤ j := by omega
  rcases q with rfl | rfl | rfl | rfl | rfl | rfl | rfl | rfl | rfl | h
  all_goals first | decide | skip
  obtain ⟨i, rfl⟩ : ∃ i, j = i + 9 := ⟨j - 9, by omega⟩
  show (-2147483648 : Int) ≤ 0
  decide
theorem no_step {S : sS} {s w v : Int} (hq : ∀ i : Nat, (i : Int) < v → Xi S 3 i = s → Xi S 4 i ≠ w) (h0 : 0 ≤ v) (hn : ¬ (Xi S 3 v.toNat = s ∧ Xi S 4 v.toNat = w)) : ∀ i : Nat, (i : Int) < v + 1 → Xi S 3 i = s → Xi S 4 i ≠ w := fun i hi h1 h2 => by
  rcases (by omega : (i : Int) < v ∨ i = v.toNat) with h | h
  · exact hq i h h1 h2
  · subst h; exact hn ⟨h1, h2⟩
theorem cnt_rg {S : sS} {s : Int} (hH : HI S) (h0 : 0 ≤ s) (h1 : s ≤ 8) : ∀ z, z = Xi S 5 s.toNat → (0 ≤ z ∧ z ≤ 64) ∧ (s = 0 → z ≤ 16) ∧ (s = 1 → z ≤ 8) ∧ (s = 2 → z ≤ 24) ∧ (s = 3 → z ≤ 24) ∧ (s = 4 → z ≤ 64) ∧ (s = 5 → z ≤ 12) ∧ (s = 6 → z ≤ 6) ∧ (s = 7 → z ≤ 8) ∧ (s = 8 → z ≤ 12) := by
  intro z hz
  have e : s = 0 ∨ s = 1 ∨ s = 2 ∨ s = 3 ∨ s = 4 ∨ s = 5 ∨ s = 6 ∨ s = 7 ∨ s = 8 := by omega
  rcases e with rfl | rfl | rfl | rfl | rfl | rfl | rfl | rfl | rfl
  · have h : 0 ≤ Xi S 5 0 ∧ Xi S 5 0 ≤ 16 := hH.c 5 0
    have e : z = Xi S 5 0 := hz
    omega
  · have h : 0 ≤ Xi S 5 1 ∧ Xi S 5 1 ≤ 8 := hH.c 5 1
    have e : z = Xi S 5 1 := hz
    omega
  · have h : 0 ≤ Xi S 5 2 ∧ Xi S 5 2 ≤ 24 := hH.c 5 2
    have e : z = Xi S 5 2 := hz
    omega
  · have h : 0 ≤ Xi S 5 3 ∧ Xi S 5 3 ≤ 24 := hH.c 5 3
    have e : z = Xi S 5 3 := hz
    omega
  · have h : 0 ≤ Xi S 5 4 ∧ Xi S 5 4 ≤ 64 := hH.c 5 4
    have e : z = Xi S 5 4 := hz
    omega
  · have h : 0 ≤ Xi S 5 5 ∧ Xi S 5 5 ≤ 12 := hH.c 5 5
    have e : z = Xi S 5 5 := hz
    omega
  · have h : 0 ≤ Xi S 5 6 ∧ Xi S 5 6 ≤ 6 := hH.c 5 6
    have e : z = Xi S 5 6 := hz
    omega
  · have h : 0 ≤ Xi S 5 7 ∧ Xi S 5 7 ≤ 8 := hH.c 5 7
    have e : z = Xi S 5 7 := hz
    omega
  · have h : 0 ≤ Xi S 5 8 ∧ Xi S 5 8 ≤ 12 := hH.c 5 8
    have e : z = Xi S 5 8 := hz
    omega
theorem tn_c {S U T : sS} {j : Nat} {z : Int} (h5 : ∀ j, Xi T 5 j = Xi U 5 j) (e : U = uI S 5 j (Int32.ofInt z)) (hz : rg z) : Xi T 5 j = z := by rw [h5, e]; exact Xi_same hz
theorem tn_o {S U T : sS} {j : Nat} {v : Int32} (h5 : ∀ j, Xi T 5 j = Xi U 5 j) (e : U = uI S 5 j v) : ∀ i, i ≠ j → Xi T 5 i = Xi S 5 i := fun i hi => by rw [h5, e]; exact Xi_ne (by omega)
theorem lh5hi {s : Int} (h0 : 0 ≤ s) (h8 : s ≤ 8) : (lh 5 s.toNat).2 ≤ 64 := by
  have q : s = 0 ∨ s = 1 ∨ s = 2 ∨ s = 3 ∨ s = 4 ∨ s = 5 ∨ s = 6 ∨ s = 7 ∨ s = 8 := by omega
  rcases q with rfl | rfl | rfl | rfl | rfl | rfl | rfl | rfl | rfl <;> decide
theorem TOK_FR {l : List rec} {S S1 : sS} (h : FR l S S1) (e5 : mdf l 876 5 = false) (e7 : mdf l 876 7 = false) (e : (l.all (fun r => Nat.ble r.2.1 877 || Nat.ble 878 r.1) && (l.all (fun r => Nat.ble r.2.1 878 || Nat.ble 879 r.1) && l.all (fun r => Nat.ble r.2.1 879 || Nat.ble 880 r.1))) = true) (hT : TOK S) : TOK S1 := by
  rw [Bool.and_eq_true, Bool.and_eq_true] at e
  intro i hi ht
  rw [h.x 876 7 e7] at hi
  rw [(h.cx 877 e.1 i).1] at ht
  rw [(h.cx 879 e.2.2 i).2, (h.cx 878 e.2.1 i).1, h.x 876 5 e5]
  exact hT i hi ht
theorem TOK_set7 {S U : sS} {x : Int} (e : U = uI S 876 7 (Int32.ofInt x)) (hT : TOK S) (h0 : 0 ≤ x) (h : x ≤ Xi S 876 7) : TOK U := by
  have r := (Xi_rg (S := S) (k := 876) (j := 7)).2
  have e7 : Xi U 876 7 = x := by rw [e]; exact Xi_same ⟨by omega, by omega⟩
  exact TOK_rows hT (by omega) (by rw [e]; exact Xi_ne (by omega)) (fun j => by rw [e]; exact Xi_ne (by omega)) (fun j => by rw [e]; exact Xi_ne (by omega)) (fun j => by rw [e]; rfl)
theorem lexB14 {S : sS} {w : Int} (h0 : 0 ≤ w) (h5 : w ≤ 5) : lexB S 14 w := by unfold lexB; omega


