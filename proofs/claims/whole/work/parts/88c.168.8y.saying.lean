section
/-! 20: the reference: lists of objects -/
def oaR (S : sS) (f t : Int) : Int := if f < t ∧ 100 ≤ Xi S 907 f.toNat ∧ Xi S 907 f.toNat ≤ 103 then f + 1 else f
noncomputable def obR (S : sS) (f t : Int) : Int := @ite Int ((∀ j : Nat, oaR S f t ≤ j → (j : Int) < t → Xi S 907 j = 3) ∧ msR S (oaR S f t) (t - oaR S f t) 4 ≠ -1) (Classical.propDecidable _) (msR S (oaR S f t) (t - oaR S f t) 4) (-9)
theorem ob_w {S : sS} {f t i v : Int} (hi : i = oaR S f t) (h : oaR S f t ≤ v ∧ 0 ≤ v ∧ v < t) (q : Xi S 907 v.toNat ≠ 3) : -9 = obR S f t := by
  unfold obR
  rw [if_neg (fun w => q (w.1 v.toNat (by omega) (by omega)))]
theorem ob_n {S : sS} {f t i z n : Int} (hi : i = oaR S f t) (hn : n = t - i) (hz : z = msR S i n 4) (q : z = -1) : -9 = obR S f t := by
  unfold obR
  rw [if_neg (fun w => w.2 (by rw [← hi, ← hn, ← hz]; exact q))]
theorem ob_y {S : sS} {f t i z n : Int} (hi : i = oaR S f t) (hn : n = t - i) (hz : z = msR S i n 4) (q : z ≠ -1) (h : ∀ j : Nat, oaR S f t ≤ j → (j : Int) < t → Xi S 907 j = 3) : z = obR S f t := by
  unfold obR
  rw [← hi, ← hn, ← hz]
  rw [if_pos ⟨fun j a b => h j (by rw [← hi]; exact a) b, q⟩]
def nxF (S : sS) (b : Int) : Nat → Int → Int
  | 0, i => i
  | n + 1, i => if Xi S 907 i.toNat = 116 ∨ Xi S 907 i.toNat = 44 then i else nxF S b n (i + 1)
def nxS (S : sS) (b i : Int) : Int := nxF S b (b - i).toNat i
theorem nx_s {S : sS} {b i : Int} (h : i < b) (q : Xi S 907 i.toNat ≠ 116) (r : Xi S 907 i.toNat ≠ 44) : nxS S b i = nxS S b (i + 1) := by
  unfold nxS
  rw [show (b - i).toNat = (b - (i + 1)).toNat + 1 by omega]
  exact if_neg (fun w => w.elim q r)
theorem nx_e {S : sS} {b i : Int} (h : b ≤ i ∨ Xi S 907 i.toNat = 116 ∨ Xi S 907 i.toNat = 44) : nxS S b i = i := by
  unfold nxS
  by_cases q : b ≤ i
  · rw [show (b - i).toNat = 0 by omega]; rfl
  · rw [show (b - i).toNat = (b - i - 1).toNat + 1 by omega]
    exact if_pos (by omega)
theorem nx_b {S : sS} {b : Int} : ∀ (n : Nat) (i : Int), i ≤ nxF S b n i
  | 0, i => Int.le_refl _
  | n + 1, i => by
    rw [nxF]
    split
    · exact Int.le_refl _
    · have := nx_b (S := S) (b := b) n (i + 1); omega
def nxP (S : sS) (b e : Int) : Int := if e < b ∧ Xi S 907 e.toNat = 44 ∧ e + 1 < b ∧ Xi S 907 (e + 1).toNat = 116 then e + 2 else e + 1
noncomputable def lW (S : sS) (b k : Int) : Nat → Int → List Int → Option (List Int)
  | 0, _, _ => none
  | n + 1, i, c =>
    if obR S i (nxS S b i) = -9 ∨ blR S (Xi S 918 (obR S i (nxS S b i)).toNat) k = 0 then some []
    else if b ≤ nxS S b i then some (c ++ [obR S i (nxS S b i)])
    else lW S b k n (nxP S b (nxS S b i)) (c ++ [obR S i (nxS S b i)])
noncomputable def lV (S : sS) (a b k : Int) : List Int := (lW S b k 6000 a []).getD []
theorem lw_up {S : sS} {b k : Int} : ∀ (n : Nat) (i : Int) (c l : List Int), lW S b k n i c = some l → lW S b k (n + 1) i c = some l
  | 0, i, c, l, h => by cases h
  | n + 1, i, c, l, h => by
    rw [lW] at h
    rw [lW]
    split at h
    · rw [if_pos (by assumption)]; exact h
    rw [if_neg (by assumption)]
    split at h
    · rw [if_pos (by assumption)]; exact h
    rw [if_neg (by assumption)]
    exact lw_up n _ _ l h
theorem lw_ups {S : sS} {b k i : Int} {c l : List Int} {n : Nat} (h : lW S b k n i c = some l) : ∀ m : Nat, lW S b k (n + m) i c = some l
  | 0 => h
  | m + 1 => lw_up (n + m) i c l (lw_ups h m)
theorem lw_end {S : sS} {b k : Int} : ∀ (n : Nat) (i : Int) (c : List Int), (b - i).toNat < n → ∃ l, lW S b k n i c = some l
  | 0, i, c, h => absurd h (Nat.not_lt_zero _)
  | n + 1, i, c, h => by
    rw [lW]
    split
    · exact ⟨_, rfl⟩
    split
    · exact ⟨_, rfl⟩
    have u : i ≤ nxS S b i := nx_b _ _
    exact lw_end n _ _ (by unfold nxP; split <;> omega)
theorem lw_V {S : sS} {a b k : Int} {l : List Int} {n : Nat} (h : lW S b k n a [] = some l) (hb : (b - a).toNat < 6000) : l = lV S a b k := by
  obtain ⟨y, e⟩ := lw_end (S := S) (b := b) (k := k) 6000 a [] hb
  unfold lV
  have t := lw_ups h 6000
  have u := lw_ups e n
  rw [Nat.add_comm 6000 n, t] at u
  rw [e]
  injection u
/-- what stands in an array -/
def ARL (T : sS) (c : Nat) (l : List Int) : Prop := ∀ (j : Nat) (h : j < l.length), Xi T c j = l[j]
theorem arl_e {T : sS} {c : Nat} : ARL T c [] := fun j h => absurd h (Nat.not_lt_zero _)
theorem arl_p {T U : sS} {c : Nat} {l : List Int} {o : Int} {i : Nat} (h : ARL T c l) (hr : rg o) (hi : i = l.length) (e : U = uI T c i (Int32.ofInt o)) : ARL U c (l ++ [o]) := fun j hj => by
  rw [e]
  by_cases q : j < l.length
  · rw [Xi_ne (by omega), h j q, List.getElem_append_left q]
  · have w : j = l.length := by rw [List.length_append] at hj; simp only [List.length_cons, List.length_nil] at hj; omega
    subst w
    rw [hi, Xi_same hr]
    simp only [List.getElem_append_right (Nat.le_refl _), Nat.sub_self, List.getElem_cons_zero]
theorem arl_fr {T U : sS} {c : Nat} {l : List Int} (h : ARL T c l) (f : ∀ j, Xi U c j = Xi T c j) : ARL U c l := fun j hj => (f j).trans (h j hj)
/-- the loop: something is still to come (m = 1), or it is through -/
def LOC (S T : sS) (c : Nat) (a b k i m n : Int) : Prop := ∃ l : List Int, n = l.length ∧ ARL T c l ∧
  (m ≠ 0 → ∀ (f : Nat) (r : List Int), lW S b k f i l = some r → ∃ g, lW S b k g a [] = some r) ∧
  (m = 0 → ∃ g, lW S b k g a [] = some l)
def LOF (S T : sS) (c : Nat) (a b k z : Int) : Prop := z = ((lV S a b k).length : Int) ∧ ARL T c (if z = 0 then [] else lV S a b k)
theorem loc_0 {S T : sS} {c : Nat} {a b k : Int} : LOC S T c a b k a 1 0 := ⟨[], rfl, arl_e, fun _ f r h => ⟨f, h⟩, fun q => absurd q (by decide)⟩
theorem loc_x {S T U : sS} {c : Nat} {a b k i m n e o : Int} (h : LOC S T c a b k i m n) (hm : m ≠ 0) (hb : (b - a).toNat < 6000) (he : e = nxS S b i) (ho : o = obR S i e) (q : o = -9 ∨ blR S (Xi S 918 o.toNat) k = 0) : LOF S U c a b k 0 := by
  obtain ⟨l, hn, ar, w, _⟩ := h
  obtain ⟨g, hg⟩ := w hm 1 [] (by rw [lW, ← he, ← ho, if_pos q])
  have t := lw_V hg hb
  refine ⟨by rw [← t]; rfl, ?_⟩
  rw [if_pos rfl]; exact arl_e
theorem loc_s {S T U : sS} {c : Nat} {a b k i m n e o m2 i2 : Int} {u : Nat} (h : LOC S T c a b k i m n) (hm : m ≠ 0) (he : e = nxS S b i) (ho : o = obR S i e) (q : ¬ (o = -9 ∨ blR S (Xi S 918 o.toNat) k = 0)) (hr : rg o) (hu : (u : Int) = n) (eU : U = uI T c u (Int32.ofInt o)) (h2 : (b ≤ e ∧ m2 = 0) ∨ (e < b ∧ m2 = 1 ∧ i2 = nxP S b e)) : LOC S U c a b k i2 m2 (n + 1) := by
  obtain ⟨l, hn, ar, w, _⟩ := h
  refine ⟨l ++ [o], by rw [List.length_append]; simp only [List.length_cons, List.length_nil]; omega, arl_p ar hr (by omega) eU, fun q2 f r hf => ?_, fun q2 => ?_⟩
  · refine w hm (f + 1) r ?_
    rw [lW, ← he, ← ho, if_neg q, if_neg (by omega)]
    have : i2 = nxP S b e := by omega
    rw [← this]; exact hf
  · exact w hm 1 _ (by rw [lW, ← he, ← ho, if_neg q, if_pos (by omega)])
theorem loc_z {S T : sS} {c : Nat} {a b k i m n : Int} (h : LOC S T c a b k i m n) (hm : m = 0) (hb : (b - a).toNat < 6000) : LOF S T c a b k n := by
  obtain ⟨l, hn, ar, _, w⟩ := h
  obtain ⟨g, hg⟩ := w hm
  have t := lw_V hg hb
  refine ⟨by rw [← t]; exact hn, ?_⟩
  split
  · exact arl_e
  · rw [← t]; exact ar
theorem tkR_F {l : List rec} {S T : sS} (h : FR l S T) (e : kdis l [(907, 908)] = true) (j : Nat) : Xi T 907 j = Xi S 907 j := ((h.smk e).x 907 rfl j)
theorem oaR_F {l : List rec} {S T : sS} (h : FR l S T) (e : kdis l [(907, 908)] = true) {f t : Int} : oaR T f t = oaR S f t := by unfold oaR; rw [tkR_F h e]
theorem obR_F {l : List rec} {S T : sS} (h : FR l S T) (e : kdis l [(907, 908)] = true) (e2 : ∀ t n s, msR T t n s = msR S t n s) {f t : Int} : obR T f t = obR S f t := by
  unfold obR
  rw [oaR_F h e, e2]
  by_cases q : (∀ j : Nat, oaR S f t ≤ j → (j : Int) < t → Xi S 907 j = 3) ∧ msR S (oaR S f t) (t - oaR S f t) 4 ≠ -1
  · rw [if_pos q, if_pos ⟨fun j h1 h2 => by rw [tkR_F h e]; exact q.1 j h1 h2, q.2⟩]
  · rw [if_neg q, if_neg (fun w => q ⟨fun j h1 h2 => by rw [← tkR_F h e]; exact w.1 j h1 h2, w.2⟩)]
theorem nxF_F {l : List rec} {S T : sS} (h : FR l S T) (e : kdis l [(907, 908)] = true) {b : Int} : ∀ (n : Nat) (i : Int), nxF T b n i = nxF S b n i
  | 0, i => rfl
  | n + 1, i => by rw [nxF, nxF, tkR_F h e, nxF_F h e n]
theorem nxP_F {l : List rec} {S T : sS} (h : FR l S T) (e : kdis l [(907, 908)] = true) {b i : Int} : nxP T b i = nxP S b i := by unfold nxP; rw [tkR_F h e, tkR_F h e]

/-! 20: the reference relates -/
def rlB (S : sS) (r x y : Int) : Int := Xi S 940 (576 * r + 24 * x + y).toNat
def okW (S : sS) (r a b : Int) : Prop := ∀ x : Nat, (x : Int) < Xi S 904 19 → ¬ (Xi S 938 r.toNat ≠ 0 ∧ (x : Int) ≠ a ∧ rlB S r x b ≠ 0) ∧ ¬ (Xi S 939 r.toNat ≠ 0 ∧ (x : Int) ≠ b ∧ rlB S r a x ≠ 0)
def TRR (S S1 : sS) (z r a b : Int) : Prop := (okW S r a b → z = 1 ∧ S1 = uI S 940 (576 * r + 24 * a + b).toNat (Int32.ofInt 1)) ∧ (¬ okW S r a b → z = 0 ∧ S1 = S)
def DIN (S : sS) (r a : Int) : Nat → sS → sS → Prop
  | 0, U, V => V = U
  | n + 1, U, V => ∃ W, DIN S r a n U W ∧ TRR W V 1 r a (Xi S 989 n)
def DOU (S : sS) (r m : Int) : Nat → sS → sS → Prop
  | 0, U, V => V = U
  | n + 1, U, V => ∃ W, DOU S r m n U W ∧ DIN S r (Xi S 988 n) m.toNat W V
def DIO (S : sS) (i j : Int) (T : sS) : Prop := ∃ W, DOU S (Xi S 904 147) (Xi S 904 146) i.toNat S W ∧ DIN S (Xi S 904 147) (Xi S 988 i.toNat) j.toNat W T
def DFA (S : sS) (f : Int) (T : sS) : Prop := ∃ (i j : Nat) (U W : sS), (i : Int) < Xi S 904 144 ∧ (j : Int) < Xi S 904 146 ∧ DOU S (Xi S 904 147) (Xi S 904 146) i S U ∧ DIN S (Xi S 904 147) (Xi S 988 i) j U W ∧ ¬ okW W (Xi S 904 147) (Xi S 988 i) (Xi S 989 j) ∧ NTB (NT3 T) 5 (Xi S 908 f.toNat)
def DSY (S S1 : sS) (f : Int) : Prop := (Xi S1 904 106 = 0 → DOU S (Xi S 904 147) (Xi S 904 146) (Xi S 904 144).toNat S S1) ∧ (Xi S1 904 106 ≠ 0 → DFA S f S1)
theorem dio_0 {S T : sS} {i : Int} (h : DOU S (Xi S 904 147) (Xi S 904 146) i.toNat S T) : DIO S i 0 T := ⟨T, h, rfl⟩
theorem dio_s {S T V : sS} {i j z : Int} (h : DIO S i j T) (hj : 0 ≤ j) (k : TRR T V z (Xi S 904 147) (Xi S 988 i.toNat) (Xi S 989 j.toNat)) (hz : z = 1) : DIO S i (j + 1) V := by
  subst hz
  obtain ⟨W, o, r⟩ := h
  refine ⟨W, o, ?_⟩
  rw [show (j + 1).toNat = j.toNat + 1 by omega]
  exact ⟨T, r, k⟩
theorem dou_s {S T : sS} {i j : Int} (h : DIO S i j T) (hi : 0 ≤ i) (hj : j.toNat = (Xi S 904 146).toNat) : DOU S (Xi S 904 147) (Xi S 904 146) (i + 1).toNat S T := by
  obtain ⟨W, o, r⟩ := h
  rw [show (i + 1).toNat = i.toNat + 1 by omega]
  rw [hj] at r
  exact ⟨W, o, r⟩
theorem dfa_i {S T V X : sS} {i j z f : Int} (h : DIO S i j T) (hi : 0 ≤ i ∧ i < Xi S 904 144) (hj : 0 ≤ j ∧ j < Xi S 904 146) (k : TRR T V z (Xi S 904 147) (Xi S 988 i.toNat) (Xi S 989 j.toNat)) (hz : z = 0) (hn : NTB (NT3 X) 5 (Xi S 908 f.toNat)) : DFA S f X := by
  obtain ⟨W, o, r⟩ := h
  exact ⟨i.toNat, j.toNat, W, T, by omega, by omega, o, r, fun c => by have u := (k.1 c).1; omega, hn⟩

/-! 20: the reference asks -/
def sgF (S : sS) (f : Int) : Nat → Int
  | 0 => 1
  | n + 1 => if sgF S f n ≠ 0 ∧ Xi S 907 (f + n).toNat ≠ 116 ∧ Xi S 907 (f + n).toNat ≠ 44 then 1 else 0
noncomputable def vbA (S : sS) (f : Int) (n : Nat) : Int := if Xi S 907 (f + n).toNat = 3 then msR S (f + n) 1 (if sgF S f n ≠ 0 then 10 else 9) else -1
noncomputable def rA (S : sS) (f : Int) (n : Nat) : Int := Xi S 941 (vbA S f n).toNat
noncomputable def lA_ (S : sS) (f : Int) (n : Nat) : List Int := lV S f (f + n) (Xi S 936 (rA S f n).toNat)
noncomputable def lB_ (S : sS) (f d : Int) (n : Nat) : List Int := lV S (f + n + 1) d (Xi S 937 (rA S f n).toNat)
def qvR (S : sS) (f d : Int) (n : Nat) : Prop := vbA S f n ≠ -1 ∧ 0 < n ∧ f + n + 1 < d ∧ lA_ S f n ≠ [] ∧ lB_ S f d n ≠ []
noncomputable def cnA (S : sS) (f d : Int) : Nat → Int
  | 0 => 0
  | n + 1 => @ite Int (qvR S f d n) (Classical.propDecidable _) (cnA S f d n + 1) (cnA S f d n)
noncomputable def psA (S : sS) (f d : Int) : Nat → Int
  | 0 => -1
  | n + 1 => @ite Int (psA S f d n = -1 ∧ qvR S f d n) (Classical.propDecidable _) n (psA S f d n)
def SAQ (S T : sS) (f d : Int) (p : Nat) : Prop := Xi T 904 144 = (lA_ S f p).length ∧ Xi T 904 146 = (lB_ S f d p).length ∧ Xi T 904 147 = rA S f p ∧ ARL T 988 (lA_ S f p) ∧ ARL T 989 (lB_ S f d p)
def SAC (S T : sS) (f d n c : Int) : Prop := c = cnA S f d n.toNat ∧ 0 ≤ c ∧ (c = 0 → psA S f d n.toNat = -1) ∧ (0 < c → 0 ≤ psA S f d n.toNat ∧ psA S f d n.toNat < n ∧ qvR S f d (psA S f d n.toNat).toNat ∧ SAQ S T f d (psA S f d n.toNat).toNat)
def KSY (T U : sS) : Prop := Xi U 904 144 = Xi T 904 144 ∧ Xi U 904 146 = Xi T 904 146 ∧ Xi U 904 147 = Xi T 904 147 ∧ (∀ j, Xi U 988 j = Xi T 988 j) ∧ ∀ j, Xi U 989 j = Xi T 989 j
theorem KSY.rf {T : sS} : KSY T T := ⟨rfl, rfl, rfl, fun _ => rfl, fun _ => rfl⟩
theorem KSY.tr {T U V : sS} (h : KSY T U) (k : KSY U V) : KSY T V := ⟨k.1.trans h.1, k.2.1.trans h.2.1, k.2.2.1.trans h.2.2.1, fun j => (k.2.2.2.1 j).trans (h.2.2.2.1 j), fun j => (k.2.2.2.2 j).trans (h.2.2.2.2 j)⟩
theorem KSY_FR {l : List rec} {T U : sS} (h : FR l T U) (e : mD l [144, 146, 147] = true) (e2 : kdis l [(988, 990)] = true) : KSY T U := by
  have q : mdf l 904 144 = false ∧ mdf l 904 146 = false ∧ mdf l 904 147 = false := by
    simp only [mD, List.all_cons, List.all_nil, Bool.and_true, Bool.and_eq_true, Bool.not_eq_true'] at e
    exact ⟨e.1, e.2.1, e.2.2⟩
  have k := h.smk e2
  exact ⟨h.x 904 144 q.1, h.x 904 146 q.2.1, h.x 904 147 q.2.2, fun j => k.x 988 rfl j, fun j => k.x 989 rfl j⟩
theorem saq_k {S T U : sS} {f d : Int} {p : Nat} (k : KSY T U) (h : SAQ S T f d p) : SAQ S U f d p :=
  ⟨k.1.trans h.1, k.2.1.trans h.2.1, k.2.2.1.trans h.2.2.1, arl_fr h.2.2.2.1 k.2.2.2.1, arl_fr h.2.2.2.2 k.2.2.2.2⟩
theorem sac_0 {S T : sS} {f d n : Int} (h : n.toNat = 0) : SAC S T f d n 0 := by
  rw [SAC, h]
  exact ⟨rfl, by omega, fun _ => rfl, fun q => absurd q (by omega)⟩
theorem sac_n {S T U : sS} {f d n m c : Int} (h : SAC S T f d n c) (h0 : 0 ≤ n) (hm : m = n + 1) (k : 0 < c → KSY T U) (q : ¬ qvR S f d n.toNat) : SAC S U f d m c := by
  obtain ⟨a, b, z, s⟩ := h
  have e2 : psA S f d (n.toNat + 1) = psA S f d n.toNat := by rw [psA, if_neg (fun w => q w.2)]
  rw [SAC, hm, show (n + 1).toNat = n.toNat + 1 by omega, e2]
  refine ⟨by rw [cnA, if_neg q]; exact a, b, z, fun w => ?_⟩
  have u := s w
  exact ⟨u.1, by omega, u.2.2.1, saq_k (k w) u.2.2.2⟩
theorem sac_y {S T U : sS} {f d n m c : Int} (h : SAC S T f d n c) (h0 : 0 ≤ n) (hm : m = n + 1) (hc : 0 < c) (k : KSY T U) (q : qvR S f d n.toNat) : SAC S U f d m (c + 1) := by
  obtain ⟨a, b, z, s⟩ := h
  have u := s hc
  have e2 : psA S f d (n.toNat + 1) = psA S f d n.toNat := by rw [psA, if_neg (fun w => by omega)]
  rw [SAC, hm, show (n + 1).toNat = n.toNat + 1 by omega, e2]
  exact ⟨by rw [cnA, if_pos q, a], by omega, fun w => by omega, fun _ => ⟨u.1, by omega, u.2.2.1, saq_k k u.2.2.2⟩⟩
theorem sac_z {S T U : sS} {f d n m c : Int} (h : SAC S T f d n c) (h0 : 0 ≤ n) (hm : m = n + 1) (hc : c = 0) (q : qvR S f d n.toNat) (s : SAQ S U f d n.toNat) : SAC S U f d m (c + 1) := by
  obtain ⟨a, b, z, _⟩ := h
  have e2 : psA S f d (n.toNat + 1) = n.toNat := by rw [psA, if_pos ⟨z hc, q⟩]
  rw [SAC, hm, show (n + 1).toNat = n.toNat + 1 by omega, e2, show (((n.toNat : Nat) : Int)).toNat = n.toNat by omega]
  exact ⟨by rw [cnA, if_pos q, a], by omega, fun w => by omega, fun _ => ⟨by omega, by omega, q, s⟩⟩
theorem vr_y {S : sS} {f i n s z g : Int} (hi : 0 ≤ n ∧ i = f + n) (ht : Xi S 907 i.toNat = 3) (hg : g = sgF S f n.toNat) (hz : z = msR S i 1 s) (hs : (g ≠ 0 ∧ s = 10) ∨ (g = 0 ∧ s = 9)) : z = vbA S f n.toNat := by
  unfold vbA
  rw [show f + ((n.toNat : Nat) : Int) = i by omega, if_pos ht, ← hg]
  rcases hs with h | h
  · rw [if_pos h.1, hz, h.2]
  · rw [if_neg (by omega), hz, h.2]
theorem vr_n {S : sS} {f i n : Int} (hi : 0 ≤ n ∧ i = f + n) (ht : Xi S 907 i.toNat ≠ 3) : -1 = vbA S f n.toNat := by
  unfold vbA
  rw [show f + ((n.toNat : Nat) : Int) = i by omega, if_neg ht]
theorem sg_s {S : sS} {f i n m g x : Int} (hi : 0 ≤ n ∧ i = f + n ∧ m = n + 1) (hg : g = sgF S f n.toNat) (hx : (x = 1 ∧ g ≠ 0 ∧ Xi S 907 i.toNat ≠ 116 ∧ Xi S 907 i.toNat ≠ 44) ∨ (x = 0 ∧ (g = 0 ∨ Xi S 907 i.toNat = 116 ∨ Xi S 907 i.toNat = 44))) : x = sgF S f m.toNat := by
  rw [show m.toNat = n.toNat + 1 by omega, sgF, ← hg, show f + ((n.toNat : Nat) : Int) = i by omega]
  rcases hx with h | h
  · rw [if_pos h.2]; exact h.1
  · rw [if_neg (by omega)]; exact h.1
theorem lW_F {l : List rec} {S T : sS} (h : FR l S T) (e : kdis l [(907, 908)] = true) (e2 : ∀ t n s, msR T t n s = msR S t n s) (e3 : kdis l [(917, 918)] = true) (e4 : kdis l [(918, 919)] = true) {b k : Int} : ∀ (n : Nat) (i : Int) (c : List Int), lW T b k n i c = lW S b k n i c
  | 0, _, _ => rfl
  | n + 1, i, c => by
    have x : nxS T b i = nxS S b i := nxF_F h e _ _
    rw [lW, lW, x, obR_F h e e2, blR_fr h e3, (h.smk e4).x 918 rfl, nxP_F h e, lW_F h e e2 e3 e4 n]
theorem lV_F {l : List rec} {S T : sS} (h : FR l S T) (e : kdis l [(907, 908)] = true) (e2 : ∀ t n s, msR T t n s = msR S t n s) (e3 : kdis l [(917, 918)] = true) (e4 : kdis l [(918, 919)] = true) {a b k : Int} : lV T a b k = lV S a b k := by unfold lV; rw [lW_F h e e2 e3 e4]
theorem lof_F {l : List rec} {S P T : sS} {c : Nat} {a b k z : Int} (h : FR l S P) (e : kdis l [(907, 908)] = true) (e2 : ∀ t n s, msR P t n s = msR S t n s) (e3 : kdis l [(917, 918)] = true) (e4 : kdis l [(918, 919)] = true) (q : LOF P T c a b k z) : LOF S T c a b k z := by
  unfold LOF at q ⊢
  rw [lV_F h e e2 e3 e4] at q
  exact q
theorem lof_z {S T : sS} {c : Nat} {a b k z : Int} (q : LOF S T c a b k z) (h : z ≤ 0) : lV S a b k = [] := by
  have t := q.1
  have u : (lV S a b k).length = 0 := by omega
  exact List.length_eq_zero_iff.mp u
theorem lof_p {S T : sS} {c : Nat} {a b k z : Int} (q : LOF S T c a b k z) (h : 0 < z) : lV S a b k ≠ [] ∧ ARL T c (lV S a b k) := by
  have t := q.1
  have w := q.2
  rw [if_neg (by omega)] at w
  exact ⟨fun e => by rw [e] at t; simp only [List.length_nil] at t; omega, w⟩
theorem saq_i {l : List rec} {S A B U1 U2 U3 : sS} {f d i j n z1 z2 r k1 k2 : Int} (hn : 0 ≤ n ∧ i = f + n ∧ j = f + n + 1) (hr : r = rA S f n.toNat) (hk : k1 = Xi S 936 r.toNat) (hk2 : k2 = Xi S 937 r.toNat) (q1 : LOF S A 988 f i k1 z1) (h1 : 0 < z1) (F : FR l A B) (e : kdis l [(988, 989)] = true) (q2 : LOF S B 989 j d k2 z2) (h2 : 0 < z2) (r1 : rg z1) (r2 : rg z2) (r3 : rg r) (e1 : U1 = uI B 904 144 (Int32.ofInt z1)) (e2 : U2 = uI U1 904 146 (Int32.ofInt z2)) (e3 : U3 = uI U2 904 147 (Int32.ofInt r)) : SAQ S U3 f d n.toNat := by
  have x1 := q1.1
  have x2 := q2.1
  have y1 := (lof_p q1 h1).2
  have y2 := (lof_p q2 h2).2
  unfold SAQ lA_ lB_
  rw [show f + ((n.toNat : Nat) : Int) = i by omega, show i + 1 = j by omega, ← hr, ← hk, ← hk2, e3, e2, e1]
  refine ⟨?_, ?_, Xi_same r3, fun w hw => ?_, fun w hw => ?_⟩
  · rw [Xi_ne (by omega), Xi_ne (by omega), Xi_same r1]; exact x1
  · rw [Xi_ne (by omega), Xi_same r2]; exact x2
  · rw [Xi_ne (by omega), Xi_ne (by omega), Xi_ne (by omega), (F.smk e).x 988 rfl]; exact y1 w hw
  · rw [Xi_ne (by omega), Xi_ne (by omega), Xi_ne (by omega)]; exact y2 w hw
def RSY (S S1 : sS) (f d : Int) : Prop := NT3 S1 = (if cnA S f d (d - f).toNat < 2 then (if 0 < cnA S f d (d - f).toNat then NT3 S else ntF (NT3 S) 4 (Xi S 908 f.toNat)) else ntF (if 0 < cnA S f d (d - f).toNat then NT3 S else ntF (NT3 S) 4 (Xi S 908 f.toNat)) 7 (Xi S 908 f.toNat)) ∧ SAC S S1 f d (d - f) (cnA S f d (d - f).toNat)
theorem sac_k {S T U : sS} {f d n c : Int} (k : KSY T U) (h : SAC S T f d n c) : SAC S U f d n c := ⟨h.1, h.2.1, h.2.2.1, fun w => ⟨(h.2.2.2 w).1, (h.2.2.2 w).2.1, (h.2.2.2 w).2.2.1, saq_k k (h.2.2.2 w).2.2.2⟩⟩
theorem rsy_i {S T S1 : sS} {f d c : Int} (q : SAC S T f d (d - f) c) (k : KSY T S1) (n : NT3 S1 = (if c < 2 then (if 0 < c then NT3 S else ntF (NT3 S) 4 (Xi S 908 f.toNat)) else ntF (if 0 < c then NT3 S else ntF (NT3 S) 4 (Xi S 908 f.toNat)) 7 (Xi S 908 f.toNat))) : RSY S S1 f d := by
  unfold RSY
  rw [← q.1]
  exact ⟨n, sac_k k q⟩
theorem qvr_i {S A B : sS} {c1 c2 : Nat} {f d i j n z1 z2 k1 k2 : Int} (hv : vbA S f n.toNat ≠ -1) (hn : 0 < n ∧ i = f + n ∧ j = f + n + 1 ∧ j < d) (hk : k1 = Xi S 936 (rA S f n.toNat).toNat) (hk2 : k2 = Xi S 937 (rA S f n.toNat).toNat) (q1 : LOF S A c1 f i k1 z1) (h1 : 0 < z1) (q2 : LOF S B c2 j d k2 z2) (h2 : 0 < z2) : qvR S f d n.toNat := by
  refine ⟨hv, by omega, by omega, ?_, ?_⟩
  · unfold lA_
    rw [show f + ((n.toNat : Nat) : Int) = i by omega, ← hk]
    exact (lof_p q1 h1).1
  · unfold lB_
    rw [show f + ((n.toNat : Nat) : Int) + 1 = j by omega, ← hk2]
    exact (lof_p q2 h2).1
theorem qvr_1 {S A : sS} {c1 : Nat} {f d i n z1 k1 : Int} (hn : 0 < n ∧ i = f + n) (hk : k1 = Xi S 936 (rA S f n.toNat).toNat) (q1 : LOF S A c1 f i k1 z1) (h1 : z1 ≤ 0) : ¬ qvR S f d n.toNat := fun w => by
  apply w.2.2.2.1
  unfold lA_
  rw [show f + ((n.toNat : Nat) : Int) = i by omega, ← hk]
  exact lof_z q1 h1
theorem qvr_2 {S A : sS} {c1 : Nat} {f d j n z1 k2 : Int} (hn : 0 < n ∧ j = f + n + 1) (hk : k2 = Xi S 937 (rA S f n.toNat).toNat) (q1 : LOF S A c1 j d k2 z1) (h1 : z1 ≤ 0) : ¬ qvR S f d n.toNat := fun w => by
  apply w.2.2.2.2
  unfold lB_
  rw [show f + ((n.toNat : Nat) : Int) + 1 = j by omega, ← hk]
  exact lof_z q1 h1

abbrev Q_mo_objectOf__p (S : sS) (from_ : Int) (to : Int) : pst := fun r S1 => S = S1 ∧ (∃ z : Int, r = some (iv z) ∧ (-2147483648 ≤ z ∧ z ≤ 2147483647) ∧ (z = obR S from_ to))
set_option maxRecDepth 100000 in
theorem t_mo_objectOf__p {S : sS} (hH : RI S) (from_ : Int) (to : Int) (hfrom_ : 0 ≤ from_ ∧ from_ ≤ 6000) (hto : 0 ≤ to ∧ to ≤ 6000) (hLS : LSP S) (h15 : 0 ≤ Xi S 904 15) (d : Nat) : Mp lay0 (d + 4) m_mo_objectOf [.ref 904, iv from_, iv to] S (Q_mo_objectOf__p S from_ to) := by
  refine Mp_R rfl rfl (fun fu => ?_)
  have w1 : -2147483648 ≤ Xi S 904 15 ∧ Xi S 904 15 ≤ 2147483647 := Xi_rgI
  have C28 : ∀ (n28 : Nat) (_ : n28 ≤ fu) (v3 : Int) (v4 : Int), (0 ≤ v3 ∧ v3 ≤ 6001) → (0 ≤ v4 ∧ v4 ≤ 6001) → (v3 = oaR S from_ to) → (0 ≤ v3 ∧ v3 ≤ from_ + 1) → (v3 ≤ v4 ∧ (v4 ≤ to ∨ v4 = v3)) → (Hid (∀ j : Nat, oaR S from_ to ≤ j → (j : Int) < v4 → Xi S 907 j = 3)) → Pl n28 lay0 (d + 3) m_mo_objectOf 28 [(0, .ref 904), (2, iv to), (3, iv v3), (4, iv v4)] [] S (Q_mo_objectOf__p S from_ to) := by
    intro n28
    induction n28 with
    | zero => intros; exact Pl_0
    | succ n28 ih28 =>
      intro hm28 v3 v4 w2 w3 a28 w4 w5 W28
      refine ys_iload rfl rfl ?_
      refine y_iload_n rfl rfl ?_
      refine y_icmp_ge rfl rfl (by unfold rg; omega) (by unfold rg; omega) (fun w6 => ?_) (fun w7 => ?_)
      · refine y_aload_n rfl rfl ?_
        refine y_iload_n rfl rfl ?_
        refine y_iload_n rfl rfl ?_
        refine y_iload_n rfl rfl ?_
        refine y_isub rfl ?_
        refine y_iconst rfl ?_
        refine y_callV rfl rfl rfl (t_mo_means__p hH v3 (to - v3) 4 ⟨by omega, by omega⟩ ⟨by omega, by omega⟩ ⟨by omega, by omega⟩ (by first | assumption | exact (by assumption : LSP S)) (by first | assumption | omega) _) ?_
        rintro _ _ ⟨rfl, z8, rfl, w8, m60⟩
        show Pl _ _ _ _ _ _ [iv z8] _ _
        have K60 : True := trivial
        refine y_istore rfl rfl rfl ?_
        refine y_iload rfl rfl ?_
        refine y_iconst rfl ?_
        refine y_icmp_ne rfl rfl (by unfold rg; omega) (by unfold rg; omega) (fun w9 => ?_) (fun w10 => ?_)
        · refine y_iload rfl rfl ?_
          refine y_ireturn rfl rfl ?_
          exact ⟨rfl, _, rfl, ⟨by omega, by omega⟩, (by first | (have u := K60; first | exact ob_y a28 (by omega) m60 (by omega) (fun j h1 h2 => W28.o j h1 (by omega)) | exact ob_n a28 (by omega) m60 (by omega)) | exact ob_w (v := v4) a28 (by omega) (by omega))⟩
        · refine y_bipush rfl rfl ?_
          refine y_goto rfl rfl ?_
          refine y_ireturn rfl rfl ?_
          exact ⟨rfl, _, rfl, ⟨by omega, by omega⟩, (by first | (have u := K60; first | exact ob_y a28 (by omega) m60 (by omega) (fun j h1 h2 => W28.o j h1 (by omega)) | exact ob_n a28 (by omega) m60 (by omega)) | exact ob_w (v := v4) a28 (by omega) (by omega))⟩
      · refine y_aload_n rfl rfl ?_
        refine y_gfr rfl rfl rfl rfl rfl (hH.r 904 4 907 rfl) ?_
        refine y_iload rfl rfl ?_
        refine y_ialoadP (n := 5002) rfl rfl (by unfold rg; omega) (fun w11 w12 => ?_)
        have w13 : -2147483648 ≤ (Xi S 907 ((v4).toNat)) ∧ (Xi S 907 ((v4).toNat)) ≤ 2147483647 := Xi_rgI
        refine y_iconst rfl ?_
        refine y_icmp_eq rfl rfl (by unfold rg; omega) (by unfold rg; omega) (fun w14 => ?_) (fun w15 => ?_)
        · refine y_iinc rfl rfl rfl rfl ?_
          have W48 : Hid (∀ j : Nat, oaR S from_ to ≤ j → (j : Int) < v4 + 1 → Xi S 907 j = 3) := fun j h1 h2 => by by_cases q : (j : Int) < v4; exact W28.o j h1 q; (rw [show j = (v4).toNat by omega]; omega)
          refine y_goto rfl rfl ?_
          exact Pl_weak (ih28 (by omega) (v3) ((v4 + 1)) (by omega) (by omega) (by first | exact a28 | (unfold oaR; first | (rw [if_pos (by omega)]) | (rw [if_neg (by omega)]))) (by omega) (by omega) (by first | exact W48 | (have e : v3 = oaR S from_ to := (by unfold oaR; first | (rw [if_pos (by omega)]) | (rw [if_neg (by omega)])); exact fun j h1 h2 => absurd h2 (by omega)) | exact fun j h1 h2 => absurd h2 (by unfold oaR at h1; first | (rw [if_pos (by omega)] at h1; omega) | (rw [if_neg (by omega)] at h1; omega)))) (by omega) (And.intro rfl (And.intro rfl (And.intro rfl (And.intro rfl (True.intro)))))
        · refine y_bipush rfl rfl ?_
          refine y_ireturn rfl rfl ?_
          exact ⟨rfl, _, rfl, ⟨by omega, by omega⟩, (by first | (have u := K60; first | exact ob_y a28 (by omega) m60 (by omega) (fun j h1 h2 => W28.o j h1 (by omega)) | exact ob_n a28 (by omega) m60 (by omega)) | exact ob_w (v := v4) a28 (by omega) (by omega))⟩
  refine y_iload_n rfl rfl ?_
  refine y_iload_n rfl rfl ?_
  refine y_icmp_ge rfl rfl (by unfold rg; omega) (by unfold rg; omega) (fun w16 => ?_) (fun w17 => ?_)
  · refine y_iload_n rfl rfl ?_
    refine y_istore_n rfl rfl rfl ?_
    refine y_iload_n rfl rfl ?_
    refine y_istore rfl rfl rfl ?_
    exact Pl_weak (C28 fu (by omega) (from_) (from_) (by omega) (by omega) (by first | exact a28 | (unfold oaR; first | (rw [if_pos (by omega)]) | (rw [if_neg (by omega)]))) (by omega) (by omega) (by first | exact W48 | (have e : v3 = oaR S from_ to := (by unfold oaR; first | (rw [if_pos (by omega)]) | (rw [if_neg (by omega)])); exact fun j h1 h2 => absurd h2 (by omega)) | exact fun j h1 h2 => absurd h2 (by unfold oaR at h1; first | (rw [if_pos (by omega)] at h1; omega) | (rw [if_neg (by omega)] at h1; omega)))) (by omega) (And.intro rfl (And.intro rfl (And.intro rfl (And.intro rfl (True.intro)))))
  · refine y_aload_n rfl rfl ?_
    refine y_gfr rfl rfl rfl rfl rfl (hH.r 904 4 907 rfl) ?_
    refine y_iload_n rfl rfl ?_
    refine y_ialoadP (n := 5002) rfl rfl (by unfold rg; omega) (fun w18 w19 => ?_)
    have w20 : -2147483648 ≤ (Xi S 907 ((from_).toNat)) ∧ (Xi S 907 ((from_).toNat)) ≤ 2147483647 := Xi_rgI
    refine y_callS rfl rfl (by decide) rfl (t_mo_isArt__p hH (Xi S 907 ((from_).toNat)) ⟨by omega, by omega⟩ _) ?_
    rintro _ _ ⟨rfl, z23, rfl, w23, w21, w22⟩
    show Pl _ _ _ _ _ _ [iv z23] _ _
    refine y_if_eq rfl rfl (by unfold rg; omega) (fun w24 => ?_) (fun w25 => ?_)
    · refine y_iload_n rfl rfl ?_
      refine y_istore_n rfl rfl rfl ?_
      refine y_iload_n rfl rfl ?_
      refine y_istore rfl rfl rfl ?_
      exact Pl_weak (C28 fu (by omega) (from_) (from_) (by omega) (by omega) (by first | exact a28 | (unfold oaR; first | (rw [if_pos (by omega)]) | (rw [if_neg (by omega)]))) (by omega) (by omega) (by first | exact W48 | (have e : v3 = oaR S from_ to := (by unfold oaR; first | (rw [if_pos (by omega)]) | (rw [if_neg (by omega)])); exact fun j h1 h2 => absurd h2 (by omega)) | exact fun j h1 h2 => absurd h2 (by unfold oaR at h1; first | (rw [if_pos (by omega)] at h1; omega) | (rw [if_neg (by omega)] at h1; omega)))) (by omega) (And.intro rfl (And.intro rfl (And.intro rfl (And.intro rfl (True.intro)))))
    · refine y_iload_n rfl rfl ?_
      refine y_iconst rfl ?_
      refine y_iadd rfl ?_
      refine y_goto rfl rfl ?_
      refine y_istore_n rfl rfl rfl ?_
      refine y_iload_n rfl rfl ?_
      refine y_istore rfl rfl rfl ?_
      exact Pl_weak (C28 fu (by omega) ((from_ + 1)) ((from_ + 1)) (by omega) (by omega) (by first | exact a28 | (unfold oaR; first | (rw [if_pos (by omega)]) | (rw [if_neg (by omega)]))) (by omega) (by omega) (by first | exact W48 | (have e : v3 = oaR S from_ to := (by unfold oaR; first | (rw [if_pos (by omega)]) | (rw [if_neg (by omega)])); exact fun j h1 h2 => absurd h2 (by omega)) | exact fun j h1 h2 => absurd h2 (by unfold oaR at h1; first | (rw [if_pos (by omega)] at h1; omega) | (rw [if_neg (by omega)] at h1; omega)))) (by omega) (And.intro rfl (And.intro rfl (And.intro rfl (And.intro rfl (True.intro)))))
def md_mo_listOf__p : List rec := [(988, 989, 0, 100000)]
abbrev Q_mo_listOf__p (S : sS) (from_ : Int) (to : Int) (kind : Int) : pst := fun r S1 => RI S1 ∧ FR md_mo_listOf__p S S1 ∧ (∃ z : Int, r = some (iv z) ∧ (-2147483648 ≤ z ∧ z ≤ 2147483647) ∧ (LOF S S1 988 from_ to kind z))
set_option maxRecDepth 100000 in
theorem t_mo_listOf__p {S : sS} (hH : RI S) (from_ : Int) (to : Int) (kind : Int) (hfrom_ : 0 ≤ from_ ∧ from_ ≤ 5140) (hto : 0 ≤ to ∧ to ≤ 5140) (hkind : -2147483648 ≤ kind ∧ kind ≤ 2147483647) (hLS : LSP S) (h15 : 0 ≤ Xi S 904 15) (hB : ABV S) (hko : Hid (∀ j : Nat, -1 ≤ Xi S 918 j ∧ Xi S 918 j ≤ 15)) (d : Nat) : Mp lay0 (d + 5) m_mo_listOf [.ref 904, iv from_, iv to, .ref 988, iv kind] S (Q_mo_listOf__p S from_ to kind) := by
  refine Mp_R rfl rfl (fun fu => ?_)
  have hF : FR md_mo_listOf__p S S := FR.rf
  have w1 : -2147483648 ≤ Xi S 904 15 ∧ Xi S 904 15 ≤ 2147483647 := Xi_rgI
  have C9 : ∀ (n9 : Nat) (_ : n9 ≤ fu) (T1 : sS) (_ : RI T1) (_ : FR md_mo_listOf__p S T1) (v5 : Int) (v6 : Int) (v7 : Int), (0 ≤ v5 ∧ v5 ≤ 5150) → (0 ≤ v6 ∧ v6 ≤ 5150) → (0 ≤ v7 ∧ v7 ≤ 1) → (0 ≤ v5 ∧ v5 ≤ v6) → (0 ≤ v6 ∧ v6 ≤ 5150) → (v7 = 1 → v6 ≤ 5142) → (0 ≤ v7 ∧ v7 ≤ 1) → (Hid (LOC S T1 988 from_ to kind v6 v7 v5)) → Pl n9 lay0 (d + 4) m_mo_listOf 9 [(0, .ref 904), (2, iv to), (3, .ref 988), (4, iv kind), (5, iv v5), (6, iv v6), (7, iv v7)] [] T1 (Q_mo_listOf__p S from_ to kind) := by
    intro n9
    induction n9 with
    | zero => intros; exact Pl_0
    | succ n9 ih9 =>
      intro hm9 T1 hHT1 hFT1 v5 v6 v7 w2 w3 w4 w5 w6 w7 w8 L9
      have w9 : Xi T1 904 15 = Xi S 904 15 := hFT1.x _ _ rfl
      have w10 : Xi T1 904 19 = Xi S 904 19 := hFT1.x _ _ rfl
      have C18 : ∀ (n18 : Nat) (_ : n18 ≤ n9) (T2 : sS) (_ : RI T2) (_ : FR md_mo_listOf__p S T2) (v5 : Int) (v6 : Int) (v8 : Int), (0 ≤ v5 ∧ v5 ≤ 5150) → (0 ≤ v6 ∧ v6 ≤ 5150) → (0 ≤ v8 ∧ v8 ≤ 5142) → (0 ≤ v5 ∧ v5 ≤ v6) → (0 ≤ v6 ∧ v6 ≤ 5142) → (v6 ≤ v8 ∧ v8 ≤ 5142) → (Hid (LOC S T2 988 from_ to kind v6 1 v5)) → (nxS S to v6 = nxS S to v8) → Pl n18 lay0 (d + 4) m_mo_listOf 18 [(0, .ref 904), (2, iv to), (3, .ref 988), (4, iv kind), (5, iv v5), (6, iv v6), (8, iv v8)] [] T2 (Q_mo_listOf__p S from_ to kind) := by
        intro n18
        induction n18 with
        | zero => intros; exact Pl_0
        | succ n18 ih18 =>
          intro hm18 T2 hHT2 hFT2 v5 v6 v8 w11 w12 w13 w14 w15 w16 L18 x18
          have w17 : Xi T2 904 15 = Xi S 904 15 := hFT2.x _ _ rfl
          have w18 : Xi T2 904 19 = Xi S 904 19 := hFT2.x _ _ rfl
          refine ys_iload rfl rfl ?_
          refine y_iload_n rfl rfl ?_
          refine y_icmp_ge rfl rfl (by unfold rg; omega) (by unfold rg; omega) (fun w19 => ?_) (fun w20 => ?_)
          · refine y_aload_n rfl rfl ?_
            have e54 : v8 = nxS S to v6 := (x18.trans (nx_e (by rw [← tkR_F hFT2 rfl]; omega))).symm
            refine y_iload rfl rfl ?_
            refine y_iload rfl rfl ?_
            refine y_callV rfl rfl rfl (t_mo_objectOf__p hHT2 v6 v8 ⟨by omega, by omega⟩ ⟨by omega, by omega⟩ (by first | assumption | exact (LSP_FR hFT2 rfl rfl (by assumption : LSP S))) (by first | assumption | omega) _) ?_
            rintro _ _ ⟨rfl, z21, rfl, w21, f59⟩
            show Pl _ _ _ _ _ _ [iv z21] _ _
            have K59 : True := trivial
            have o59 : z21 = obR S v6 v8 := f59.trans (obR_F hFT2 rfl (fun _ _ _ => msR_FR hFT2 rfl))
            clear f59
            refine y_istore rfl rfl rfl ?_
            refine y_iload rfl rfl ?_
            refine y_bipush rfl rfl ?_
            refine y_icmp_eq rfl rfl (by unfold rg; omega) (by unfold rg; omega) (fun w22 => ?_) (fun w23 => ?_)
            · refine y_iconst rfl ?_
              refine y_ireturn rfl rfl ?_
              exact ⟨hHT2, hFT2, _, rfl, ⟨by omega, by omega⟩, (by first | (have u := K59; exact loc_x L18.o (by omega) (by omega) e54 o59 (by first | (have u := K81; exact Or.inr (by rw [← b81]; omega)) | exact Or.inl (by omega))) | exact loc_z L9.o (by omega) (by omega))⟩
            · refine y_aload_n rfl rfl ?_
              refine y_aload_n rfl rfl ?_
              refine y_gfr rfl rfl rfl rfl rfl (hHT2.r 904 20 918 rfl) ?_
              refine y_iload rfl rfl ?_
              refine y_ialoadP (n := 24) rfl rfl (by unfold rg; omega) (fun w24 w25 => ?_)
              have w26 : -2147483648 ≤ (Xi T2 918 ((z21).toNat)) ∧ (Xi T2 918 ((z21).toNat)) ≤ 2147483647 := Xi_rgI
              have k78 := hko.o ((z21).toNat)
              have kk78 : Xi T2 918 ((z21).toNat) = Xi S 918 ((z21).toNat) := (hFT2.cx 918 rfl _).1
              refine y_iload rfl rfl ?_
              refine y_callV rfl rfl rfl (t_mo_isBelow__p hHT2 (Xi T2 918 ((z21).toNat)) kind ⟨by omega, by omega⟩ ⟨by omega, by omega⟩ (by first | assumption | exact (ABV_FR hFT2 rfl (by assumption : ABV S))) _) ?_
              rintro _ _ ⟨rfl, z27, rfl, w27, f81⟩
              show Pl _ _ _ _ _ _ [iv z27] _ _
              have K81 : True := trivial
              have b81 : z27 = blR S (Xi S 918 (z21).toNat) kind := by have t := f81; rw [blR_fr hFT2 rfl, kk78] at t; exact t
              clear f81
              refine y_if_ne rfl rfl (by unfold rg; omega) (fun w28 => ?_) (fun w29 => ?_)
              · refine y_aload_n rfl rfl ?_
                refine y_iload rfl rfl ?_
                refine y_iload rfl rfl ?_
                refine y_iastoreP (n := 2600) rfl rfl (by unfold rg; omega) (fun w30 w31 => ?_)
                obtain ⟨U3, eU3⟩ : ∃ T : sS, T = uI T2 988 ((v5).toNat) (Int32.ofInt z21) := ⟨_, rfl⟩
                rw [← eU3]
                have hHU3 : RI U3 := by rw [eU3]; exact RI_w hHT2
                have hFU3 : FR md_mo_listOf__p S U3 := by rw [eU3]; exact FR.wI hFT2 (mdf_i (r := (988, 989, 0, 100000)) (List.mem_of_getElem? (i := 0) rfl) (inR_i (by omega) (by omega) (by omega) (by omega)))
                have w32 : Xi U3 988 ((v5).toNat) = z21 := by rw [eU3]; exact Xi_same (by unfold rg; omega)
                have e94 := eU3
                have N94 : ¬ (z21 = -9 ∨ blR S (Xi S 918 (z21).toNat) kind = 0) := by rw [← b81]; omega
                refine y_iinc rfl rfl rfl rfl ?_
                refine y_iload rfl rfl ?_
                refine y_iload_n rfl rfl ?_
                refine y_icmp_ge rfl rfl (by unfold rg; omega) (by unfold rg; omega) (fun w33 => ?_) (fun w34 => ?_)
                · refine y_iconst rfl ?_
                  refine y_istore rfl rfl rfl ?_
                  refine y_iload rfl rfl ?_
                  refine y_iconst rfl ?_
                  refine y_iadd rfl ?_
                  refine y_istore rfl rfl rfl ?_
                  refine y_iload rfl rfl ?_
                  refine y_iload rfl rfl ?_
                  refine y_if_eq rfl rfl (by unfold rg; omega) (fun w35 => ?_) (fun w36 => absurd w36 (by omega))
                  · refine y_iconst rfl ?_
                    refine y_iadd rfl ?_
                    refine y_istore rfl rfl rfl ?_
                    have L160 : Hid (LOC S U3 988 from_ to kind ((v8 + 1) + 0) 0 (v5 + 1)) := loc_s (u := (v5).toNat) L18.o (by omega) e54 o59 N94 (by unfold rg; omega) (by omega) e94 (by first | exact Or.inl ⟨by omega, by omega⟩ | exact Or.inr ⟨by omega, by omega, by unfold nxP; first | (rw [if_pos (by rw [← tkR_F hFU3 rfl, ← tkR_F hFU3 rfl]; omega)]; omega) | (rw [if_neg (by rw [← tkR_F hFU3 rfl, ← tkR_F hFU3 rfl]; omega)]; omega)⟩)
                    refine y_goto rfl rfl ?_
                    exact Pl_weak (ih9 (by omega) U3 hHU3 hFU3 ((v5 + 1)) (((v8 + 1) + 0)) (0) (by omega) (by omega) (by omega) (by omega) (by omega) (by omega) (by omega) (by first | exact L160 | exact loc_0)) (by omega) (And.intro rfl (And.intro rfl (And.intro rfl (And.intro rfl (And.intro rfl (And.intro rfl (And.intro rfl (True.intro))))))))
                · refine y_iconst rfl ?_
                  refine y_goto rfl rfl ?_
                  refine y_istore rfl rfl rfl ?_
                  refine y_iload rfl rfl ?_
                  refine y_iconst rfl ?_
                  refine y_iadd rfl ?_
                  refine y_istore rfl rfl rfl ?_
                  refine y_iload rfl rfl ?_
                  refine y_iload rfl rfl ?_
                  refine y_if_eq rfl rfl (by unfold rg; omega) (fun w37 => absurd w37 (by omega)) (fun w38 => ?_)
                  · refine y_aload_n rfl rfl ?_
                    refine y_gfr rfl rfl rfl rfl rfl (hHU3.r 904 4 907 rfl) ?_
                    refine y_iload rfl rfl ?_
                    refine y_ialoadP (n := 5002) rfl rfl (by unfold rg; omega) (fun w39 w40 => ?_)
                    have w41 : -2147483648 ≤ (Xi U3 907 ((v8).toNat)) ∧ (Xi U3 907 ((v8).toNat)) ≤ 2147483647 := Xi_rgI
                    refine y_bipush rfl rfl ?_
                    refine y_icmp_ne rfl rfl (by unfold rg; omega) (by unfold rg; omega) (fun w42 => ?_) (fun w43 => ?_)
                    · refine y_iconst rfl ?_
                      refine y_iadd rfl ?_
                      refine y_istore rfl rfl rfl ?_
                      have L160 : Hid (LOC S U3 988 from_ to kind ((v8 + 1) + 0) 1 (v5 + 1)) := loc_s (u := (v5).toNat) L18.o (by omega) e54 o59 N94 (by unfold rg; omega) (by omega) e94 (by first | exact Or.inl ⟨by omega, by omega⟩ | exact Or.inr ⟨by omega, by omega, by unfold nxP; first | (rw [if_pos (by rw [← tkR_F hFU3 rfl, ← tkR_F hFU3 rfl]; omega)]; omega) | (rw [if_neg (by rw [← tkR_F hFU3 rfl, ← tkR_F hFU3 rfl]; omega)]; omega)⟩)
                      refine y_goto rfl rfl ?_
                      exact Pl_weak (ih9 (by omega) U3 hHU3 hFU3 ((v5 + 1)) (((v8 + 1) + 0)) (1) (by omega) (by omega) (by omega) (by omega) (by omega) (by omega) (by omega) (by first | exact L160 | exact loc_0)) (by omega) (And.intro rfl (And.intro rfl (And.intro rfl (And.intro rfl (And.intro rfl (And.intro rfl (And.intro rfl (True.intro))))))))
                    · refine y_iload rfl rfl ?_
                      refine y_iload_n rfl rfl ?_
                      refine y_icmp_ge rfl rfl (by unfold rg; omega) (by unfold rg; omega) (fun w44 => ?_) (fun w45 => ?_)
                      · refine y_iconst rfl ?_
                        refine y_iadd rfl ?_
                        refine y_istore rfl rfl rfl ?_
                        have L160 : Hid (LOC S U3 988 from_ to kind ((v8 + 1) + 0) 1 (v5 + 1)) := loc_s (u := (v5).toNat) L18.o (by omega) e54 o59 N94 (by unfold rg; omega) (by omega) e94 (by first | exact Or.inl ⟨by omega, by omega⟩ | exact Or.inr ⟨by omega, by omega, by unfold nxP; first | (rw [if_pos (by rw [← tkR_F hFU3 rfl, ← tkR_F hFU3 rfl]; omega)]; omega) | (rw [if_neg (by rw [← tkR_F hFU3 rfl, ← tkR_F hFU3 rfl]; omega)]; omega)⟩)
                        refine y_goto rfl rfl ?_
                        exact Pl_weak (ih9 (by omega) U3 hHU3 hFU3 ((v5 + 1)) (((v8 + 1) + 0)) (1) (by omega) (by omega) (by omega) (by omega) (by omega) (by omega) (by omega) (by first | exact L160 | exact loc_0)) (by omega) (And.intro rfl (And.intro rfl (And.intro rfl (And.intro rfl (And.intro rfl (And.intro rfl (And.intro rfl (True.intro))))))))
                      · refine y_aload_n rfl rfl ?_
                        refine y_gfr rfl rfl rfl rfl rfl (hHU3.r 904 4 907 rfl) ?_
                        refine y_iload rfl rfl ?_
                        refine y_ialoadP (n := 5002) rfl rfl (by unfold rg; omega) (fun w46 w47 => ?_)
                        have w48 : -2147483648 ≤ (Xi U3 907 (((v8 + 1)).toNat)) ∧ (Xi U3 907 (((v8 + 1)).toNat)) ≤ 2147483647 := Xi_rgI
                        refine y_bipush rfl rfl ?_
                        refine y_icmp_ne rfl rfl (by unfold rg; omega) (by unfold rg; omega) (fun w49 => ?_) (fun w50 => ?_)
                        · refine y_iconst rfl ?_
                          refine y_iadd rfl ?_
                          refine y_istore rfl rfl rfl ?_
                          have L160 : Hid (LOC S U3 988 from_ to kind ((v8 + 1) + 0) 1 (v5 + 1)) := loc_s (u := (v5).toNat) L18.o (by omega) e54 o59 N94 (by unfold rg; omega) (by omega) e94 (by first | exact Or.inl ⟨by omega, by omega⟩ | exact Or.inr ⟨by omega, by omega, by unfold nxP; first | (rw [if_pos (by rw [← tkR_F hFU3 rfl, ← tkR_F hFU3 rfl]; omega)]; omega) | (rw [if_neg (by rw [← tkR_F hFU3 rfl, ← tkR_F hFU3 rfl]; omega)]; omega)⟩)
                          refine y_goto rfl rfl ?_
                          exact Pl_weak (ih9 (by omega) U3 hHU3 hFU3 ((v5 + 1)) (((v8 + 1) + 0)) (1) (by omega) (by omega) (by omega) (by omega) (by omega) (by omega) (by omega) (by first | exact L160 | exact loc_0)) (by omega) (And.intro rfl (And.intro rfl (And.intro rfl (And.intro rfl (And.intro rfl (And.intro rfl (And.intro rfl (True.intro))))))))
                        · refine y_iconst rfl ?_
                          refine y_goto rfl rfl ?_
                          refine y_iadd rfl ?_
                          refine y_istore rfl rfl rfl ?_
                          have L160 : Hid (LOC S U3 988 from_ to kind ((v8 + 1) + 1) 1 (v5 + 1)) := loc_s (u := (v5).toNat) L18.o (by omega) e54 o59 N94 (by unfold rg; omega) (by omega) e94 (by first | exact Or.inl ⟨by omega, by omega⟩ | exact Or.inr ⟨by omega, by omega, by unfold nxP; first | (rw [if_pos (by rw [← tkR_F hFU3 rfl, ← tkR_F hFU3 rfl]; omega)]; omega) | (rw [if_neg (by rw [← tkR_F hFU3 rfl, ← tkR_F hFU3 rfl]; omega)]; omega)⟩)
                          refine y_goto rfl rfl ?_
                          exact Pl_weak (ih9 (by omega) U3 hHU3 hFU3 ((v5 + 1)) (((v8 + 1) + 1)) (1) (by omega) (by omega) (by omega) (by omega) (by omega) (by omega) (by omega) (by first | exact L160 | exact loc_0)) (by omega) (And.intro rfl (And.intro rfl (And.intro rfl (And.intro rfl (And.intro rfl (And.intro rfl (And.intro rfl (True.intro))))))))
              · refine y_iconst rfl ?_
                refine y_ireturn rfl rfl ?_
                exact ⟨hHT2, hFT2, _, rfl, ⟨by omega, by omega⟩, (by first | (have u := K59; exact loc_x L18.o (by omega) (by omega) e54 o59 (by first | (have u := K81; exact Or.inr (by rw [← b81]; omega)) | exact Or.inl (by omega))) | exact loc_z L9.o (by omega) (by omega))⟩
          · refine y_aload_n rfl rfl ?_
            refine y_gfr rfl rfl rfl rfl rfl (hHT2.r 904 4 907 rfl) ?_
            refine y_iload rfl rfl ?_
            refine y_ialoadP (n := 5002) rfl rfl (by unfold rg; omega) (fun w51 w52 => ?_)
            have w53 : -2147483648 ≤ (Xi T2 907 ((v8).toNat)) ∧ (Xi T2 907 ((v8).toNat)) ≤ 2147483647 := Xi_rgI
            refine y_bipush rfl rfl ?_
            refine y_icmp_eq rfl rfl (by unfold rg; omega) (by unfold rg; omega) (fun w54 => ?_) (fun w55 => ?_)
            · refine y_aload_n rfl rfl ?_
              have e54 : v8 = nxS S to v6 := (x18.trans (nx_e (by rw [← tkR_F hFT2 rfl]; omega))).symm
              refine y_iload rfl rfl ?_
              refine y_iload rfl rfl ?_
              refine y_callV rfl rfl rfl (t_mo_objectOf__p hHT2 v6 v8 ⟨by omega, by omega⟩ ⟨by omega, by omega⟩ (by first | assumption | exact (LSP_FR hFT2 rfl rfl (by assumption : LSP S))) (by first | assumption | omega) _) ?_
              rintro _ _ ⟨rfl, z56, rfl, w56, f59⟩
              show Pl _ _ _ _ _ _ [iv z56] _ _
              have K59 : True := trivial
              have o59 : z56 = obR S v6 v8 := f59.trans (obR_F hFT2 rfl (fun _ _ _ => msR_FR hFT2 rfl))
              clear f59
              refine y_istore rfl rfl rfl ?_
              refine y_iload rfl rfl ?_
              refine y_bipush rfl rfl ?_
              refine y_icmp_eq rfl rfl (by unfold rg; omega) (by unfold rg; omega) (fun w57 => ?_) (fun w58 => ?_)
              · refine y_iconst rfl ?_
                refine y_ireturn rfl rfl ?_
                exact ⟨hHT2, hFT2, _, rfl, ⟨by omega, by omega⟩, (by first | (have u := K59; exact loc_x L18.o (by omega) (by omega) e54 o59 (by first | (have u := K81; exact Or.inr (by rw [← b81]; omega)) | exact Or.inl (by omega))) | exact loc_z L9.o (by omega) (by omega))⟩
              · refine y_aload_n rfl rfl ?_
                refine y_aload_n rfl rfl ?_
                refine y_gfr rfl rfl rfl rfl rfl (hHT2.r 904 20 918 rfl) ?_
                refine y_iload rfl rfl ?_
                refine y_ialoadP (n := 24) rfl rfl (by unfold rg; omega) (fun w59 w60 => ?_)
                have w61 : -2147483648 ≤ (Xi T2 918 ((z56).toNat)) ∧ (Xi T2 918 ((z56).toNat)) ≤ 2147483647 := Xi_rgI
                have k78 := hko.o ((z56).toNat)
                have kk78 : Xi T2 918 ((z56).toNat) = Xi S 918 ((z56).toNat) := (hFT2.cx 918 rfl _).1
                refine y_iload rfl rfl ?_
                refine y_callV rfl rfl rfl (t_mo_isBelow__p hHT2 (Xi T2 918 ((z56).toNat)) kind ⟨by omega, by omega⟩ ⟨by omega, by omega⟩ (by first | assumption | exact (ABV_FR hFT2 rfl (by assumption : ABV S))) _) ?_
                rintro _ _ ⟨rfl, z62, rfl, w62, f81⟩
                show Pl _ _ _ _ _ _ [iv z62] _ _
                have K81 : True := trivial
                have b81 : z62 = blR S (Xi S 918 (z56).toNat) kind := by have t := f81; rw [blR_fr hFT2 rfl, kk78] at t; exact t
                clear f81
                refine y_if_ne rfl rfl (by unfold rg; omega) (fun w63 => ?_) (fun w64 => ?_)
                · refine y_aload_n rfl rfl ?_
                  refine y_iload rfl rfl ?_
                  refine y_iload rfl rfl ?_
                  refine y_iastoreP (n := 2600) rfl rfl (by unfold rg; omega) (fun w65 w66 => ?_)
                  obtain ⟨U4, eU4⟩ : ∃ T : sS, T = uI T2 988 ((v5).toNat) (Int32.ofInt z56) := ⟨_, rfl⟩
                  rw [← eU4]
                  have hHU4 : RI U4 := by rw [eU4]; exact RI_w hHT2
                  have hFU4 : FR md_mo_listOf__p S U4 := by rw [eU4]; exact FR.wI hFT2 (mdf_i (r := (988, 989, 0, 100000)) (List.mem_of_getElem? (i := 0) rfl) (inR_i (by omega) (by omega) (by omega) (by omega)))
                  have w67 : Xi U4 988 ((v5).toNat) = z56 := by rw [eU4]; exact Xi_same (by unfold rg; omega)
                  have e94 := eU4
                  have N94 : ¬ (z56 = -9 ∨ blR S (Xi S 918 (z56).toNat) kind = 0) := by rw [← b81]; omega
                  refine y_iinc rfl rfl rfl rfl ?_
                  refine y_iload rfl rfl ?_
                  refine y_iload_n rfl rfl ?_
                  refine y_icmp_ge rfl rfl (by unfold rg; omega) (by unfold rg; omega) (fun w68 => ?_) (fun w69 => ?_)
                  · refine y_iconst rfl ?_
                    refine y_istore rfl rfl rfl ?_
                    refine y_iload rfl rfl ?_
                    refine y_iconst rfl ?_
                    refine y_iadd rfl ?_
                    refine y_istore rfl rfl rfl ?_
                    refine y_iload rfl rfl ?_
                    refine y_iload rfl rfl ?_
                    refine y_if_eq rfl rfl (by unfold rg; omega) (fun w70 => ?_) (fun w71 => absurd w71 (by omega))
                    · refine y_iconst rfl ?_
                      refine y_iadd rfl ?_
                      refine y_istore rfl rfl rfl ?_
                      have L160 : Hid (LOC S U4 988 from_ to kind ((v8 + 1) + 0) 0 (v5 + 1)) := loc_s (u := (v5).toNat) L18.o (by omega) e54 o59 N94 (by unfold rg; omega) (by omega) e94 (by first | exact Or.inl ⟨by omega, by omega⟩ | exact Or.inr ⟨by omega, by omega, by unfold nxP; first | (rw [if_pos (by rw [← tkR_F hFU4 rfl, ← tkR_F hFU4 rfl]; omega)]; omega) | (rw [if_neg (by rw [← tkR_F hFU4 rfl, ← tkR_F hFU4 rfl]; omega)]; omega)⟩)
                      refine y_goto rfl rfl ?_
                      exact Pl_weak (ih9 (by omega) U4 hHU4 hFU4 ((v5 + 1)) (((v8 + 1) + 0)) (0) (by omega) (by omega) (by omega) (by omega) (by omega) (by omega) (by omega) (by first | exact L160 | exact loc_0)) (by omega) (And.intro rfl (And.intro rfl (And.intro rfl (And.intro rfl (And.intro rfl (And.intro rfl (And.intro rfl (True.intro))))))))
                  · refine y_iconst rfl ?_
                    refine y_goto rfl rfl ?_
                    refine y_istore rfl rfl rfl ?_
                    refine y_iload rfl rfl ?_
                    refine y_iconst rfl ?_
                    refine y_iadd rfl ?_
                    refine y_istore rfl rfl rfl ?_
                    refine y_iload rfl rfl ?_
                    refine y_iload rfl rfl ?_
                    refine y_if_eq rfl rfl (by unfold rg; omega) (fun w72 => absurd w72 (by omega)) (fun w73 => ?_)
                    · refine y_aload_n rfl rfl ?_
                      refine y_gfr rfl rfl rfl rfl rfl (hHU4.r 904 4 907 rfl) ?_
                      refine y_iload rfl rfl ?_
                      refine y_ialoadP (n := 5002) rfl rfl (by unfold rg; omega) (fun w74 w75 => ?_)
                      have w76 : (Xi U4 907 ((v8).toNat)) = (Xi T2 907 ((v8).toNat)) := (show Xi U4 907 ((v8).toNat) = Xi T2 907 ((v8).toNat) from by rw [eU4]; exact Xi_ne (by omega))
                      rw [w76]
                      refine y_bipush rfl rfl ?_
                      refine y_icmp_ne rfl rfl (by unfold rg; omega) (by unfold rg; omega) (fun w77 => ?_) (fun w78 => ?_)
                      · refine y_iconst rfl ?_
                        refine y_iadd rfl ?_
                        refine y_istore rfl rfl rfl ?_
                        have L160 : Hid (LOC S U4 988 from_ to kind ((v8 + 1) + 0) 1 (v5 + 1)) := loc_s (u := (v5).toNat) L18.o (by omega) e54 o59 N94 (by unfold rg; omega) (by omega) e94 (by first | exact Or.inl ⟨by omega, by omega⟩ | exact Or.inr ⟨by omega, by omega, by unfold nxP; first | (rw [if_pos (by rw [← tkR_F hFU4 rfl, ← tkR_F hFU4 rfl]; omega)]; omega) | (rw [if_neg (by rw [← tkR_F hFU4 rfl, ← tkR_F hFU4 rfl]; omega)]; omega)⟩)
                        refine y_goto rfl rfl ?_
                        exact Pl_weak (ih9 (by omega) U4 hHU4 hFU4 ((v5 + 1)) (((v8 + 1) + 0)) (1) (by omega) (by omega) (by omega) (by omega) (by omega) (by omega) (by omega) (by first | exact L160 | exact loc_0)) (by omega) (And.intro rfl (And.intro rfl (And.intro rfl (And.intro rfl (And.intro rfl (And.intro rfl (And.intro rfl (True.intro))))))))
                      · refine y_iload rfl rfl ?_
                        refine y_iload_n rfl rfl ?_
                        refine y_icmp_ge rfl rfl (by unfold rg; omega) (by unfold rg; omega) (fun w79 => ?_) (fun w80 => ?_)
                        · refine y_iconst rfl ?_
                          refine y_iadd rfl ?_
                          refine y_istore rfl rfl rfl ?_
                          have L160 : Hid (LOC S U4 988 from_ to kind ((v8 + 1) + 0) 1 (v5 + 1)) := loc_s (u := (v5).toNat) L18.o (by omega) e54 o59 N94 (by unfold rg; omega) (by omega) e94 (by first | exact Or.inl ⟨by omega, by omega⟩ | exact Or.inr ⟨by omega, by omega, by unfold nxP; first | (rw [if_pos (by rw [← tkR_F hFU4 rfl, ← tkR_F hFU4 rfl]; omega)]; omega) | (rw [if_neg (by rw [← tkR_F hFU4 rfl, ← tkR_F hFU4 rfl]; omega)]; omega)⟩)
                          refine y_goto rfl rfl ?_
                          exact Pl_weak (ih9 (by omega) U4 hHU4 hFU4 ((v5 + 1)) (((v8 + 1) + 0)) (1) (by omega) (by omega) (by omega) (by omega) (by omega) (by omega) (by omega) (by first | exact L160 | exact loc_0)) (by omega) (And.intro rfl (And.intro rfl (And.intro rfl (And.intro rfl (And.intro rfl (And.intro rfl (And.intro rfl (True.intro))))))))
                        · refine y_aload_n rfl rfl ?_
                          refine y_gfr rfl rfl rfl rfl rfl (hHU4.r 904 4 907 rfl) ?_
                          refine y_iload rfl rfl ?_
                          refine y_ialoadP (n := 5002) rfl rfl (by unfold rg; omega) (fun w81 w82 => ?_)
                          have w83 : -2147483648 ≤ (Xi U4 907 (((v8 + 1)).toNat)) ∧ (Xi U4 907 (((v8 + 1)).toNat)) ≤ 2147483647 := Xi_rgI
                          refine y_bipush rfl rfl ?_
                          refine y_icmp_ne rfl rfl (by unfold rg; omega) (by unfold rg; omega) (fun w84 => ?_) (fun w85 => ?_)
                          · refine y_iconst rfl ?_
                            refine y_iadd rfl ?_
                            refine y_istore rfl rfl rfl ?_
                            have L160 : Hid (LOC S U4 988 from_ to kind ((v8 + 1) + 0) 1 (v5 + 1)) := loc_s (u := (v5).toNat) L18.o (by omega) e54 o59 N94 (by unfold rg; omega) (by omega) e94 (by first | exact Or.inl ⟨by omega, by omega⟩ | exact Or.inr ⟨by omega, by omega, by unfold nxP; first | (rw [if_pos (by rw [← tkR_F hFU4 rfl, ← tkR_F hFU4 rfl]; omega)]; omega) | (rw [if_neg (by rw [← tkR_F hFU4 rfl, ← tkR_F hFU4 rfl]; omega)]; omega)⟩)
                            refine y_goto rfl rfl ?_
                            exact Pl_weak (ih9 (by omega) U4 hHU4 hFU4 ((v5 + 1)) (((v8 + 1) + 0)) (1) (by omega) (by omega) (by omega) (by omega) (by omega) (by omega) (by omega) (by first | exact L160 | exact loc_0)) (by omega) (And.intro rfl (And.intro rfl (And.intro rfl (And.intro rfl (And.intro rfl (And.intro rfl (And.intro rfl (True.intro))))))))
                          · refine y_iconst rfl ?_
                            refine y_goto rfl rfl ?_
                            refine y_iadd rfl ?_
                            refine y_istore rfl rfl rfl ?_
                            have L160 : Hid (LOC S U4 988 from_ to kind ((v8 + 1) + 1) 1 (v5 + 1)) := loc_s (u := (v5).toNat) L18.o (by omega) e54 o59 N94 (by unfold rg; omega) (by omega) e94 (by first | exact Or.inl ⟨by omega, by omega⟩ | exact Or.inr ⟨by omega, by omega, by unfold nxP; first | (rw [if_pos (by rw [← tkR_F hFU4 rfl, ← tkR_F hFU4 rfl]; omega)]; omega) | (rw [if_neg (by rw [← tkR_F hFU4 rfl, ← tkR_F hFU4 rfl]; omega)]; omega)⟩)
                            refine y_goto rfl rfl ?_
                            exact Pl_weak (ih9 (by omega) U4 hHU4 hFU4 ((v5 + 1)) (((v8 + 1) + 1)) (1) (by omega) (by omega) (by omega) (by omega) (by omega) (by omega) (by omega) (by first | exact L160 | exact loc_0)) (by omega) (And.intro rfl (And.intro rfl (And.intro rfl (And.intro rfl (And.intro rfl (And.intro rfl (And.intro rfl (True.intro))))))))
                · refine y_iconst rfl ?_
                  refine y_ireturn rfl rfl ?_
                  exact ⟨hHT2, hFT2, _, rfl, ⟨by omega, by omega⟩, (by first | (have u := K59; exact loc_x L18.o (by omega) (by omega) e54 o59 (by first | (have u := K81; exact Or.inr (by rw [← b81]; omega)) | exact Or.inl (by omega))) | exact loc_z L9.o (by omega) (by omega))⟩
            · refine y_aload_n rfl rfl ?_
              refine y_gfr rfl rfl rfl rfl rfl (hHT2.r 904 4 907 rfl) ?_
              refine y_iload rfl rfl ?_
              refine y_ialoadP (n := 5002) rfl rfl (by unfold rg; omega) (fun w86 w87 => ?_)
              refine y_bipush rfl rfl ?_
              refine y_icmp_eq rfl rfl (by unfold rg; omega) (by unfold rg; omega) (fun w88 => ?_) (fun w89 => ?_)
              · refine y_aload_n rfl rfl ?_
                have e54 : v8 = nxS S to v6 := (x18.trans (nx_e (by rw [← tkR_F hFT2 rfl]; omega))).symm
                refine y_iload rfl rfl ?_
                refine y_iload rfl rfl ?_
                refine y_callV rfl rfl rfl (t_mo_objectOf__p hHT2 v6 v8 ⟨by omega, by omega⟩ ⟨by omega, by omega⟩ (by first | assumption | exact (LSP_FR hFT2 rfl rfl (by assumption : LSP S))) (by first | assumption | omega) _) ?_
                rintro _ _ ⟨rfl, z90, rfl, w90, f59⟩
                show Pl _ _ _ _ _ _ [iv z90] _ _
                have K59 : True := trivial
                have o59 : z90 = obR S v6 v8 := f59.trans (obR_F hFT2 rfl (fun _ _ _ => msR_FR hFT2 rfl))
                clear f59
                refine y_istore rfl rfl rfl ?_
                refine y_iload rfl rfl ?_
                refine y_bipush rfl rfl ?_
                refine y_icmp_eq rfl rfl (by unfold rg; omega) (by unfold rg; omega) (fun w91 => ?_) (fun w92 => ?_)
                · refine y_iconst rfl ?_
                  refine y_ireturn rfl rfl ?_
                  exact ⟨hHT2, hFT2, _, rfl, ⟨by omega, by omega⟩, (by first | (have u := K59; exact loc_x L18.o (by omega) (by omega) e54 o59 (by first | (have u := K81; exact Or.inr (by rw [← b81]; omega)) | exact Or.inl (by omega))) | exact loc_z L9.o (by omega) (by omega))⟩
                · refine y_aload_n rfl rfl ?_
                  refine y_aload_n rfl rfl ?_
                  refine y_gfr rfl rfl rfl rfl rfl (hHT2.r 904 20 918 rfl) ?_
                  refine y_iload rfl rfl ?_
                  refine y_ialoadP (n := 24) rfl rfl (by unfold rg; omega) (fun w93 w94 => ?_)
                  have w95 : -2147483648 ≤ (Xi T2 918 ((z90).toNat)) ∧ (Xi T2 918 ((z90).toNat)) ≤ 2147483647 := Xi_rgI
                  have k78 := hko.o ((z90).toNat)
                  have kk78 : Xi T2 918 ((z90).toNat) = Xi S 918 ((z90).toNat) := (hFT2.cx 918 rfl _).1
                  refine y_iload rfl rfl ?_
                  refine y_callV rfl rfl rfl (t_mo_isBelow__p hHT2 (Xi T2 918 ((z90).toNat)) kind ⟨by omega, by omega⟩ ⟨by omega, by omega⟩ (by first | assumption | exact (ABV_FR hFT2 rfl (by assumption : ABV S))) _) ?_
                  rintro _ _ ⟨rfl, z96, rfl, w96, f81⟩
                  show Pl _ _ _ _ _ _ [iv z96] _ _
                  have K81 : True := trivial
                  have b81 : z96 = blR S (Xi S 918 (z90).toNat) kind := by have t := f81; rw [blR_fr hFT2 rfl, kk78] at t; exact t
                  clear f81
                  refine y_if_ne rfl rfl (by unfold rg; omega) (fun w97 => ?_) (fun w98 => ?_)
                  · refine y_aload_n rfl rfl ?_
                    refine y_iload rfl rfl ?_
                    refine y_iload rfl rfl ?_
                    refine y_iastoreP (n := 2600) rfl rfl (by unfold rg; omega) (fun w99 w100 => ?_)
                    obtain ⟨U5, eU5⟩ : ∃ T : sS, T = uI T2 988 ((v5).toNat) (Int32.ofInt z90) := ⟨_, rfl⟩
                    rw [← eU5]
                    have hHU5 : RI U5 := by rw [eU5]; exact RI_w hHT2
                    have hFU5 : FR md_mo_listOf__p S U5 := by rw [eU5]; exact FR.wI hFT2 (mdf_i (r := (988, 989, 0, 100000)) (List.mem_of_getElem? (i := 0) rfl) (inR_i (by omega) (by omega) (by omega) (by omega)))
                    have w101 : Xi U5 988 ((v5).toNat) = z90 := by rw [eU5]; exact Xi_same (by unfold rg; omega)
                    have e94 := eU5
                    have N94 : ¬ (z90 = -9 ∨ blR S (Xi S 918 (z90).toNat) kind = 0) := by rw [← b81]; omega
                    refine y_iinc rfl rfl rfl rfl ?_
                    refine y_iload rfl rfl ?_
                    refine y_iload_n rfl rfl ?_
                    refine y_icmp_ge rfl rfl (by unfold rg; omega) (by unfold rg; omega) (fun w102 => ?_) (fun w103 => ?_)
                    · refine y_iconst rfl ?_
                      refine y_istore rfl rfl rfl ?_
                      refine y_iload rfl rfl ?_
                      refine y_iconst rfl ?_
                      refine y_iadd rfl ?_
                      refine y_istore rfl rfl rfl ?_
                      refine y_iload rfl rfl ?_
                      refine y_iload rfl rfl ?_
                      refine y_if_eq rfl rfl (by unfold rg; omega) (fun w104 => ?_) (fun w105 => absurd w105 (by omega))
                      · refine y_iconst rfl ?_
                        refine y_iadd rfl ?_
                        refine y_istore rfl rfl rfl ?_
                        have L160 : Hid (LOC S U5 988 from_ to kind ((v8 + 1) + 0) 0 (v5 + 1)) := loc_s (u := (v5).toNat) L18.o (by omega) e54 o59 N94 (by unfold rg; omega) (by omega) e94 (by first | exact Or.inl ⟨by omega, by omega⟩ | exact Or.inr ⟨by omega, by omega, by unfold nxP; first | (rw [if_pos (by rw [← tkR_F hFU5 rfl, ← tkR_F hFU5 rfl]; omega)]; omega) | (rw [if_neg (by rw [← tkR_F hFU5 rfl, ← tkR_F hFU5 rfl]; omega)]; omega)⟩)
                        refine y_goto rfl rfl ?_
                        exact Pl_weak (ih9 (by omega) U5 hHU5 hFU5 ((v5 + 1)) (((v8 + 1) + 0)) (0) (by omega) (by omega) (by omega) (by omega) (by omega) (by omega) (by omega) (by first | exact L160 | exact loc_0)) (by omega) (And.intro rfl (And.intro rfl (And.intro rfl (And.intro rfl (And.intro rfl (And.intro rfl (And.intro rfl (True.intro))))))))
                    · refine y_iconst rfl ?_
                      refine y_goto rfl rfl ?_
                      refine y_istore rfl rfl rfl ?_
                      refine y_iload rfl rfl ?_
                      refine y_iconst rfl ?_
                      refine y_iadd rfl ?_
                      refine y_istore rfl rfl rfl ?_
                      refine y_iload rfl rfl ?_
                      refine y_iload rfl rfl ?_
                      refine y_if_eq rfl rfl (by unfold rg; omega) (fun w106 => absurd w106 (by omega)) (fun w107 => ?_)
                      · refine y_aload_n rfl rfl ?_
                        refine y_gfr rfl rfl rfl rfl rfl (hHU5.r 904 4 907 rfl) ?_
                        refine y_iload rfl rfl ?_
                        refine y_ialoadP (n := 5002) rfl rfl (by unfold rg; omega) (fun w108 w109 => ?_)
                        have w110 : (Xi U5 907 ((v8).toNat)) = (Xi T2 907 ((v8).toNat)) := (show Xi U5 907 ((v8).toNat) = Xi T2 907 ((v8).toNat) from by rw [eU5]; exact Xi_ne (by omega))
                        rw [w110]
                        refine y_bipush rfl rfl ?_
                        refine y_icmp_ne rfl rfl (by unfold rg; omega) (by unfold rg; omega) (fun w111 => ?_) (fun w112 => ?_)
                        · refine y_iconst rfl ?_
                          refine y_iadd rfl ?_
                          refine y_istore rfl rfl rfl ?_
                          have L160 : Hid (LOC S U5 988 from_ to kind ((v8 + 1) + 0) 1 (v5 + 1)) := loc_s (u := (v5).toNat) L18.o (by omega) e54 o59 N94 (by unfold rg; omega) (by omega) e94 (by first | exact Or.inl ⟨by omega, by omega⟩ | exact Or.inr ⟨by omega, by omega, by unfold nxP; first | (rw [if_pos (by rw [← tkR_F hFU5 rfl, ← tkR_F hFU5 rfl]; omega)]; omega) | (rw [if_neg (by rw [← tkR_F hFU5 rfl, ← tkR_F hFU5 rfl]; omega)]; omega)⟩)
                          refine y_goto rfl rfl ?_
                          exact Pl_weak (ih9 (by omega) U5 hHU5 hFU5 ((v5 + 1)) (((v8 + 1) + 0)) (1) (by omega) (by omega) (by omega) (by omega) (by omega) (by omega) (by omega) (by first | exact L160 | exact loc_0)) (by omega) (And.intro rfl (And.intro rfl (And.intro rfl (And.intro rfl (And.intro rfl (And.intro rfl (And.intro rfl (True.intro))))))))
                        · refine y_iload rfl rfl ?_
                          refine y_iload_n rfl rfl ?_
                          refine y_icmp_ge rfl rfl (by unfold rg; omega) (by unfold rg; omega) (fun w113 => ?_) (fun w114 => ?_)
                          · refine y_iconst rfl ?_
                            refine y_iadd rfl ?_
                            refine y_istore rfl rfl rfl ?_
                            have L160 : Hid (LOC S U5 988 from_ to kind ((v8 + 1) + 0) 1 (v5 + 1)) := loc_s (u := (v5).toNat) L18.o (by omega) e54 o59 N94 (by unfold rg; omega) (by omega) e94 (by first | exact Or.inl ⟨by omega, by omega⟩ | exact Or.inr ⟨by omega, by omega, by unfold nxP; first | (rw [if_pos (by rw [← tkR_F hFU5 rfl, ← tkR_F hFU5 rfl]; omega)]; omega) | (rw [if_neg (by rw [← tkR_F hFU5 rfl, ← tkR_F hFU5 rfl]; omega)]; omega)⟩)
                            refine y_goto rfl rfl ?_
                            exact Pl_weak (ih9 (by omega) U5 hHU5 hFU5 ((v5 + 1)) (((v8 + 1) + 0)) (1) (by omega) (by omega) (by omega) (by omega) (by omega) (by omega) (by omega) (by first | exact L160 | exact loc_0)) (by omega) (And.intro rfl (And.intro rfl (And.intro rfl (And.intro rfl (And.intro rfl (And.intro rfl (And.intro rfl (True.intro))))))))
                          · refine y_aload_n rfl rfl ?_
                            refine y_gfr rfl rfl rfl rfl rfl (hHU5.r 904 4 907 rfl) ?_
                            refine y_iload rfl rfl ?_
                            refine y_ialoadP (n := 5002) rfl rfl (by unfold rg; omega) (fun w115 w116 => ?_)
                            have w117 : -2147483648 ≤ (Xi U5 907 (((v8 + 1)).toNat)) ∧ (Xi U5 907 (((v8 + 1)).toNat)) ≤ 2147483647 := Xi_rgI
                            refine y_bipush rfl rfl ?_
                            refine y_icmp_ne rfl rfl (by unfold rg; omega) (by unfold rg; omega) (fun w118 => ?_) (fun w119 => ?_)
                            · refine y_iconst rfl ?_
                              refine y_iadd rfl ?_
                              refine y_istore rfl rfl rfl ?_
                              have L160 : Hid (LOC S U5 988 from_ to kind ((v8 + 1) + 0) 1 (v5 + 1)) := loc_s (u := (v5).toNat) L18.o (by omega) e54 o59 N94 (by unfold rg; omega) (by omega) e94 (by first | exact Or.inl ⟨by omega, by omega⟩ | exact Or.inr ⟨by omega, by omega, by unfold nxP; first | (rw [if_pos (by rw [← tkR_F hFU5 rfl, ← tkR_F hFU5 rfl]; omega)]; omega) | (rw [if_neg (by rw [← tkR_F hFU5 rfl, ← tkR_F hFU5 rfl]; omega)]; omega)⟩)
                              refine y_goto rfl rfl ?_
                              exact Pl_weak (ih9 (by omega) U5 hHU5 hFU5 ((v5 + 1)) (((v8 + 1) + 0)) (1) (by omega) (by omega) (by omega) (by omega) (by omega) (by omega) (by omega) (by first | exact L160 | exact loc_0)) (by omega) (And.intro rfl (And.intro rfl (And.intro rfl (And.intro rfl (And.intro rfl (And.intro rfl (And.intro rfl (True.intro))))))))
                            · refine y_iconst rfl ?_
                              refine y_goto rfl rfl ?_
                              refine y_iadd rfl ?_
                              refine y_istore rfl rfl rfl ?_
                              have L160 : Hid (LOC S U5 988 from_ to kind ((v8 + 1) + 1) 1 (v5 + 1)) := loc_s (u := (v5).toNat) L18.o (by omega) e54 o59 N94 (by unfold rg; omega) (by omega) e94 (by first | exact Or.inl ⟨by omega, by omega⟩ | exact Or.inr ⟨by omega, by omega, by unfold nxP; first | (rw [if_pos (by rw [← tkR_F hFU5 rfl, ← tkR_F hFU5 rfl]; omega)]; omega) | (rw [if_neg (by rw [← tkR_F hFU5 rfl, ← tkR_F hFU5 rfl]; omega)]; omega)⟩)
                              refine y_goto rfl rfl ?_
                              exact Pl_weak (ih9 (by omega) U5 hHU5 hFU5 ((v5 + 1)) (((v8 + 1) + 1)) (1) (by omega) (by omega) (by omega) (by omega) (by omega) (by omega) (by omega) (by first | exact L160 | exact loc_0)) (by omega) (And.intro rfl (And.intro rfl (And.intro rfl (And.intro rfl (And.intro rfl (And.intro rfl (And.intro rfl (True.intro))))))))
                  · refine y_iconst rfl ?_
                    refine y_ireturn rfl rfl ?_
                    exact ⟨hHT2, hFT2, _, rfl, ⟨by omega, by omega⟩, (by first | (have u := K59; exact loc_x L18.o (by omega) (by omega) e54 o59 (by first | (have u := K81; exact Or.inr (by rw [← b81]; omega)) | exact Or.inl (by omega))) | exact loc_z L9.o (by omega) (by omega))⟩
              · refine y_iinc rfl rfl rfl rfl ?_
                have x48 : nxS S to v6 = nxS S to (v8 + 1) := x18.trans (nx_s (by omega) (by rw [← tkR_F hFT2 rfl]; omega) (by rw [← tkR_F hFT2 rfl]; omega))
                refine y_goto rfl rfl ?_
                exact Pl_weak (ih18 (by omega) T2 hHT2 hFT2 (v5) (v6) ((v8 + 1)) (by omega) (by omega) (by omega) (by omega) (by omega) (by omega) (by first | exact L18 | (have u := L9; rw [show v7 = 1 by omega] at u; exact u)) (by first | exact x48 | rfl)) (by omega) (And.intro rfl (And.intro rfl (And.intro rfl (And.intro rfl (And.intro rfl (And.intro rfl (And.intro rfl (True.intro))))))))
      refine ys_iload rfl rfl ?_
      refine y_if_eq rfl rfl (by unfold rg; omega) (fun w120 => ?_) (fun w121 => ?_)
      · refine y_iload rfl rfl ?_
        refine y_ireturn rfl rfl ?_
        exact ⟨hHT1, hFT1, _, rfl, ⟨by omega, by omega⟩, (by first | (have u := K59; exact loc_x L18.o (by omega) (by omega) e54 o59 (by first | (have u := K81; exact Or.inr (by rw [← b81]; omega)) | exact Or.inl (by omega))) | exact loc_z L9.o (by omega) (by omega))⟩
      · refine y_iload rfl rfl ?_
        refine y_istore rfl rfl rfl ?_
        exact Pl_weak (C18 n9 (by omega) T1 hHT1 hFT1 (v5) (v6) (v6) (by omega) (by omega) (by omega) (by omega) (by omega) (by omega) (by first | exact L18 | (have u := L9; rw [show v7 = 1 by omega] at u; exact u)) (by first | exact x48 | rfl)) (by omega) (And.intro rfl (And.intro rfl (And.intro rfl (And.intro rfl (And.intro rfl (And.intro rfl (And.intro rfl (True.intro))))))))
  refine y_iconst rfl ?_
  refine y_istore rfl rfl rfl ?_
  refine y_iload_n rfl rfl ?_
  refine y_istore rfl rfl rfl ?_
  refine y_iconst rfl ?_
  refine y_istore rfl rfl rfl ?_
  exact Pl_weak (C9 fu (by omega) S hH hF (0) (from_) (1) (by omega) (by omega) (by omega) (by omega) (by omega) (by omega) (by omega) (by first | exact L160 | exact loc_0)) (by omega) (And.intro rfl (And.intro rfl (And.intro rfl (And.intro rfl (And.intro rfl (And.intro rfl (And.intro rfl (True.intro))))))))
def md_mo_listOf__q : List rec := [(989, 990, 0, 100000)]
abbrev Q_mo_listOf__q (S : sS) (from_ : Int) (to : Int) (kind : Int) : pst := fun r S1 => RI S1 ∧ FR md_mo_listOf__q S S1 ∧ (∃ z : Int, r = some (iv z) ∧ (-2147483648 ≤ z ∧ z ≤ 2147483647) ∧ (LOF S S1 989 from_ to kind z))
set_option maxRecDepth 100000 in
theorem t_mo_listOf__q {S : sS} (hH : RI S) (from_ : Int) (to : Int) (kind : Int) (hfrom_ : 0 ≤ from_ ∧ from_ ≤ 5140) (hto : 0 ≤ to ∧ to ≤ 5140) (hkind : -2147483648 ≤ kind ∧ kind ≤ 2147483647) (hLS : LSP S) (h15 : 0 ≤ Xi S 904 15) (hB : ABV S) (hko : Hid (∀ j : Nat, -1 ≤ Xi S 918 j ∧ Xi S 918 j ≤ 15)) (d : Nat) : Mp lay0 (d + 5) m_mo_listOf [.ref 904, iv from_, iv to, .ref 989, iv kind] S (Q_mo_listOf__q S from_ to kind) := by
  refine Mp_R rfl rfl (fun fu => ?_)
  have hF : FR md_mo_listOf__q S S := FR.rf
  have w1 : -2147483648 ≤ Xi S 904 15 ∧ Xi S 904 15 ≤ 2147483647 := Xi_rgI
  have C9 : ∀ (n9 : Nat) (_ : n9 ≤ fu) (T1 : sS) (_ : RI T1) (_ : FR md_mo_listOf__q S T1) (v5 : Int) (v6 : Int) (v7 : Int), (0 ≤ v5 ∧ v5 ≤ 5150) → (0 ≤ v6 ∧ v6 ≤ 5150) → (0 ≤ v7 ∧ v7 ≤ 1) → (0 ≤ v5 ∧ v5 ≤ v6) → (0 ≤ v6 ∧ v6 ≤ 5150) → (v7 = 1 → v6 ≤ 5142) → (0 ≤ v7 ∧ v7 ≤ 1) → (Hid (LOC S T1 989 from_ to kind v6 v7 v5)) → Pl n9 lay0 (d + 4) m_mo_listOf 9 [(0, .ref 904), (2, iv to), (3, .ref 989), (4, iv kind), (5, iv v5), (6, iv v6), (7, iv v7)] [] T1 (Q_mo_listOf__q S from_ to kind) := by
    intro n9
    induction n9 with
    | zero => intros; exact Pl_0
    | succ n9 ih9 =>
      intro hm9 T1 hHT1 hFT1 v5 v6 v7 w2 w3 w4 w5 w6 w7 w8 L9
      have w9 : Xi T1 904 15 = Xi S 904 15 := hFT1.x _ _ rfl
      have w10 : Xi T1 904 19 = Xi S 904 19 := hFT1.x _ _ rfl
      have C18 : ∀ (n18 : Nat) (_ : n18 ≤ n9) (T2 : sS) (_ : RI T2) (_ : FR md_mo_listOf__q S T2) (v5 : Int) (v6 : Int) (v8 : Int), (0 ≤ v5 ∧ v5 ≤ 5150) → (0 ≤ v6 ∧ v6 ≤ 5150) → (0 ≤ v8 ∧ v8 ≤ 5142) → (0 ≤ v5 ∧ v5 ≤ v6) → (0 ≤ v6 ∧ v6 ≤ 5142) → (v6 ≤ v8 ∧ v8 ≤ 5142) → (Hid (LOC S T2 989 from_ to kind v6 1 v5)) → (nxS S to v6 = nxS S to v8) → Pl n18 lay0 (d + 4) m_mo_listOf 18 [(0, .ref 904), (2, iv to), (3, .ref 989), (4, iv kind), (5, iv v5), (6, iv v6), (8, iv v8)] [] T2 (Q_mo_listOf__q S from_ to kind) := by
        intro n18
        induction n18 with
        | zero => intros; exact Pl_0
        | succ n18 ih18 =>
          intro hm18 T2 hHT2 hFT2 v5 v6 v8 w11 w12 w13 w14 w15 w16 L18 x18
          have w17 : Xi T2 904 15 = Xi S 904 15 := hFT2.x _ _ rfl
          have w18 : Xi T2 904 19 = Xi S 904 19 := hFT2.x _ _ rfl
          refine ys_iload rfl rfl ?_
          refine y_iload_n rfl rfl ?_
          refine y_icmp_ge rfl rfl (by unfold rg; omega) (by unfold rg; omega) (fun w19 => ?_) (fun w20 => ?_)
          · refine y_aload_n rfl rfl ?_
            have e54 : v8 = nxS S to v6 := (x18.trans (nx_e (by rw [← tkR_F hFT2 rfl]; omega))).symm
            refine y_iload rfl rfl ?_
            refine y_iload rfl rfl ?_
            refine y_callV rfl rfl rfl (t_mo_objectOf__p hHT2 v6 v8 ⟨by omega, by omega⟩ ⟨by omega, by omega⟩ (by first | assumption | exact (LSP_FR hFT2 rfl rfl (by assumption : LSP S))) (by first | assumption | omega) _) ?_
            rintro _ _ ⟨rfl, z21, rfl, w21, f59⟩
            show Pl _ _ _ _ _ _ [iv z21] _ _
            have K59 : True := trivial
            have o59 : z21 = obR S v6 v8 := f59.trans (obR_F hFT2 rfl (fun _ _ _ => msR_FR hFT2 rfl))
            clear f59
            refine y_istore rfl rfl rfl ?_
            refine y_iload rfl rfl ?_
            refine y_bipush rfl rfl ?_
            refine y_icmp_eq rfl rfl (by unfold rg; omega) (by unfold rg; omega) (fun w22 => ?_) (fun w23 => ?_)
            · refine y_iconst rfl ?_
              refine y_ireturn rfl rfl ?_
              exact ⟨hHT2, hFT2, _, rfl, ⟨by omega, by omega⟩, (by first | (have u := K59; exact loc_x L18.o (by omega) (by omega) e54 o59 (by first | (have u := K81; exact Or.inr (by rw [← b81]; omega)) | exact Or.inl (by omega))) | exact loc_z L9.o (by omega) (by omega))⟩
            · refine y_aload_n rfl rfl ?_
              refine y_aload_n rfl rfl ?_
              refine y_gfr rfl rfl rfl rfl rfl (hHT2.r 904 20 918 rfl) ?_
              refine y_iload rfl rfl ?_
              refine y_ialoadP (n := 24) rfl rfl (by unfold rg; omega) (fun w24 w25 => ?_)
              have w26 : -2147483648 ≤ (Xi T2 918 ((z21).toNat)) ∧ (Xi T2 918 ((z21).toNat)) ≤ 2147483647 := Xi_rgI
              have k78 := hko.o ((z21).toNat)
              have kk78 : Xi T2 918 ((z21).toNat) = Xi S 918 ((z21).toNat) := (hFT2.cx 918 rfl _).1
              refine y_iload rfl rfl ?_
              refine y_callV rfl rfl rfl (t_mo_isBelow__p hHT2 (Xi T2 918 ((z21).toNat)) kind ⟨by omega, by omega⟩ ⟨by omega, by omega⟩ (by first | assumption | exact (ABV_FR hFT2 rfl (by assumption : ABV S))) _) ?_
              rintro _ _ ⟨rfl, z27, rfl, w27, f81⟩
              show Pl _ _ _ _ _ _ [iv z27] _ _
              have K81 : True := trivial
              have b81 : z27 = blR S (Xi S 918 (z21).toNat) kind := by have t := f81; rw [blR_fr hFT2 rfl, kk78] at t; exact t
              clear f81
              refine y_if_ne rfl rfl (by unfold rg; omega) (fun w28 => ?_) (fun w29 => ?_)
              · refine y_aload_n rfl rfl ?_
                refine y_iload rfl rfl ?_
                refine y_iload rfl rfl ?_
                refine y_iastoreP (n := 2600) rfl rfl (by unfold rg; omega) (fun w30 w31 => ?_)
                obtain ⟨U3, eU3⟩ : ∃ T : sS, T = uI T2 989 ((v5).toNat) (Int32.ofInt z21) := ⟨_, rfl⟩
                rw [← eU3]
                have hHU3 : RI U3 := by rw [eU3]; exact RI_w hHT2
                have hFU3 : FR md_mo_listOf__q S U3 := by rw [eU3]; exact FR.wI hFT2 (mdf_i (r := (989, 990, 0, 100000)) (List.mem_of_getElem? (i := 0) rfl) (inR_i (by omega) (by omega) (by omega) (by omega)))
                have w32 : Xi U3 989 ((v5).toNat) = z21 := by rw [eU3]; exact Xi_same (by unfold rg; omega)
                have e94 := eU3
                have N94 : ¬ (z21 = -9 ∨ blR S (Xi S 918 (z21).toNat) kind = 0) := by rw [← b81]; omega
                refine y_iinc rfl rfl rfl rfl ?_
                refine y_iload rfl rfl ?_
                refine y_iload_n rfl rfl ?_
                refine y_icmp_ge rfl rfl (by unfold rg; omega) (by unfold rg; omega) (fun w33 => ?_) (fun w34 => ?_)
                · refine y_iconst rfl ?_
                  refine y_istore rfl rfl rfl ?_
                  refine y_iload rfl rfl ?_
                  refine y_iconst rfl ?_
                  refine y_iadd rfl ?_
                  refine y_istore rfl rfl rfl ?_
                  refine y_iload rfl rfl ?_
                  refine y_iload rfl rfl ?_
                  refine y_if_eq rfl rfl (by unfold rg; omega) (fun w35 => ?_) (fun w36 => absurd w36 (by omega))
                  · refine y_iconst rfl ?_
                    refine y_iadd rfl ?_
                    refine y_istore rfl rfl rfl ?_
                    have L160 : Hid (LOC S U3 989 from_ to kind ((v8 + 1) + 0) 0 (v5 + 1)) := loc_s (u := (v5).toNat) L18.o (by omega) e54 o59 N94 (by unfold rg; omega) (by omega) e94 (by first | exact Or.inl ⟨by omega, by omega⟩ | exact Or.inr ⟨by omega, by omega, by unfold nxP; first | (rw [if_pos (by rw [← tkR_F hFU3 rfl, ← tkR_F hFU3 rfl]; omega)]; omega) | (rw [if_neg (by rw [← tkR_F hFU3 rfl, ← tkR_F hFU3 rfl]; omega)]; omega)⟩)
                    refine y_goto rfl rfl ?_
                    exact Pl_weak (ih9 (by omega) U3 hHU3 hFU3 ((v5 + 1)) (((v8 + 1) + 0)) (0) (by omega) (by omega) (by omega) (by omega) (by omega) (by omega) (by omega) (by first | exact L160 | exact loc_0)) (by omega) (And.intro rfl (And.intro rfl (And.intro rfl (And.intro rfl (And.intro rfl (And.intro rfl (And.intro rfl (True.intro))))))))
                · refine y_iconst rfl ?_
                  refine y_goto rfl rfl ?_
                  refine y_istore rfl rfl rfl ?_
                  refine y_iload rfl rfl ?_
                  refine y_iconst rfl ?_
                  refine y_iadd rfl ?_
                  refine y_istore rfl rfl rfl ?_
                  refine y_iload rfl rfl ?_
                  refine y_iload rfl rfl ?_
                  refine y_if_eq rfl rfl (by unfold rg; omega) (fun w37 => absurd w37 (by omega)) (fun w38 => ?_)
                  · refine y_aload_n rfl rfl ?_
                    refine y_gfr rfl rfl rfl rfl rfl (hHU3.r 904 4 907 rfl) ?_
                    refine y_iload rfl rfl ?_
                    refine y_ialoadP (n := 5002) rfl rfl (by unfold rg; omega) (fun w39 w40 => ?_)
                    have w41 : -2147483648 ≤ (Xi U3 907 ((v8).toNat)) ∧ (Xi U3 907 ((v8).toNat)) ≤ 2147483647 := Xi_rgI
                    refine y_bipush rfl rfl ?_
                    refine y_icmp_ne rfl rfl (by unfold rg; omega) (by unfold rg; omega) (fun w42 => ?_) (fun w43 => ?_)
                    · refine y_iconst rfl ?_
                      refine y_iadd rfl ?_
                      refine y_istore rfl rfl rfl ?_
                      have L160 : Hid (LOC S U3 989 from_ to kind ((v8 + 1) + 0) 1 (v5 + 1)) := loc_s (u := (v5).toNat) L18.o (by omega) e54 o59 N94 (by unfold rg; omega) (by omega) e94 (by first | exact Or.inl ⟨by omega, by omega⟩ | exact Or.inr ⟨by omega, by omega, by unfold nxP; first | (rw [if_pos (by rw [← tkR_F hFU3 rfl, ← tkR_F hFU3 rfl]; omega)]; omega) | (rw [if_neg (by rw [← tkR_F hFU3 rfl, ← tkR_F hFU3 rfl]; omega)]; omega)⟩)
                      refine y_goto rfl rfl ?_
                      exact Pl_weak (ih9 (by omega) U3 hHU3 hFU3 ((v5 + 1)) (((v8 + 1) + 0)) (1) (by omega) (by omega) (by omega) (by omega) (by omega) (by omega) (by omega) (by first | exact L160 | exact loc_0)) (by omega) (And.intro rfl (And.intro rfl (And.intro rfl (And.intro rfl (And.intro rfl (And.intro rfl (And.intro rfl (True.intro))))))))
                    · refine y_iload rfl rfl ?_
                      refine y_iload_n rfl rfl ?_
                      refine y_icmp_ge rfl rfl (by unfold rg; omega) (by unfold rg; omega) (fun w44 => ?_) (fun w45 => ?_)
                      · refine y_iconst rfl ?_
                        refine y_iadd rfl ?_
                        refine y_istore rfl rfl rfl ?_
                        have L160 : Hid (LOC S U3 989 from_ to kind ((v8 + 1) + 0) 1 (v5 + 1)) := loc_s (u := (v5).toNat) L18.o (by omega) e54 o59 N94 (by unfold rg; omega) (by omega) e94 (by first | exact Or.inl ⟨by omega, by omega⟩ | exact Or.inr ⟨by omega, by omega, by unfold nxP; first | (rw [if_pos (by rw [← tkR_F hFU3 rfl, ← tkR_F hFU3 rfl]; omega)]; omega) | (rw [if_neg (by rw [← tkR_F hFU3 rfl, ← tkR_F hFU3 rfl]; omega)]; omega)⟩)
                        refine y_goto rfl rfl ?_
                        exact Pl_weak (ih9 (by omega) U3 hHU3 hFU3 ((v5 + 1)) (((v8 + 1) + 0)) (1) (by omega) (by omega) (by omega) (by omega) (by omega) (by omega) (by omega) (by first | exact L160 | exact loc_0)) (by omega) (And.intro rfl (And.intro rfl (And.intro rfl (And.intro rfl (And.intro rfl (And.intro rfl (And.intro rfl (True.intro))))))))
                      · refine y_aload_n rfl rfl ?_
                        refine y_gfr rfl rfl rfl rfl rfl (hHU3.r 904 4 907 rfl) ?_
                        refine y_iload rfl rfl ?_
                        refine y_ialoadP (n := 5002) rfl rfl (by unfold rg; omega) (fun w46 w47 => ?_)
                        have w48 : -2147483648 ≤ (Xi U3 907 (((v8 + 1)).toNat)) ∧ (Xi U3 907 (((v8 + 1)).toNat)) ≤ 2147483647 := Xi_rgI
                        refine y_bipush rfl rfl ?_
                        refine y_icmp_ne rfl rfl (by unfold rg; omega) (by unfold rg; omega) (fun w49 => ?_) (fun w50 => ?_)
                        · refine y_iconst rfl ?_
                          refine y_iadd rfl ?_
                          refine y_istore rfl rfl rfl ?_
                          have L160 : Hid (LOC S U3 989 from_ to kind ((v8 + 1) + 0) 1 (v5 + 1)) := loc_s (u := (v5).toNat) L18.o (by omega) e54 o59 N94 (by unfold rg; omega) (by omega) e94 (by first | exact Or.inl ⟨by omega, by omega⟩ | exact Or.inr ⟨by omega, by omega, by unfold nxP; first | (rw [if_pos (by rw [← tkR_F hFU3 rfl, ← tkR_F hFU3 rfl]; omega)]; omega) | (rw [if_neg (by rw [← tkR_F hFU3 rfl, ← tkR_F hFU3 rfl]; omega)]; omega)⟩)
                          refine y_goto rfl rfl ?_
                          exact Pl_weak (ih9 (by omega) U3 hHU3 hFU3 ((v5 + 1)) (((v8 + 1) + 0)) (1) (by omega) (by omega) (by omega) (by omega) (by omega) (by omega) (by omega) (by first | exact L160 | exact loc_0)) (by omega) (And.intro rfl (And.intro rfl (And.intro rfl (And.intro rfl (And.intro rfl (And.intro rfl (And.intro rfl (True.intro))))))))
                        · refine y_iconst rfl ?_
                          refine y_goto rfl rfl ?_
                          refine y_iadd rfl ?_
                          refine y_istore rfl rfl rfl ?_
                          have L160 : Hid (LOC S U3 989 from_ to kind ((v8 + 1) + 1) 1 (v5 + 1)) := loc_s (u := (v5).toNat) L18.o (by omega) e54 o59 N94 (by unfold rg; omega) (by omega) e94 (by first | exact Or.inl ⟨by omega, by omega⟩ | exact Or.inr ⟨by omega, by omega, by unfold nxP; first | (rw [if_pos (by rw [← tkR_F hFU3 rfl, ← tkR_F hFU3 rfl]; omega)]; omega) | (rw [if_neg (by rw [← tkR_F hFU3 rfl, ← tkR_F hFU3 rfl]; omega)]; omega)⟩)
                          refine y_goto rfl rfl ?_
                          exact Pl_weak (ih9 (by omega) U3 hHU3 hFU3 ((v5 + 1)) (((v8 + 1) + 1)) (1) (by omega) (by omega) (by omega) (by omega) (by omega) (by omega) (by omega) (by first | exact L160 | exact loc_0)) (by omega) (And.intro rfl (And.intro rfl (And.intro rfl (And.intro rfl (And.intro rfl (And.intro rfl (And.intro rfl (True.intro))))))))
              · refine y_iconst rfl ?_
                refine y_ireturn rfl rfl ?_
                exact ⟨hHT2, hFT2, _, rfl, ⟨by omega, by omega⟩, (by first | (have u := K59; exact loc_x L18.o (by omega) (by omega) e54 o59 (by first | (have u := K81; exact Or.inr (by rw [← b81]; omega)) | exact Or.inl (by omega))) | exact loc_z L9.o (by omega) (by omega))⟩
          · refine y_aload_n rfl rfl ?_
            refine y_gfr rfl rfl rfl rfl rfl (hHT2.r 904 4 907 rfl) ?_
            refine y_iload rfl rfl ?_
            refine y_ialoadP (n := 5002) rfl rfl (by unfold rg; omega) (fun w51 w52 => ?_)
            have w53 : -2147483648 ≤ (Xi T2 907 ((v8).toNat)) ∧ (Xi T2 907 ((v8).toNat)) ≤ 2147483647 := Xi_rgI
            refine y_bipush rfl rfl ?_
            refine y_icmp_eq rfl rfl (by unfold rg; omega) (by unfold rg; omega) (fun w54 => ?_) (fun w55 => ?_)
            · refine y_aload_n rfl rfl ?_
              have e54 : v8 = nxS S to v6 := (x18.trans (nx_e (by rw [← tkR_F hFT2 rfl]; omega))).symm
              refine y_iload rfl rfl ?_
              refine y_iload rfl rfl ?_
              refine y_callV rfl rfl rfl (t_mo_objectOf__p hHT2 v6 v8 ⟨by omega, by omega⟩ ⟨by omega, by omega⟩ (by first | assumption | exact (LSP_FR hFT2 rfl rfl (by assumption : LSP S))) (by first | assumption | omega) _) ?_
              rintro _ _ ⟨rfl, z56, rfl, w56, f59⟩
              show Pl _ _ _ _ _ _ [iv z56] _ _
              have K59 : True := trivial
              have o59 : z56 = obR S v6 v8 := f59.trans (obR_F hFT2 rfl (fun _ _ _ => msR_FR hFT2 rfl))
              clear f59
              refine y_istore rfl rfl rfl ?_
              refine y_iload rfl rfl ?_
              refine y_bipush rfl rfl ?_
              refine y_icmp_eq rfl rfl (by unfold rg; omega) (by unfold rg; omega) (fun w57 => ?_) (fun w58 => ?_)
              · refine y_iconst rfl ?_
                refine y_ireturn rfl rfl ?_
                exact ⟨hHT2, hFT2, _, rfl, ⟨by omega, by omega⟩, (by first | (have u := K59; exact loc_x L18.o (by omega) (by omega) e54 o59 (by first | (have u := K81; exact Or.inr (by rw [← b81]; omega)) | exact Or.inl (by omega))) | exact loc_z L9.o (by omega) (by omega))⟩
              · refine y_aload_n rfl rfl ?_
                refine y_aload_n rfl rfl ?_
                refine y_gfr rfl rfl rfl rfl rfl (hHT2.r 904 20 918 rfl) ?_
                refine y_iload rfl rfl ?_
                refine y_ialoadP (n := 24) rfl rfl (by unfold rg; omega) (fun w59 w60 => ?_)
                have w61 : -2147483648 ≤ (Xi T2 918 ((z56).toNat)) ∧ (Xi T2 918 ((z56).toNat)) ≤ 2147483647 := Xi_rgI
                have k78 := hko.o ((z56).toNat)
                have kk78 : Xi T2 918 ((z56).toNat) = Xi S 918 ((z56).toNat) := (hFT2.cx 918 rfl _).1
                refine y_iload rfl rfl ?_
                refine y_callV rfl rfl rfl (t_mo_isBelow__p hHT2 (Xi T2 918 ((z56).toNat)) kind ⟨by omega, by omega⟩ ⟨by omega, by omega⟩ (by first | assumption | exact (ABV_FR hFT2 rfl (by assumption : ABV S))) _) ?_
                rintro _ _ ⟨rfl, z62, rfl, w62, f81⟩
                show Pl _ _ _ _ _ _ [iv z62] _ _
                have K81 : True := trivial
                have b81 : z62 = blR S (Xi S 918 (z56).toNat) kind := by have t := f81; rw [blR_fr hFT2 rfl, kk78] at t; exact t
                clear f81
                refine y_if_ne rfl rfl (by unfold rg; omega) (fun w63 => ?_) (fun w64 => ?_)
                · refine y_aload_n rfl rfl ?_
                  refine y_iload rfl rfl ?_
                  refine y_iload rfl rfl ?_
                  refine y_iastoreP (n := 2600) rfl rfl (by unfold rg; omega) (fun w65 w66 => ?_)
                  obtain ⟨U4, eU4⟩ : ∃ T : sS, T = uI T2 989 ((v5).toNat) (Int32.ofInt z56) := ⟨_, rfl⟩
                  rw [← eU4]
                  have hHU4 : RI U4 := by rw [eU4]; exact RI_w hHT2
                  have hFU4 : FR md_mo_listOf__q S U4 := by rw [eU4]; exact FR.wI hFT2 (mdf_i (r := (989, 990, 0, 100000)) (List.mem_of_getElem? (i := 0) rfl) (inR_i (by omega) (by omega) (by omega) (by omega)))
                  have w67 : Xi U4 989 ((v5).toNat) = z56 := by rw [eU4]; exact Xi_same (by unfold rg; omega)
                  have e94 := eU4
                  have N94 : ¬ (z56 = -9 ∨ blR S (Xi S 918 (z56).toNat) kind = 0) := by rw [← b81]; omega
                  refine y_iinc rfl rfl rfl rfl ?_
                  refine y_iload rfl rfl ?_
                  refine y_iload_n rfl rfl ?_
                  refine y_icmp_ge rfl rfl (by unfold rg; omega) (by unfold rg; omega) (fun w68 => ?_) (fun w69 => ?_)
                  · refine y_iconst rfl ?_
                    refine y_istore rfl rfl rfl ?_
                    refine y_iload rfl rfl ?_
                    refine y_iconst rfl ?_
                    refine y_iadd rfl ?_
                    refine y_istore rfl rfl rfl ?_
                    refine y_iload rfl rfl ?_
                    refine y_iload rfl rfl ?_
                    refine y_if_eq rfl rfl (by unfold rg; omega) (fun w70 => ?_) (fun w71 => absurd w71 (by omega))
                    · refine y_iconst rfl ?_
                      refine y_iadd rfl ?_
                      refine y_istore rfl rfl rfl ?_
                      have L160 : Hid (LOC S U4 989 from_ to kind ((v8 + 1) + 0) 0 (v5 + 1)) := loc_s (u := (v5).toNat) L18.o (by omega) e54 o59 N94 (by unfold rg; omega) (by omega) e94 (by first | exact Or.inl ⟨by omega, by omega⟩ | exact Or.inr ⟨by omega, by omega, by unfold nxP; first | (rw [if_pos (by rw [← tkR_F hFU4 rfl, ← tkR_F hFU4 rfl]; omega)]; omega) | (rw [if_neg (by rw [← tkR_F hFU4 rfl, ← tkR_F hFU4 rfl]; omega)]; omega)⟩)
                      refine y_goto rfl rfl ?_
                      exact Pl_weak (ih9 (by omega) U4 hHU4 hFU4 ((v5 + 1)) (((v8 + 1) + 0)) (0) (by omega) (by omega) (by omega) (by omega) (by omega) (by omega) (by omega) (by first | exact L160 | exact loc_0)) (by omega) (And.intro rfl (And.intro rfl (And.intro rfl (And.intro rfl (And.intro rfl (And.intro rfl (And.intro rfl (True.intro))))))))
                  · refine y_iconst rfl ?_
                    refine y_goto rfl rfl ?_
                    refine y_istore rfl rfl rfl ?_
                    refine y_iload rfl rfl ?_
                    refine y_iconst rfl ?_
                    refine y_iadd rfl ?_
                    refine y_istore rfl rfl rfl ?_
                    refine y_iload rfl rfl ?_
                    refine y_iload rfl rfl ?_
                    refine y_if_eq rfl rfl (by unfold rg; omega) (fun w72 => absurd w72 (by omega)) (fun w73 => ?_)
                    · refine y_aload_n rfl rfl ?_
                      refine y_gfr rfl rfl rfl rfl rfl (hHU4.r 904 4 907 rfl) ?_
                      refine y_iload rfl rfl ?_
                      refine y_ialoadP (n := 5002) rfl rfl (by unfold rg; omega) (fun w74 w75 => ?_)
                      have w76 : (Xi U4 907 ((v8).toNat)) = (Xi T2 907 ((v8).toNat)) := (show Xi U4 907 ((v8).toNat) = Xi T2 907 ((v8).toNat) from by rw [eU4]; exact Xi_ne (by omega))
                      rw [w76]
                      refine y_bipush rfl rfl ?_
                      refine y_icmp_ne rfl rfl (by unfold rg; omega) (by unfold rg; omega) (fun w77 => ?_) (fun w78 => ?_)
                      · refine y_iconst rfl ?_
                        refine y_iadd rfl ?_
                        refine y_istore rfl rfl rfl ?_
                        have L160 : Hid (LOC S U4 989 from_ to kind ((v8 + 1) + 0) 1 (v5 + 1)) := loc_s (u := (v5).toNat) L18.o (by omega) e54 o59 N94 (by unfold rg; omega) (by omega) e94 (by first | exact Or.inl ⟨by omega, by omega⟩ | exact Or.inr ⟨by omega, by omega, by unfold nxP; first | (rw [if_pos (by rw [← tkR_F hFU4 rfl, ← tkR_F hFU4 rfl]; omega)]; omega) | (rw [if_neg (by rw [← tkR_F hFU4 rfl, ← tkR_F hFU4 rfl]; omega)]; omega)⟩)
                        refine y_goto rfl rfl ?_
                        exact Pl_weak (ih9 (by omega) U4 hHU4 hFU4 ((v5 + 1)) (((v8 + 1) + 0)) (1) (by omega) (by omega) (by omega) (by omega) (by omega) (by omega) (by omega) (by first | exact L160 | exact loc_0)) (by omega) (And.intro rfl (And.intro rfl (And.intro rfl (And.intro rfl (And.intro rfl (And.intro rfl (And.intro rfl (True.intro))))))))
                      · refine y_iload rfl rfl ?_
                        refine y_iload_n rfl rfl ?_
                        refine y_icmp_ge rfl rfl (by unfold rg; omega) (by unfold rg; omega) (fun w79 => ?_) (fun w80 => ?_)
                        · refine y_iconst rfl ?_
                          refine y_iadd rfl ?_
                          refine y_istore rfl rfl rfl ?_
                          have L160 : Hid (LOC S U4 989 from_ to kind ((v8 + 1) + 0) 1 (v5 + 1)) := loc_s (u := (v5).toNat) L18.o (by omega) e54 o59 N94 (by unfold rg; omega) (by omega) e94 (by first | exact Or.inl ⟨by omega, by omega⟩ | exact Or.inr ⟨by omega, by omega, by unfold nxP; first | (rw [if_pos (by rw [← tkR_F hFU4 rfl, ← tkR_F hFU4 rfl]; omega)]; omega) | (rw [if_neg (by rw [← tkR_F hFU4 rfl, ← tkR_F hFU4 rfl]; omega)]; omega)⟩)
                          refine y_goto rfl rfl ?_
                          exact Pl_weak (ih9 (by omega) U4 hHU4 hFU4 ((v5 + 1)) (((v8 + 1) + 0)) (1) (by omega) (by omega) (by omega) (by omega) (by omega) (by omega) (by omega) (by first | exact L160 | exact loc_0)) (by omega) (And.intro rfl (And.intro rfl (And.intro rfl (And.intro rfl (And.intro rfl (And.intro rfl (And.intro rfl (True.intro))))))))
                        · refine y_aload_n rfl rfl ?_
                          refine y_gfr rfl rfl rfl rfl rfl (hHU4.r 904 4 907 rfl) ?_
                          refine y_iload rfl rfl ?_
                          refine y_ialoadP (n := 5002) rfl rfl (by unfold rg; omega) (fun w81 w82 => ?_)
                          have w83 : -2147483648 ≤ (Xi U4 907 (((v8 + 1)).toNat)) ∧ (Xi U4 907 (((v8 + 1)).toNat)) ≤ 2147483647 := Xi_rgI
                          refine y_bipush rfl rfl ?_
                          refine y_icmp_ne rfl rfl (by unfold rg; omega) (by unfold rg; omega) (fun w84 => ?_) (fun w85 => ?_)
                          · refine y_iconst rfl ?_
                            refine y_iadd rfl ?_
                            refine y_istore rfl rfl rfl ?_
                            have L160 : Hid (LOC S U4 989 from_ to kind ((v8 + 1) + 0) 1 (v5 + 1)) := loc_s (u := (v5).toNat) L18.o (by omega) e54 o59 N94 (by unfold rg; omega) (by omega) e94 (by first | exact Or.inl ⟨by omega, by omega⟩ | exact Or.inr ⟨by omega, by omega, by unfold nxP; first | (rw [if_pos (by rw [← tkR_F hFU4 rfl, ← tkR_F hFU4 rfl]; omega)]; omega) | (rw [if_neg (by rw [← tkR_F hFU4 rfl, ← tkR_F hFU4 rfl]; omega)]; omega)⟩)
                            refine y_goto rfl rfl ?_
                            exact Pl_weak (ih9 (by omega) U4 hHU4 hFU4 ((v5 + 1)) (((v8 + 1) + 0)) (1) (by omega) (by omega) (by omega) (by omega) (by omega) (by omega) (by omega) (by first | exact L160 | exact loc_0)) (by omega) (And.intro rfl (And.intro rfl (And.intro rfl (And.intro rfl (And.intro rfl (And.intro rfl (And.intro rfl (True.intro))))))))
                          · refine y_iconst rfl ?_
                            refine y_goto rfl rfl ?_
                            refine y_iadd rfl ?_
                            refine y_istore rfl rfl rfl ?_
                            have L160 : Hid (LOC S U4 989 from_ to kind ((v8 + 1) + 1) 1 (v5 + 1)) := loc_s (u := (v5).toNat) L18.o (by omega) e54 o59 N94 (by unfold rg; omega) (by omega) e94 (by first | exact Or.inl ⟨by omega, by omega⟩ | exact Or.inr ⟨by omega, by omega, by unfold nxP; first | (rw [if_pos (by rw [← tkR_F hFU4 rfl, ← tkR_F hFU4 rfl]; omega)]; omega) | (rw [if_neg (by rw [← tkR_F hFU4 rfl, ← tkR_F hFU4 rfl]; omega)]; omega)⟩)
                            refine y_goto rfl rfl ?_
                            exact Pl_weak (ih9 (by omega) U4 hHU4 hFU4 ((v5 + 1)) (((v8 + 1) + 1)) (1) (by omega) (by omega) (by omega) (by omega) (by omega) (by omega) (by omega) (by first | exact L160 | exact loc_0)) (by omega) (And.intro rfl (And.intro rfl (And.intro rfl (And.intro rfl (And.intro rfl (And.intro rfl (And.intro rfl (True.intro))))))))
                · refine y_iconst rfl ?_
                  refine y_ireturn rfl rfl ?_
                  exact ⟨hHT2, hFT2, _, rfl, ⟨by omega, by omega⟩, (by first | (have u := K59; exact loc_x L18.o (by omega) (by omega) e54 o59 (by first | (have u := K81; exact Or.inr (by rw [← b81]; omega)) | exact Or.inl (by omega))) | exact loc_z L9.o (by omega) (by omega))⟩
            · refine y_aload_n rfl rfl ?_
              refine y_gfr rfl rfl rfl rfl rfl (hHT2.r 904 4 907 rfl) ?_
              refine y_iload rfl rfl ?_
              refine y_ialoadP (n := 5002) rfl rfl (by unfold rg; omega) (fun w86 w87 => ?_)
              refine y_bipush rfl rfl ?_
              refine y_icmp_eq rfl rfl (by unfold rg; omega) (by unfold rg; omega) (fun w88 => ?_) (fun w89 => ?_)
              · refine y_aload_n rfl rfl ?_
                have e54 : v8 = nxS S to v6 := (x18.trans (nx_e (by rw [← tkR_F hFT2 rfl]; omega))).symm
                refine y_iload rfl rfl ?_
                refine y_iload rfl rfl ?_
                refine y_callV rfl rfl rfl (t_mo_objectOf__p hHT2 v6 v8 ⟨by omega, by omega⟩ ⟨by omega, by omega⟩ (by first | assumption | exact (LSP_FR hFT2 rfl rfl (by assumption : LSP S))) (by first | assumption | omega) _) ?_
                rintro _ _ ⟨rfl, z90, rfl, w90, f59⟩
                show Pl _ _ _ _ _ _ [iv z90] _ _
                have K59 : True := trivial
                have o59 : z90 = obR S v6 v8 := f59.trans (obR_F hFT2 rfl (fun _ _ _ => msR_FR hFT2 rfl))
                clear f59
                refine y_istore rfl rfl rfl ?_
                refine y_iload rfl rfl ?_
                refine y_bipush rfl rfl ?_
                refine y_icmp_eq rfl rfl (by unfold rg; omega) (by unfold rg; omega) (fun w91 => ?_) (fun w92 => ?_)
                · refine y_iconst rfl ?_
                  refine y_ireturn rfl rfl ?_
                  exact ⟨hHT2, hFT2, _, rfl, ⟨by omega, by omega⟩, (by first | (have u := K59; exact loc_x L18.o (by omega) (by omega) e54 o59 (by first | (have u := K81; exact Or.inr (by rw [← b81]; omega)) | exact Or.inl (by omega))) | exact loc_z L9.o (by omega) (by omega))⟩
                · refine y_aload_n rfl rfl ?_
                  refine y_aload_n rfl rfl ?_
                  refine y_gfr rfl rfl rfl rfl rfl (hHT2.r 904 20 918 rfl) ?_
                  refine y_iload rfl rfl ?_
                  refine y_ialoadP (n := 24) rfl rfl (by unfold rg; omega) (fun w93 w94 => ?_)
                  have w95 : -2147483648 ≤ (Xi T2 918 ((z90).toNat)) ∧ (Xi T2 918 ((z90).toNat)) ≤ 2147483647 := Xi_rgI
                  have k78 := hko.o ((z90).toNat)
                  have kk78 : Xi T2 918 ((z90).toNat) = Xi S 918 ((z90).toNat) := (hFT2.cx 918 rfl _).1
                  refine y_iload rfl rfl ?_
                  refine y_callV rfl rfl rfl (t_mo_isBelow__p hHT2 (Xi T2 918 ((z90).toNat)) kind ⟨by omega, by omega⟩ ⟨by omega, by omega⟩ (by first | assumption | exact (ABV_FR hFT2 rfl (by assumption : ABV S))) _) ?_
                  rintro _ _ ⟨rfl, z96, rfl, w96, f81⟩
                  show Pl _ _ _ _ _ _ [iv z96] _ _
                  have K81 : True := trivial
                  have b81 : z96 = blR S (Xi S 918 (z90).toNat) kind := by have t := f81; rw [blR_fr hFT2 rfl, kk78] at t; exact t
                  clear f81
                  refine y_if_ne rfl rfl (by unfold rg; omega) (fun w97 => ?_) (fun w98 => ?_)
                  · refine y_aload_n rfl rfl ?_
                    refine y_iload rfl rfl ?_
                    refine y_iload rfl rfl ?_
                    refine y_iastoreP (n := 2600) rfl rfl (by unfold rg; omega) (fun w99 w100 => ?_)
                    obtain ⟨U5, eU5⟩ : ∃ T : sS, T = uI T2 989 ((v5).toNat) (Int32.ofInt z90) := ⟨_, rfl⟩
                    rw [← eU5]
                    have hHU5 : RI U5 := by rw [eU5]; exact RI_w hHT2
                    have hFU5 : FR md_mo_listOf__q S U5 := by rw [eU5]; exact FR.wI hFT2 (mdf_i (r := (989, 990, 0, 100000)) (List.mem_of_getElem? (i := 0) rfl) (inR_i (by omega) (by omega) (by omega) (by omega)))
                    have w101 : Xi U5 989 ((v5).toNat) = z90 := by rw [eU5]; exact Xi_same (by unfold rg; omega)
                    have e94 := eU5
                    have N94 : ¬ (z90 = -9 ∨ blR S (Xi S 918 (z90).toNat) kind = 0) := by rw [← b81]; omega
                    refine y_iinc rfl rfl rfl rfl ?_
                    refine y_iload rfl rfl ?_
                    refine y_iload_n rfl rfl ?_
                    refine y_icmp_ge rfl rfl (by unfold rg; omega) (by unfold rg; omega) (fun w102 => ?_) (fun w103 => ?_)
                    · refine y_iconst rfl ?_
                      refine y_istore rfl rfl rfl ?_
                      refine y_iload rfl rfl ?_
                      refine y_iconst rfl ?_
                      refine y_iadd rfl ?_
                      refine y_istore rfl rfl rfl ?_
                      refine y_iload rfl rfl ?_
                      refine y_iload rfl rfl ?_
                      refine y_if_eq rfl rfl (by unfold rg; omega) (fun w104 => ?_) (fun w105 => absurd w105 (by omega))
                      · refine y_iconst rfl ?_
                        refine y_iadd rfl ?_
                        refine y_istore rfl rfl rfl ?_
                        have L160 : Hid (LOC S U5 989 from_ to kind ((v8 + 1) + 0) 0 (v5 + 1)) := loc_s (u := (v5).toNat) L18.o (by omega) e54 o59 N94 (by unfold rg; omega) (by omega) e94 (by first | exact Or.inl ⟨by omega, by omega⟩ | exact Or.inr ⟨by omega, by omega, by unfold nxP; first | (rw [if_pos (by rw [← tkR_F hFU5 rfl, ← tkR_F hFU5 rfl]; omega)]; omega) | (rw [if_neg (by rw [← tkR_F hFU5 rfl, ← tkR_F hFU5 rfl]; omega)]; omega)⟩)
                        refine y_goto rfl rfl ?_
                        exact Pl_weak (ih9 (by omega) U5 hHU5 hFU5 ((v5 + 1)) (((v8 + 1) + 0)) (0) (by omega) (by omega) (by omega) (by omega) (by omega) (by omega) (by omega) (by first | exact L160 | exact loc_0)) (by omega) (And.intro rfl (And.intro rfl (And.intro rfl (And.intro rfl (And.intro rfl (And.intro rfl (And.intro rfl (True.intro))))))))
                    · refine y_iconst rfl ?_
                      refine y_goto rfl rfl ?_
                      refine y_istore rfl rfl rfl ?_
                      refine y_iload rfl rfl ?_
                      refine y_iconst rfl ?_
                      refine y_iadd rfl ?_
                      refine y_istore rfl rfl rfl ?_
                      refine y_iload rfl rfl ?_
                      refine y_iload rfl rfl ?_
                      refine y_if_eq rfl rfl (by unfold rg; omega) (fun w106 => absurd w106 (by omega)) (fun w107 => ?_)
                      · refine y_aload_n rfl rfl ?_
                        refine y_gfr rfl rfl rfl rfl rfl (hHU5.r 904 4 907 rfl) ?_
                        refine y_iload rfl rfl ?_
                        refine y_ialoadP (n := 5002) rfl rfl (by unfold rg; omega) (fun w108 w109 => ?_)
                        have w110 : (Xi U5 907 ((v8).toNat)) = (Xi T2 907 ((v8).toNat)) := (show Xi U5 907 ((v8).toNat) = Xi T2 907 ((v8).toNat) from by rw [eU5]; exact Xi_ne (by omega))
                        rw [w110]
                        refine y_bipush rfl rfl ?_
                        refine y_icmp_ne rfl rfl (by unfold rg; omega) (by unfold rg; omega) (fun w111 => ?_) (fun w112 => ?_)
                        · refine y_iconst rfl ?_
                          refine y_iadd rfl ?_
                          refine y_istore rfl rfl rfl ?_
                          have L160 : Hid (LOC S U5 989 from_ to kind ((v8 + 1) + 0) 1 (v5 + 1)) := loc_s (u := (v5).toNat) L18.o (by omega) e54 o59 N94 (by unfold rg; omega) (by omega) e94 (by first | exact Or.inl ⟨by omega, by omega⟩ | exact Or.inr ⟨by omega, by omega, by unfold nxP; first | (rw [if_pos (by rw [← tkR_F hFU5 rfl, ← tkR_F hFU5 rfl]; omega)]; omega) | (rw [if_neg (by rw [← tkR_F hFU5 rfl, ← tkR_F hFU5 rfl]; omega)]; omega)⟩)
                          refine y_goto rfl rfl ?_
                          exact Pl_weak (ih9 (by omega) U5 hHU5 hFU5 ((v5 + 1)) (((v8 + 1) + 0)) (1) (by omega) (by omega) (by omega) (by omega) (by omega) (by omega) (by omega) (by first | exact L160 | exact loc_0)) (by omega) (And.intro rfl (And.intro rfl (And.intro rfl (And.intro rfl (And.intro rfl (And.intro rfl (And.intro rfl (True.intro))))))))
                        · refine y_iload rfl rfl ?_
                          refine y_iload_n rfl rfl ?_
                          refine y_icmp_ge rfl rfl (by unfold rg; omega) (by unfold rg; omega) (fun w113 => ?_) (fun w114 => ?_)
                          · refine y_iconst rfl ?_
                            refine y_iadd rfl ?_
                            refine y_istore rfl rfl rfl ?_
                            have L160 : Hid (LOC S U5 989 from_ to kind ((v8 + 1) + 0) 1 (v5 + 1)) := loc_s (u := (v5).toNat) L18.o (by omega) e54 o59 N94 (by unfold rg; omega) (by omega) e94 (by first | exact Or.inl ⟨by omega, by omega⟩ | exact Or.inr ⟨by omega, by omega, by unfold nxP; first | (rw [if_pos (by rw [← tkR_F hFU5 rfl, ← tkR_F hFU5 rfl]; omega)]; omega) | (rw [if_neg (by rw [← tkR_F hFU5 rfl, ← tkR_F hFU5 rfl]; omega)]; omega)⟩)
                            refine y_goto rfl rfl ?_
                            exact Pl_weak (ih9 (by omega) U5 hHU5 hFU5 ((v5 + 1)) (((v8 + 1) + 0)) (1) (by omega) (by omega) (by omega) (by omega) (by omega) (by omega) (by omega) (by first | exact L160 | exact loc_0)) (by omega) (And.intro rfl (And.intro rfl (And.intro rfl (And.intro rfl (And.intro rfl (And.intro rfl (And.intro rfl (True.intro))))))))
                          · refine y_aload_n rfl rfl ?_
                            refine y_gfr rfl rfl rfl rfl rfl (hHU5.r 904 4 907 rfl) ?_
                            refine y_iload rfl rfl ?_
                            refine y_ialoadP (n := 5002) rfl rfl (by unfold rg; omega) (fun w115 w116 => ?_)
                            have w117 : -2147483648 ≤ (Xi U5 907 (((v8 + 1)).toNat)) ∧ (Xi U5 907 (((v8 + 1)).toNat)) ≤ 2147483647 := Xi_rgI
                            refine y_bipush rfl rfl ?_
                            refine y_icmp_ne rfl rfl (by unfold rg; omega) (by unfold rg; omega) (fun w118 => ?_) (fun w119 => ?_)
                            · refine y_iconst rfl ?_
                              refine y_iadd rfl ?_
                              refine y_istore rfl rfl rfl ?_
                              have L160 : Hid (LOC S U5 989 from_ to kind ((v8 + 1) + 0) 1 (v5 + 1)) := loc_s (u := (v5).toNat) L18.o (by omega) e54 o59 N94 (by unfold rg; omega) (by omega) e94 (by first | exact Or.inl ⟨by omega, by omega⟩ | exact Or.inr ⟨by omega, by omega, by unfold nxP; first | (rw [if_pos (by rw [← tkR_F hFU5 rfl, ← tkR_F hFU5 rfl]; omega)]; omega) | (rw [if_neg (by rw [← tkR_F hFU5 rfl, ← tkR_F hFU5 rfl]; omega)]; omega)⟩)
                              refine y_goto rfl rfl ?_
                              exact Pl_weak (ih9 (by omega) U5 hHU5 hFU5 ((v5 + 1)) (((v8 + 1) + 0)) (1) (by omega) (by omega) (by omega) (by omega) (by omega) (by omega) (by omega) (by first | exact L160 | exact loc_0)) (by omega) (And.intro rfl (And.intro rfl (And.intro rfl (And.intro rfl (And.intro rfl (And.intro rfl (And.intro rfl (True.intro))))))))
                            · refine y_iconst rfl ?_
                              refine y_goto rfl rfl ?_
                              refine y_iadd rfl ?_
                              refine y_istore rfl rfl rfl ?_
                              have L160 : Hid (LOC S U5 989 from_ to kind ((v8 + 1) + 1) 1 (v5 + 1)) := loc_s (u := (v5).toNat) L18.o (by omega) e54 o59 N94 (by unfold rg; omega) (by omega) e94 (by first | exact Or.inl ⟨by omega, by omega⟩ | exact Or.inr ⟨by omega, by omega, by unfold nxP; first | (rw [if_pos (by rw [← tkR_F hFU5 rfl, ← tkR_F hFU5 rfl]; omega)]; omega) | (rw [if_neg (by rw [← tkR_F hFU5 rfl, ← tkR_F hFU5 rfl]; omega)]; omega)⟩)
                              refine y_goto rfl rfl ?_
                              exact Pl_weak (ih9 (by omega) U5 hHU5 hFU5 ((v5 + 1)) (((v8 + 1) + 1)) (1) (by omega) (by omega) (by omega) (by omega) (by omega) (by omega) (by omega) (by first | exact L160 | exact loc_0)) (by omega) (And.intro rfl (And.intro rfl (And.intro rfl (And.intro rfl (And.intro rfl (And.intro rfl (And.intro rfl (True.intro))))))))
                  · refine y_iconst rfl ?_
                    refine y_ireturn rfl rfl ?_
                    exact ⟨hHT2, hFT2, _, rfl, ⟨by omega, by omega⟩, (by first | (have u := K59; exact loc_x L18.o (by omega) (by omega) e54 o59 (by first | (have u := K81; exact Or.inr (by rw [← b81]; omega)) | exact Or.inl (by omega))) | exact loc_z L9.o (by omega) (by omega))⟩
              · refine y_iinc rfl rfl rfl rfl ?_
                have x48 : nxS S to v6 = nxS S to (v8 + 1) := x18.trans (nx_s (by omega) (by rw [← tkR_F hFT2 rfl]; omega) (by rw [← tkR_F hFT2 rfl]; omega))
                refine y_goto rfl rfl ?_
                exact Pl_weak (ih18 (by omega) T2 hHT2 hFT2 (v5) (v6) ((v8 + 1)) (by omega) (by omega) (by omega) (by omega) (by omega) (by omega) (by first | exact L18 | (have u := L9; rw [show v7 = 1 by omega] at u; exact u)) (by first | exact x48 | rfl)) (by omega) (And.intro rfl (And.intro rfl (And.intro rfl (And.intro rfl (And.intro rfl (And.intro rfl (And.intro rfl (True.intro))))))))
      refine ys_iload rfl rfl ?_
      refine y_if_eq rfl rfl (by unfold rg; omega) (fun w120 => ?_) (fun w121 => ?_)
      · refine y_iload rfl rfl ?_
        refine y_ireturn rfl rfl ?_
        exact ⟨hHT1, hFT1, _, rfl, ⟨by omega, by omega⟩, (by first | (have u := K59; exact loc_x L18.o (by omega) (by omega) e54 o59 (by first | (have u := K81; exact Or.inr (by rw [← b81]; omega)) | exact Or.inl (by omega))) | exact loc_z L9.o (by omega) (by omega))⟩
      · refine y_iload rfl rfl ?_
        refine y_istore rfl rfl rfl ?_
        exact Pl_weak (C18 n9 (by omega) T1 hHT1 hFT1 (v5) (v6) (v6) (by omega) (by omega) (by omega) (by omega) (by omega) (by omega) (by first | exact L18 | (have u := L9; rw [show v7 = 1 by omega] at u; exact u)) (by first | exact x48 | rfl)) (by omega) (And.intro rfl (And.intro rfl (And.intro rfl (And.intro rfl (And.intro rfl (And.intro rfl (And.intro rfl (True.intro))))))))
  refine y_iconst rfl ?_
  refine y_istore rfl rfl rfl ?_
  refine y_iload_n rfl rfl ?_
  refine y_istore rfl rfl rfl ?_
  refine y_iconst rfl ?_
  refine y_istore rfl rfl rfl ?_
  exact Pl_weak (C9 fu (by omega) S hH hF (0) (from_) (1) (by omega) (by omega) (by omega) (by omega) (by omega) (by omega) (by omega) (by first | exact L160 | exact loc_0)) (by omega) (And.intro rfl (And.intro rfl (And.intro rfl (And.intro rfl (And.intro rfl (And.intro rfl (And.intro rfl (True.intro))))))))
def md_mo_listOf__r : List rec := [(990, 991, 0, 100000)]
abbrev Q_mo_listOf__r (S : sS) (from_ : Int) (to : Int) (kind : Int) : pst := fun r S1 => RI S1 ∧ FR md_mo_listOf__r S S1 ∧ (∃ z : Int, r = some (iv z) ∧ (-2147483648 ≤ z ∧ z ≤ 2147483647) ∧ (LOF S S1 990 from_ to kind z))
set_option maxRecDepth 100000 in
theorem t_mo_listOf__r {S : sS} (hH : RI S) (from_ : Int) (to : Int) (kind : Int) (hfrom_ : 0 ≤ from_ ∧ from_ ≤ 5140) (hto : 0 ≤ to ∧ to ≤ 5140) (hkind : -2147483648 ≤ kind ∧ kind ≤ 2147483647) (hLS : LSP S) (h15 : 0 ≤ Xi S 904 15) (hB : ABV S) (hko : Hid (∀ j : Nat, -1 ≤ Xi S 918 j ∧ Xi S 918 j ≤ 15)) (d : Nat) : Mp lay0 (d + 5) m_mo_listOf [.ref 904, iv from_, iv to, .ref 990, iv kind] S (Q_mo_listOf__r S from_ to kind) := by
  refine Mp_R rfl rfl (fun fu => ?_)
  have hF : FR md_mo_listOf__r S S := FR.rf
  have w1 : -2147483648 ≤ Xi S 904 15 ∧ Xi S 904 15 ≤ 2147483647 := Xi_rgI
  have C9 : ∀ (n9 : Nat) (_ : n9 ≤ fu) (T1 : sS) (_ : RI T1) (_ : FR md_mo_listOf__r S T1) (v5 : Int) (v6 : Int) (v7 : Int), (0 ≤ v5 ∧ v5 ≤ 5150) → (0 ≤ v6 ∧ v6 ≤ 5150) → (0 ≤ v7 ∧ v7 ≤ 1) → (0 ≤ v5 ∧ v5 ≤ v6) → (0 ≤ v6 ∧ v6 ≤ 5150) → (v7 = 1 → v6 ≤ 5142) → (0 ≤ v7 ∧ v7 ≤ 1) → (Hid (LOC S T1 990 from_ to kind v6 v7 v5)) → Pl n9 lay0 (d + 4) m_mo_listOf 9 [(0, .ref 904), (2, iv to), (3, .ref 990), (4, iv kind), (5, iv v5), (6, iv v6), (7, iv v7)] [] T1 (Q_mo_listOf__r S from_ to kind) := by
    intro n9
    induction n9 with
    | zero => intros; exact Pl_0
    | succ n9 ih9 =>
      intro hm9 T1 hHT1 hFT1 v5 v6 v7 w2 w3 w4 w5 w6 w7 w8 L9
      have w9 : Xi T1 904 15 = Xi S 904 15 := hFT1.x _ _ rfl
      have w10 : Xi T1 904 19 = Xi S 904 19 := hFT1.x _ _ rfl
      have C18 : ∀ (n18 : Nat) (_ : n18 ≤ n9) (T2 : sS) (_ : RI T2) (_ : FR md_mo_listOf__r S T2) (v5 : Int) (v6 : Int) (v8 : Int), (0 ≤ v5 ∧ v5 ≤ 5150) → (0 ≤ v6 ∧ v6 ≤ 5150) → (0 ≤ v8 ∧ v8 ≤ 5142) → (0 ≤ v5 ∧ v5 ≤ v6) → (0 ≤ v6 ∧ v6 ≤ 5142) → (v6 ≤ v8 ∧ v8 ≤ 5142) → (Hid (LOC S T2 990 from_ to kind v6 1 v5)) → (nxS S to v6 = nxS S to v8) → Pl n18 lay0 (d + 4) m_mo_listOf 18 [(0, .ref 904), (2, iv to), (3, .ref 990), (4, iv kind), (5, iv v5), (6, iv v6), (8, iv v8)] [] T2 (Q_mo_listOf__r S from_ to kind) := by
        intro n18
        induction n18 with
        | zero => intros; exact Pl_0
        | succ n18 ih18 =>
          intro hm18 T2 hHT2 hFT2 v5 v6 v8 w11 w12 w13 w14 w15 w16 L18 x18
          have w17 : Xi T2 904 15 = Xi S 904 15 := hFT2.x _ _ rfl
          have w18 : Xi T2 904 19 = Xi S 904 19 := hFT2.x _ _ rfl
          refine ys_iload rfl rfl ?_
          refine y_iload_n rfl rfl ?_
          refine y_icmp_ge rfl rfl (by unfold rg; omega) (by unfold rg; omega) (fun w19 => ?_) (fun w20 => ?_)
          · refine y_aload_n rfl rfl ?_
            have e54 : v8 = nxS S to v6 := (x18.trans (nx_e (by rw [← tkR_F hFT2 rfl]; omega))).symm
            refine y_iload rfl rfl ?_
            refine y_iload rfl rfl ?_
            refine y_callV rfl rfl rfl (t_mo_objectOf__p hHT2 v6 v8 ⟨by omega, by omega⟩ ⟨by omega, by omega⟩ (by first | assumption | exact (LSP_FR hFT2 rfl rfl (by assumption : LSP S))) (by first | assumption | omega) _) ?_
            rintro _ _ ⟨rfl, z21, rfl, w21, f59⟩
            show Pl _ _ _ _ _ _ [iv z21] _ _
            have K59 : True := trivial
            have o59 : z21 = obR S v6 v8 := f59.trans (obR_F hFT2 rfl (fun _ _ _ => msR_FR hFT2 rfl))
            clear f59
            refine y_istore rfl rfl rfl ?_
            refine y_iload rfl rfl ?_
            refine y_bipush rfl rfl ?_
            refine y_icmp_eq rfl rfl (by unfold rg; omega) (by unfold rg; omega) (fun w22 => ?_) (fun w23 => ?_)
            · refine y_iconst rfl ?_
              refine y_ireturn rfl rfl ?_
              exact ⟨hHT2, hFT2, _, rfl, ⟨by omega, by omega⟩, (by first | (have u := K59; exact loc_x L18.o (by omega) (by omega) e54 o59 (by first | (have u := K81; exact Or.inr (by rw [← b81]; omega)) | exact Or.inl (by omega))) | exact loc_z L9.o (by omega) (by omega))⟩
            · refine y_aload_n rfl rfl ?_
              refine y_aload_n rfl rfl ?_
              refine y_gfr rfl rfl rfl rfl rfl (hHT2.r 904 20 918 rfl) ?_
              refine y_iload rfl rfl ?_
              refine y_ialoadP (n := 24) rfl rfl (by unfold rg; omega) (fun w24 w25 => ?_)
              have w26 : -2147483648 ≤ (Xi T2 918 ((z21).toNat)) ∧ (Xi T2 918 ((z21).toNat)) ≤ 2147483647 := Xi_rgI
              have k78 := hko.o ((z21).toNat)
              have kk78 : Xi T2 918 ((z21).toNat) = Xi S 918 ((z21).toNat) := (hFT2.cx 918 rfl _).1
              refine y_iload rfl rfl ?_
              refine y_callV rfl rfl rfl (t_mo_isBelow__p hHT2 (Xi T2 918 ((z21).toNat)) kind ⟨by omega, by omega⟩ ⟨by omega, by omega⟩ (by first | assumption | exact (ABV_FR hFT2 rfl (by assumption : ABV S))) _) ?_
              rintro _ _ ⟨rfl, z27, rfl, w27, f81⟩
              show Pl _ _ _ _ _ _ [iv z27] _ _
              have K81 : True := trivial
              have b81 : z27 = blR S (Xi S 918 (z21).toNat) kind := by have t := f81; rw [blR_fr hFT2 rfl, kk78] at t; exact t
              clear f81
              refine y_if_ne rfl rfl (by unfold rg; omega) (fun w28 => ?_) (fun w29 => ?_)
              · refine y_aload_n rfl rfl ?_
                refine y_iload rfl rfl ?_
                refine y_iload rfl rfl ?_
                refine y_iastoreP (n := 2600) rfl rfl (by unfold rg; omega) (fun w30 w31 => ?_)
                obtain ⟨U3, eU3⟩ : ∃ T : sS, T = uI T2 990 ((v5).toNat) (Int32.ofInt z21) := ⟨_, rfl⟩
                rw [← eU3]
                have hHU3 : RI U3 := by rw [eU3]; exact RI_w hHT2
                have hFU3 : FR md_mo_listOf__r S U3 := by rw [eU3]; exact FR.wI hFT2 (mdf_i (r := (990, 991, 0, 100000)) (List.mem_of_getElem? (i := 0) rfl) (inR_i (by omega) (by omega) (by omega) (by omega)))
                have w32 : Xi U3 990 ((v5).toNat) = z21 := by rw [eU3]; exact Xi_same (by unfold rg; omega)
                have e94 := eU3
                have N94 : ¬ (z21 = -9 ∨ blR S (Xi S 918 (z21).toNat) kind = 0) := by rw [← b81]; omega
                refine y_iinc rfl rfl rfl rfl ?_
                refine y_iload rfl rfl ?_
                refine y_iload_n rfl rfl ?_
                refine y_icmp_ge rfl rfl (by unfold rg; omega) (by unfold rg; omega) (fun w33 => ?_) (fun w34 => ?_)
                · refine y_iconst rfl ?_
                  refine y_istore rfl rfl rfl ?_
                  refine y_iload rfl rfl ?_
                  refine y_iconst rfl ?_
                  refine y_iadd rfl ?_
                  refine y_istore rfl rfl rfl ?_
                  refine y_iload rfl rfl ?_
                  refine y_iload rfl rfl ?_
                  refine y_if_eq rfl rfl (by unfold rg; omega) (fun w35 => ?_) (fun w36 => absurd w36 (by omega))
                  · refine y_iconst rfl ?_
                    refine y_iadd rfl ?_
                    refine y_istore rfl rfl rfl ?_
                    have L160 : Hid (LOC S U3 990 from_ to kind ((v8 + 1) + 0) 0 (v5 + 1)) := loc_s (u := (v5).toNat) L18.o (by omega) e54 o59 N94 (by unfold rg; omega) (by omega) e94 (by first | exact Or.inl ⟨by omega, by omega⟩ | exact Or.inr ⟨by omega, by omega, by unfold nxP; first | (rw [if_pos (by rw [← tkR_F hFU3 rfl, ← tkR_F hFU3 rfl]; omega)]; omega) | (rw [if_neg (by rw [← tkR_F hFU3 rfl, ← tkR_F hFU3 rfl]; omega)]; omega)⟩)
                    refine y_goto rfl rfl ?_
                    exact Pl_weak (ih9 (by omega) U3 hHU3 hFU3 ((v5 + 1)) (((v8 + 1) + 0)) (0) (by omega) (by omega) (by omega) (by omega) (by omega) (by omega) (by omega) (by first | exact L160 | exact loc_0)) (by omega) (And.intro rfl (And.intro rfl (And.intro rfl (And.intro rfl (And.intro rfl (And.intro rfl (And.intro rfl (True.intro))))))))
                · refine y_iconst rfl ?_
                  refine y_goto rfl rfl ?_
                  refine y_istore rfl rfl rfl ?_
                  refine y_iload rfl rfl ?_
                  refine y_iconst rfl ?_
                  refine y_iadd rfl ?_
                  refine y_istore rfl rfl rfl ?_
                  refine y_iload rfl rfl ?_
                  refine y_iload rfl rfl ?_
                  refine y_if_eq rfl rfl (by unfold rg; omega) (fun w37 => absurd w37 (by omega)) (fun w38 => ?_)
                  · refine y_aload_n rfl rfl ?_
                    refine y_gfr rfl rfl rfl rfl rfl (hHU3.r 904 4 907 rfl) ?_
                    refine y_iload rfl rfl ?_
                    refine y_ialoadP (n := 5002) rfl rfl (by unfold rg; omega) (fun w39 w40 => ?_)
                    have w41 : -2147483648 ≤ (Xi U3 907 ((v8).toNat)) ∧ (Xi U3 907 ((v8).toNat)) ≤ 2147483647 := Xi_rgI
                    refine y_bipush rfl rfl ?_
                    refine y_icmp_ne rfl rfl (by unfold rg; omega) (by unfold rg; omega) (fun w42 => ?_) (fun w43 => ?_)
                    · refine y_iconst rfl ?_
                      refine y_iadd rfl ?_
                      refine y_istore rfl rfl rfl ?_
                      have L160 : Hid (LOC S U3 990 from_ to kind ((v8 + 1) + 0) 1 (v5 + 1)) := loc_s (u := (v5).toNat) L18.o (by omega) e54 o59 N94 (by unfold rg; omega) (by omega) e94 (by first | exact Or.inl ⟨by omega, by omega⟩ | exact Or.inr ⟨by omega, by omega, by unfold nxP; first | (rw [if_pos (by rw [← tkR_F hFU3 rfl, ← tkR_F hFU3 rfl]; omega)]; omega) | (rw [if_neg (by rw [← tkR_F hFU3 rfl, ← tkR_F hFU3 rfl]; omega)]; omega)⟩)
                      refine y_goto rfl rfl ?_
                      exact Pl_weak (ih9 (by omega) U3 hHU3 hFU3 ((v5 + 1)) (((v8 + 1) + 0)) (1) (by omega) (by omega) (by omega) (by omega) (by omega) (by omega) (by omega) (by first | exact L160 | exact loc_0)) (by omega) (And.intro rfl (And.intro rfl (And.intro rfl (And.intro rfl (And.intro rfl (And.intro rfl (And.intro rfl (True.intro))))))))
                    · refine y_iload rfl rfl ?_
                      refine y_iload_n rfl rfl ?_
                      refine y_icmp_ge rfl rfl (by unfold rg; omega) (by unfold rg; omega) (fun w44 => ?_) (fun w45 => ?_)
                      · refine y_iconst rfl ?_
                        refine y_iadd rfl ?_
                        refine y_istore rfl rfl rfl ?_
                        have L160 : Hid (LOC S U3 990 from_ to kind ((v8 + 1) + 0) 1 (v5 + 1)) := loc_s (u := (v5).toNat) L18.o (by omega) e54 o59 N94 (by unfold rg; omega) (by omega) e94 (by first | exact Or.inl ⟨by omega, by omega⟩ | exact Or.inr ⟨by omega, by omega, by unfold nxP; first | (rw [if_pos (by rw [← tkR_F hFU3 rfl, ← tkR_F hFU3 rfl]; omega)]; omega) | (rw [if_neg (by rw [← tkR_F hFU3 rfl, ← tkR_F hFU3 rfl]; omega)]; omega)⟩)
                        refine y_goto rfl rfl ?_
                        exact Pl_weak (ih9 (by omega) U3 hHU3 hFU3 ((v5 + 1)) (((v8 + 1) + 0)) (1) (by omega) (by omega) (by omega) (by omega) (by omega) (by omega) (by omega) (by first | exact L160 | exact loc_0)) (by omega) (And.intro rfl (And.intro rfl (And.intro rfl (And.intro rfl (And.intro rfl (And.intro rfl (And.intro rfl (True.intro))))))))
                      · refine y_aload_n rfl rfl ?_
                        refine y_gfr rfl rfl rfl rfl rfl (hHU3.r 904 4 907 rfl) ?_
                        refine y_iload rfl rfl ?_
                        refine y_ialoadP (n := 5002) rfl rfl (by unfold rg; omega) (fun w46 w47 => ?_)
                        have w48 : -2147483648 ≤ (Xi U3 907 (((v8 + 1)).toNat)) ∧ (Xi U3 907 (((v8 + 1)).toNat)) ≤ 2147483647 := Xi_rgI
                        refine y_bipush rfl rfl ?_
                        refine y_icmp_ne rfl rfl (by unfold rg; omega) (by unfold rg; omega) (fun w49 => ?_) (fun w50 => ?_)
                        · refine y_iconst rfl ?_
                          refine y_iadd rfl ?_
                          refine y_istore rfl rfl rfl ?_
                          have L160 : Hid (LOC S U3 990 from_ to kind ((v8 + 1) + 0) 1 (v5 + 1)) := loc_s (u := (v5).toNat) L18.o (by omega) e54 o59 N94 (by unfold rg; omega) (by omega) e94 (by first | exact Or.inl ⟨by omega, by omega⟩ | exact Or.inr ⟨by omega, by omega, by unfold nxP; first | (rw [if_pos (by rw [← tkR_F hFU3 rfl, ← tkR_F hFU3 rfl]; omega)]; omega) | (rw [if_neg (by rw [← tkR_F hFU3 rfl, ← tkR_F hFU3 rfl]; omega)]; omega)⟩)
                          refine y_goto rfl rfl ?_
                          exact Pl_weak (ih9 (by omega) U3 hHU3 hFU3 ((v5 + 1)) (((v8 + 1) + 0)) (1) (by omega) (by omega) (by omega) (by omega) (by omega) (by omega) (by omega) (by first | exact L160 | exact loc_0)) (by omega) (And.intro rfl (And.intro rfl (And.intro rfl (And.intro rfl (And.intro rfl (And.intro rfl (And.intro rfl (True.intro))))))))
                        · refine y_iconst rfl ?_
                          refine y_goto rfl rfl ?_
                          refine y_iadd rfl ?_
                          refine y_istore rfl rfl rfl ?_
                          have L160 : Hid (LOC S U3 990 from_ to kind ((v8 + 1) + 1) 1 (v5 + 1)) := loc_s (u := (v5).toNat) L18.o (by omega) e54 o59 N94 (by unfold rg; omega) (by omega) e94 (by first | exact Or.inl ⟨by omega, by omega⟩ | exact Or.inr ⟨by omega, by omega, by unfold nxP; first | (rw [if_pos (by rw [← tkR_F hFU3 rfl, ← tkR_F hFU3 rfl]; omega)]; omega) | (rw [if_neg (by rw [← tkR_F hFU3 rfl, ← tkR_F hFU3 rfl]; omega)]; omega)⟩)
                          refine y_goto rfl rfl ?_
                          exact Pl_weak (ih9 (by omega) U3 hHU3 hFU3 ((v5 + 1)) (((v8 + 1) + 1)) (1) (by omega) (by omega) (by omega) (by omega) (by omega) (by omega) (by omega) (by first | exact L160 | exact loc_0)) (by omega) (And.intro rfl (And.intro rfl (And.intro rfl (And.intro rfl (And.intro rfl (And.intro rfl (And.intro rfl (True.intro))))))))
              · refine y_iconst rfl ?_
                refine y_ireturn rfl rfl ?_
                exact ⟨hHT2, hFT2, _, rfl, ⟨by omega, by omega⟩, (by first | (have u := K59; exact loc_x L18.o (by omega) (by omega) e54 o59 (by first | (have u := K81; exact Or.inr (by rw [← b81]; omega)) | exact Or.inl (by omega))) | exact loc_z L9.o (by omega) (by omega))⟩
          · refine y_aload_n rfl rfl ?_
            refine y_gfr rfl rfl rfl rfl rfl (hHT2.r 904 4 907 rfl) ?_
            refine y_iload rfl rfl ?_
            refine y_ialoadP (n := 5002) rfl rfl (by unfold rg; omega) (fun w51 w52 => ?_)
            have w53 : -2147483648 ≤ (Xi T2 907 ((v8).toNat)) ∧ (Xi T2 907 ((v8).toNat)) ≤ 2147483647 := Xi_rgI
            refine y_bipush rfl rfl ?_
            refine y_icmp_eq rfl rfl (by unfold rg; omega) (by unfold rg; omega) (fun w54 => ?_) (fun w55 => ?_)
            · refine y_aload_n rfl rfl ?_
              have e54 : v8 = nxS S to v6 := (x18.trans (nx_e (by rw [← tkR_F hFT2 rfl]; omega))).symm
              refine y_iload rfl rfl ?_
              refine y_iload rfl rfl ?_
              refine y_callV rfl rfl rfl (t_mo_objectOf__p hHT2 v6 v8 ⟨by omega, by omega⟩ ⟨by omega, by omega⟩ (by first | assumption | exact (LSP_FR hFT2 rfl rfl (by assumption : LSP S))) (by first | assumption | omega) _) ?_
              rintro _ _ ⟨rfl, z56, rfl, w56, f59⟩
              show Pl _ _ _ _ _ _ [iv z56] _ _
              have K59 : True := trivial
              have o59 : z56 = obR S v6 v8 := f59.trans (obR_F hFT2 rfl (fun _ _ _ => msR_FR hFT2 rfl))
              clear f59
              refine y_istore rfl rfl rfl ?_
              refine y_iload rfl rfl ?_
              refine y_bipush rfl rfl ?_
              refine y_icmp_eq rfl rfl (by unfold rg; omega) (by unfold rg; omega) (fun w57 => ?_) (fun w58 => ?_)
              · refine y_iconst rfl ?_
                refine y_ireturn rfl rfl ?_
                exact ⟨hHT2, hFT2, _, rfl, ⟨by omega, by omega⟩, (by first | (have u := K59; exact loc_x L18.o (by omega) (by omega) e54 o59 (by first | (have u := K81; exact Or.inr (by rw [← b81]; omega)) | exact Or.inl (by omega))) | exact loc_z L9.o (by omega) (by omega))⟩
              · refine y_aload_n rfl rfl ?_
                refine y_aload_n rfl rfl ?_
                refine y_gfr rfl rfl rfl rfl rfl (hHT2.r 904 20 918 rfl) ?_
                refine y_iload rfl rfl ?_
                refine y_ialoadP (n := 24) rfl rfl (by unfold rg; omega) (fun w59 w60 => ?_)
                have w61 : -2147483648 ≤ (Xi T2 918 ((z56).toNat)) ∧ (Xi T2 918 ((z56).toNat)) ≤ 2147483647 := Xi_rgI
                have k78 := hko.o ((z56).toNat)
                have kk78 : Xi T2 918 ((z56).toNat) = Xi S 918 ((z56).toNat) := (hFT2.cx 918 rfl _).1
                refine y_iload rfl rfl ?_
                refine y_callV rfl rfl rfl (t_mo_isBelow__p hHT2 (Xi T2 918 ((z56).toNat)) kind ⟨by omega, by omega⟩ ⟨by omega, by omega⟩ (by first | assumption | exact (ABV_FR hFT2 rfl (by assumption : ABV S))) _) ?_
                rintro _ _ ⟨rfl, z62, rfl, w62, f81⟩
                show Pl _ _ _ _ _ _ [iv z62] _ _
                have K81 : True := trivial
                have b81 : z62 = blR S (Xi S 918 (z56).toNat) kind := by have t := f81; rw [blR_fr hFT2 rfl, kk78] at t; exact t
                clear f81
                refine y_if_ne rfl rfl (by unfold rg; omega) (fun w63 => ?_) (fun w64 => ?_)
                · refine y_aload_n rfl rfl ?_
                  refine y_iload rfl rfl ?_
                  refine y_iload rfl rfl ?_
                  refine y_iastoreP (n := 2600) rfl rfl (by unfold rg; omega) (fun w65 w66 => ?_)
                  obtain ⟨U4, eU4⟩ : ∃ T : sS, T = uI T2 990 ((v5).toNat) (Int32.ofInt z56) := ⟨_, rfl⟩
                  rw [← eU4]
                  have hHU4 : RI U4 := by rw [eU4]; exact RI_w hHT2
                  have hFU4 : FR md_mo_listOf__r S U4 := by rw [eU4]; exact FR.wI hFT2 (mdf_i (r := (990, 991, 0, 100000)) (List.mem_of_getElem? (i := 0) rfl) (inR_i (by omega) (by omega) (by omega) (by omega)))
                  have w67 : Xi U4 990 ((v5).toNat) = z56 := by rw [eU4]; exact Xi_same (by unfold rg; omega)
                  have e94 := eU4
                  have N94 : ¬ (z56 = -9 ∨ blR S (Xi S 918 (z56).toNat) kind = 0) := by rw [← b81]; omega
                  refine y_iinc rfl rfl rfl rfl ?_
                  refine y_iload rfl rfl ?_
                  refine y_iload_n rfl rfl ?_
                  refine y_icmp_ge rfl rfl (by unfold rg; omega) (by unfold rg; omega) (fun w68 => ?_) (fun w69 => ?_)
                  · refine y_iconst rfl ?_
                    refine y_istore rfl rfl rfl ?_
                    refine y_iload rfl rfl ?_
                    refine y_iconst rfl ?_
                    refine y_iadd rfl ?_
                    refine y_istore rfl rfl rfl ?_
                    refine y_iload rfl rfl ?_
                    refine y_iload rfl rfl ?_
                    refine y_if_eq rfl rfl (by unfold rg; omega) (fun w70 => ?_) (fun w71 => absurd w71 (by omega))
                    · refine y_iconst rfl ?_
                      refine y_iadd rfl ?_
                      refine y_istore rfl rfl rfl ?_
                      have L160 : Hid (LOC S U4 990 from_ to kind ((v8 + 1) + 0) 0 (v5 + 1)) := loc_s (u := (v5).toNat) L18.o (by omega) e54 o59 N94 (by unfold rg; omega) (by omega) e94 (by first | exact Or.inl ⟨by omega, by omega⟩ | exact Or.inr ⟨by omega, by omega, by unfold nxP; first | (rw [if_pos (by rw [← tkR_F hFU4 rfl, ← tkR_F hFU4 rfl]; omega)]; omega) | (rw [if_neg (by rw [← tkR_F hFU4 rfl, ← tkR_F hFU4 rfl]; omega)]; omega)⟩)
                      refine y_goto rfl rfl ?_
                      exact Pl_weak (ih9 (by omega) U4 hHU4 hFU4 ((v5 + 1)) (((v8 + 1) + 0)) (0) (by omega) (by omega) (by omega) (by omega) (by omega) (by omega) (by omega) (by first | exact L160 | exact loc_0)) (by omega) (And.intro rfl (And.intro rfl (And.intro rfl (And.intro rfl (And.intro rfl (And.intro rfl (And.intro rfl (True.intro))))))))
                  · refine y_iconst rfl ?_
                    refine y_goto rfl rfl ?_
                    refine y_istore rfl rfl rfl ?_
                    refine y_iload rfl rfl ?_
                    refine y_iconst rfl ?_
                    refine y_iadd rfl ?_
                    refine y_istore rfl rfl rfl ?_
                    refine y_iload rfl rfl ?_
                    refine y_iload rfl rfl ?_
                    refine y_if_eq rfl rfl (by unfold rg; omega) (fun w72 => absurd w72 (by omega)) (fun w73 => ?_)
                    · refine y_aload_n rfl rfl ?_
                      refine y_gfr rfl rfl rfl rfl rfl (hHU4.r 904 4 907 rfl) ?_
                      refine y_iload rfl rfl ?_
                      refine y_ialoadP (n := 5002) rfl rfl (by unfold rg; omega) (fun w74 w75 => ?_)
                      have w76 : (Xi U4 907 ((v8).toNat)) = (Xi T2 907 ((v8).toNat)) := (show Xi U4 907 ((v8).toNat) = Xi T2 907 ((v8).toNat) from by rw [eU4]; exact Xi_ne (by omega))
                      rw [w76]
                      refine y_bipush rfl rfl ?_
                      refine y_icmp_ne rfl rfl (by unfold rg; omega) (by unfold rg; omega) (fun w77 => ?_) (fun w78 => ?_)
                      · refine y_iconst rfl ?_
                        refine y_iadd rfl ?_
                        refine y_istore rfl rfl rfl ?_
                        have L160 : Hid (LOC S U4 990 from_ to kind ((v8 + 1) + 0) 1 (v5 + 1)) := loc_s (u := (v5).toNat) L18.o (by omega) e54 o59 N94 (by unfold rg; omega) (by omega) e94 (by first | exact Or.inl ⟨by omega, by omega⟩ | exact Or.inr ⟨by omega, by omega, by unfold nxP; first | (rw [if_pos (by rw [← tkR_F hFU4 rfl, ← tkR_F hFU4 rfl]; omega)]; omega) | (rw [if_neg (by rw [← tkR_F hFU4 rfl, ← tkR_F hFU4 rfl]; omega)]; omega)⟩)
                        refine y_goto rfl rfl ?_
                        exact Pl_weak (ih9 (by omega) U4 hHU4 hFU4 ((v5 + 1)) (((v8 + 1) + 0)) (1) (by omega) (by omega) (by omega) (by omega) (by omega) (by omega) (by omega) (by first | exact L160 | exact loc_0)) (by omega) (And.intro rfl (And.intro rfl (And.intro rfl (And.intro rfl (And.intro rfl (And.intro rfl (And.intro rfl (True.intro))))))))
                      · refine y_iload rfl rfl ?_
                        refine y_iload_n rfl rfl ?_
                        refine y_icmp_ge rfl rfl (by unfold rg; omega) (by unfold rg; omega) (fun w79 => ?_) (fun w80 => ?_)
                        · refine y_iconst rfl ?_
                          refine y_iadd rfl ?_
                          refine y_istore rfl rfl rfl ?_
                          have L160 : Hid (LOC S U4 990 from_ to kind ((v8 + 1) + 0) 1 (v5 + 1)) := loc_s (u := (v5).toNat) L18.o (by omega) e54 o59 N94 (by unfold rg; omega) (by omega) e94 (by first | exact Or.inl ⟨by omega, by omega⟩ | exact Or.inr ⟨by omega, by omega, by unfold nxP; first | (rw [if_pos (by rw [← tkR_F hFU4 rfl, ← tkR_F hFU4 rfl]; omega)]; omega) | (rw [if_neg (by rw [← tkR_F hFU4 rfl, ← tkR_F hFU4 rfl]; omega)]; omega)⟩)
                          refine y_goto rfl rfl ?_
                          exact Pl_weak (ih9 (by omega) U4 hHU4 hFU4 ((v5 + 1)) (((v8 + 1) + 0)) (1) (by omega) (by omega) (by omega) (by omega) (by omega) (by omega) (by omega) (by first | exact L160 | exact loc_0)) (by omega) (And.intro rfl (And.intro rfl (And.intro rfl (And.intro rfl (And.intro rfl (And.intro rfl (And.intro rfl (True.intro))))))))
                        · refine y_aload_n rfl rfl ?_
                          refine y_gfr rfl rfl rfl rfl rfl (hHU4.r 904 4 907 rfl) ?_
                          refine y_iload rfl rfl ?_
                          refine y_ialoadP (n := 5002) rfl rfl (by unfold rg; omega) (fun w81 w82 => ?_)
                          have w83 : -2147483648 ≤ (Xi U4 907 (((v8 + 1)).toNat)) ∧ (Xi U4 907 (((v8 + 1)).toNat)) ≤ 2147483647 := Xi_rgI
                          refine y_bipush rfl rfl ?_
                          refine y_icmp_ne rfl rfl (by unfold rg; omega) (by unfold rg; omega) (fun w84 => ?_) (fun w85 => ?_)
                          · refine y_iconst rfl ?_
                            refine y_iadd rfl ?_
                            refine y_istore rfl rfl rfl ?_
                            have L160 : Hid (LOC S U4 990 from_ to kind ((v8 + 1) + 0) 1 (v5 + 1)) := loc_s (u := (v5).toNat) L18.o (by omega) e54 o59 N94 (by unfold rg; omega) (by omega) e94 (by first | exact Or.inl ⟨by omega, by omega⟩ | exact Or.inr ⟨by omega, by omega, by unfold nxP; first | (rw [if_pos (by rw [← tkR_F hFU4 rfl, ← tkR_F hFU4 rfl]; omega)]; omega) | (rw [if_neg (by rw [← tkR_F hFU4 rfl, ← tkR_F hFU4 rfl]; omega)]; omega)⟩)
                            refine y_goto rfl rfl ?_
                            exact Pl_weak (ih9 (by omega) U4 hHU4 hFU4 ((v5 + 1)) (((v8 + 1) + 0)) (1) (by omega) (by omega) (by omega) (by omega) (by omega) (by omega) (by omega) (by first | exact L160 | exact loc_0)) (by omega) (And.intro rfl (And.intro rfl (And.intro rfl (And.intro rfl (And.intro rfl (And.intro rfl (And.intro rfl (True.intro))))))))
                          · refine y_iconst rfl ?_
                            refine y_goto rfl rfl ?_
                            refine y_iadd rfl ?_
                            refine y_istore rfl rfl rfl ?_
                            have L160 : Hid (LOC S U4 990 from_ to kind ((v8 + 1) + 1) 1 (v5 + 1)) := loc_s (u := (v5).toNat) L18.o (by omega) e54 o59 N94 (by unfold rg; omega) (by omega) e94 (by first | exact Or.inl ⟨by omega, by omega⟩ | exact Or.inr ⟨by omega, by omega, by unfold nxP; first | (rw [if_pos (by rw [← tkR_F hFU4 rfl, ← tkR_F hFU4 rfl]; omega)]; omega) | (rw [if_neg (by rw [← tkR_F hFU4 rfl, ← tkR_F hFU4 rfl]; omega)]; omega)⟩)
                            refine y_goto rfl rfl ?_
                            exact Pl_weak (ih9 (by omega) U4 hHU4 hFU4 ((v5 + 1)) (((v8 + 1) + 1)) (1) (by omega) (by omega) (by omega) (by omega) (by omega) (by omega) (by omega) (by first | exact L160 | exact loc_0)) (by omega) (And.intro rfl (And.intro rfl (And.intro rfl (And.intro rfl (And.intro rfl (And.intro rfl (And.intro rfl (True.intro))))))))
                · refine y_iconst rfl ?_
                  refine y_ireturn rfl rfl ?_
                  exact ⟨hHT2, hFT2, _, rfl, ⟨by omega, by omega⟩, (by first | (have u := K59; exact loc_x L18.o (by omega) (by omega) e54 o59 (by first | (have u := K81; exact Or.inr (by rw [← b81]; omega)) | exact Or.inl (by omega))) | exact loc_z L9.o (by omega) (by omega))⟩
            · refine y_aload_n rfl rfl ?_
              refine y_gfr rfl rfl rfl rfl rfl (hHT2.r 904 4 907 rfl) ?_
              refine y_iload rfl rfl ?_
              refine y_ialoadP (n := 5002) rfl rfl (by unfold rg; omega) (fun w86 w87 => ?_)
              refine y_bipush rfl rfl ?_
              refine y_icmp_eq rfl rfl (by unfold rg; omega) (by unfold rg; omega) (fun w88 => ?_) (fun w89 => ?_)
              · refine y_aload_n rfl rfl ?_
                have e54 : v8 = nxS S to v6 := (x18.trans (nx_e (by rw [← tkR_F hFT2 rfl]; omega))).symm
                refine y_iload rfl rfl ?_
                refine y_iload rfl rfl ?_
                refine y_callV rfl rfl rfl (t_mo_objectOf__p hHT2 v6 v8 ⟨by omega, by omega⟩ ⟨by omega, by omega⟩ (by first | assumption | exact (LSP_FR hFT2 rfl rfl (by assumption : LSP S))) (by first | assumption | omega) _) ?_
                rintro _ _ ⟨rfl, z90, rfl, w90, f59⟩
                show Pl _ _ _ _ _ _ [iv z90] _ _
                have K59 : True := trivial
                have o59 : z90 = obR S v6 v8 := f59.trans (obR_F hFT2 rfl (fun _ _ _ => msR_FR hFT2 rfl))
                clear f59
                refine y_istore rfl rfl rfl ?_
                refine y_iload rfl rfl ?_
                refine y_bipush rfl rfl ?_
                refine y_icmp_eq rfl rfl (by unfold rg; omega) (by unfold rg; omega) (fun w91 => ?_) (fun w92 => ?_)
                · refine y_iconst rfl ?_
                  refine y_ireturn rfl rfl ?_
                  exact ⟨hHT2, hFT2, _, rfl, ⟨by omega, by omega⟩, (by first | (have u := K59; exact loc_x L18.o (by omega) (by omega) e54 o59 (by first | (have u := K81; exact Or.inr (by rw [← b81]; omega)) | exact Or.inl (by omega))) | exact loc_z L9.o (by omega) (by omega))⟩
                · refine y_aload_n rfl rfl ?_
                  refine y_aload_n rfl rfl ?_
                  refine y_gfr rfl rfl rfl rfl rfl (hHT2.r 904 20 918 rfl) ?_
                  refine y_iload rfl rfl ?_
                  refine y_ialoadP (n := 24) rfl rfl (by unfold rg; omega) (fun w93 w94 => ?_)
                  have w95 : -2147483648 ≤ (Xi T2 918 ((z90).toNat)) ∧ (Xi T2 918 ((z90).toNat)) ≤ 2147483647 := Xi_rgI
                  have k78 := hko.o ((z90).toNat)
                  have kk78 : Xi T2 918 ((z90).toNat) = Xi S 918 ((z90).toNat) := (hFT2.cx 918 rfl _).1
                  refine y_iload rfl rfl ?_
                  refine y_callV rfl rfl rfl (t_mo_isBelow__p hHT2 (Xi T2 918 ((z90).toNat)) kind ⟨by omega, by omega⟩ ⟨by omega, by omega⟩ (by first | assumption | exact (ABV_FR hFT2 rfl (by assumption : ABV S))) _) ?_
                  rintro _ _ ⟨rfl, z96, rfl, w96, f81⟩
                  show Pl _ _ _ _ _ _ [iv z96] _ _
                  have K81 : True := trivial
                  have b81 : z96 = blR S (Xi S 918 (z90).toNat) kind := by have t := f81; rw [blR_fr hFT2 rfl, kk78] at t; exact t
                  clear f81
                  refine y_if_ne rfl rfl (by unfold rg; omega) (fun w97 => ?_) (fun w98 => ?_)
                  · refine y_aload_n rfl rfl ?_
                    refine y_iload rfl rfl ?_
                    refine y_iload rfl rfl ?_
                    refine y_iastoreP (n := 2600) rfl rfl (by unfold rg; omega) (fun w99 w100 => ?_)
                    obtain ⟨U5, eU5⟩ : ∃ T : sS, T = uI T2 990 ((v5).toNat) (Int32.ofInt z90) := ⟨_, rfl⟩
                    rw [← eU5]
                    have hHU5 : RI U5 := by rw [eU5]; exact RI_w hHT2
                    have hFU5 : FR md_mo_listOf__r S U5 := by rw [eU5]; exact FR.wI hFT2 (mdf_i (r := (990, 991, 0, 100000)) (List.mem_of_getElem? (i := 0) rfl) (inR_i (by omega) (by omega) (by omega) (by omega)))
                    have w101 : Xi U5 990 ((v5).toNat) = z90 := by rw [eU5]; exact Xi_same (by unfold rg; omega)
                    have e94 := eU5
                    have N94 : ¬ (z90 = -9 ∨ blR S (Xi S 918 (z90).toNat) kind = 0) := by rw [← b81]; omega
                    refine y_iinc rfl rfl rfl rfl ?_
                    refine y_iload rfl rfl ?_
                    refine y_iload_n rfl rfl ?_
                    refine y_icmp_ge rfl rfl (by unfold rg; omega) (by unfold rg; omega) (fun w102 => ?_) (fun w103 => ?_)
                    · refine y_iconst rfl ?_
                      refine y_istore rfl rfl rfl ?_
                      refine y_iload rfl rfl ?_
                      refine y_iconst rfl ?_
                      refine y_iadd rfl ?_
                      refine y_istore rfl rfl rfl ?_
                      refine y_iload rfl rfl ?_
                      refine y_iload rfl rfl ?_
                      refine y_if_eq rfl rfl (by unfold rg; omega) (fun w104 => ?_) (fun w105 => absurd w105 (by omega))
                      · refine y_iconst rfl ?_
                        refine y_iadd rfl ?_
                        refine y_istore rfl rfl rfl ?_
                        have L160 : Hid (LOC S U5 990 from_ to kind ((v8 + 1) + 0) 0 (v5 + 1)) := loc_s (u := (v5).toNat) L18.o (by omega) e54 o59 N94 (by unfold rg; omega) (by omega) e94 (by first | exact Or.inl ⟨by omega, by omega⟩ | exact Or.inr ⟨by omega, by omega, by unfold nxP; first | (rw [if_pos (by rw [← tkR_F hFU5 rfl, ← tkR_F hFU5 rfl]; omega)]; omega) | (rw [if_neg (by rw [← tkR_F hFU5 rfl, ← tkR_F hFU5 rfl]; omega)]; omega)⟩)
                        refine y_goto rfl rfl ?_
                        exact Pl_weak (ih9 (by omega) U5 hHU5 hFU5 ((v5 + 1)) (((v8 + 1) + 0)) (0) (by omega) (by omega) (by omega) (by omega) (by omega) (by omega) (by omega) (by first | exact L160 | exact loc_0)) (by omega) (And.intro rfl (And.intro rfl (And.intro rfl (And.intro rfl (And.intro rfl (And.intro rfl (And.intro rfl (True.intro))))))))
                    · refine y_iconst rfl ?_
                      refine y_goto rfl rfl ?_
                      refine y_istore rfl rfl rfl ?_
                      refine y_iload rfl rfl ?_
                      refine y_iconst rfl ?_
                      refine y_iadd rfl ?_
                      refine y_istore rfl rfl rfl ?_
                      refine y_iload rfl rfl ?_
                      refine y_iload rfl rfl ?_
                      refine y_if_eq rfl rfl (by unfold rg; omega) (fun w106 => absurd w106 (by omega)) (fun w107 => ?_)
                      · refine y_aload_n rfl rfl ?_
                        refine y_gfr rfl rfl rfl rfl rfl (hHU5.r 904 4 907 rfl) ?_
                        refine y_iload rfl rfl ?_
                        refine y_ialoadP (n := 5002) rfl rfl (by unfold rg; omega) (fun w108 w109 => ?_)
                        have w110 : (Xi U5 907 ((v8).toNat)) = (Xi T2 907 ((v8).toNat)) := (show Xi U5 907 ((v8).toNat) = Xi T2 907 ((v8).toNat) from by rw [eU5]; exact Xi_ne (by omega))
                        rw [w110]
                        refine y_bipush rfl rfl ?_
                        refine y_icmp_ne rfl rfl (by unfold rg; omega) (by unfold rg; omega) (fun w111 => ?_) (fun w112 => ?_)
                        · refine y_iconst rfl ?_
                          refine y_iadd rfl ?_
                          refine y_istore rfl rfl rfl ?_
                          have L160 : Hid (LOC S U5 990 from_ to kind ((v8 + 1) + 0) 1 (v5 + 1)) := loc_s (u := (v5).toNat) L18.o (by omega) e54 o59 N94 (by unfold rg; omega) (by omega) e94 (by first | exact Or.inl ⟨by omega, by omega⟩ | exact Or.inr ⟨by omega, by omega, by unfold nxP; first | (rw [if_pos (by rw [← tkR_F hFU5 rfl, ← tkR_F hFU5 rfl]; omega)]; omega) | (rw [if_neg (by rw [← tkR_F hFU5 rfl, ← tkR_F hFU5 rfl]; omega)]; omega)⟩)
                          refine y_goto rfl rfl ?_
                          exact Pl_weak (ih9 (by omega) U5 hHU5 hFU5 ((v5 + 1)) (((v8 + 1) + 0)) (1) (by omega) (by omega) (by omega) (by omega) (by omega) (by omega) (by omega) (by first | exact L160 | exact loc_0)) (by omega) (And.intro rfl (And.intro rfl (And.intro rfl (And.intro rfl (And.intro rfl (And.intro rfl (And.intro rfl (True.intro))))))))
                        · refine y_iload rfl rfl ?_
                          refine y_iload_n rfl rfl ?_
                          refine y_icmp_ge rfl rfl (by unfold rg; omega) (by unfold rg; omega) (fun w113 => ?_) (fun w114 => ?_)
                          · refine y_iconst rfl ?_
                            refine y_iadd rfl ?_
                            refine y_istore rfl rfl rfl ?_
                            have L160 : Hid (LOC S U5 990 from_ to kind ((v8 + 1) + 0) 1 (v5 + 1)) := loc_s (u := (v5).toNat) L18.o (by omega) e54 o59 N94 (by unfold rg; omega) (by omega) e94 (by first | exact Or.inl ⟨by omega, by omega⟩ | exact Or.inr ⟨by omega, by omega, by unfold nxP; first | (rw [if_pos (by rw [← tkR_F hFU5 rfl, ← tkR_F hFU5 rfl]; omega)]; omega) | (rw [if_neg (by rw [← tkR_F hFU5 rfl, ← tkR_F hFU5 rfl]; omega)]; omega)⟩)
                            refine y_goto rfl rfl ?_
                            exact Pl_weak (ih9 (by omega) U5 hHU5 hFU5 ((v5 + 1)) (((v8 + 1) + 0)) (1) (by omega) (by omega) (by omega) (by omega) (by omega) (by omega) (by omega) (by first | exact L160 | exact loc_0)) (by omega) (And.intro rfl (And.intro rfl (And.intro rfl (And.intro rfl (And.intro rfl (And.intro rfl (And.intro rfl (True.intro))))))))
                          · refine y_aload_n rfl rfl ?_
                            refine y_gfr rfl rfl rfl rfl rfl (hHU5.r 904 4 907 rfl) ?_
                            refine y_iload rfl rfl ?_
                            refine y_ialoadP (n := 5002) rfl rfl (by unfold rg; omega) (fun w115 w116 => ?_)
                            have w117 : -2147483648 ≤ (Xi U5 907 (((v8 + 1)).toNat)) ∧ (Xi U5 907 (((v8 + 1)).toNat)) ≤ 2147483647 := Xi_rgI
                            refine y_bipush rfl rfl ?_
                            refine y_icmp_ne rfl rfl (by unfold rg; omega) (by unfold rg; omega) (fun w118 => ?_) (fun w119 => ?_)
                            · refine y_iconst rfl ?_
                              refine y_iadd rfl ?_
                              refine y_istore rfl rfl rfl ?_
                              have L160 : Hid (LOC S U5 990 from_ to kind ((v8 + 1) + 0) 1 (v5 + 1)) := loc_s (u := (v5).toNat) L18.o (by omega) e54 o59 N94 (by unfold rg; omega) (by omega) e94 (by first | exact Or.inl ⟨by omega, by omega⟩ | exact Or.inr ⟨by omega, by omega, by unfold nxP; first | (rw [if_pos (by rw [← tkR_F hFU5 rfl, ← tkR_F hFU5 rfl]; omega)]; omega) | (rw [if_neg (by rw [← tkR_F hFU5 rfl, ← tkR_F hFU5 rfl]; omega)]; omega)⟩)
                              refine y_goto rfl rfl ?_
                              exact Pl_weak (ih9 (by omega) U5 hHU5 hFU5 ((v5 + 1)) (((v8 + 1) + 0)) (1) (by omega) (by omega) (by omega) (by omega) (by omega) (by omega) (by omega) (by first | exact L160 | exact loc_0)) (by omega) (And.intro rfl (And.intro rfl (And.intro rfl (And.intro rfl (And.intro rfl (And.intro rfl (And.intro rfl (True.intro))))))))
                            · refine y_iconst rfl ?_
                              refine y_goto rfl rfl ?_
                              refine y_iadd rfl ?_
                              refine y_istore rfl rfl rfl ?_
                              have L160 : Hid (LOC S U5 990 from_ to kind ((v8 + 1) + 1) 1 (v5 + 1)) := loc_s (u := (v5).toNat) L18.o (by omega) e54 o59 N94 (by unfold rg; omega) (by omega) e94 (by first | exact Or.inl ⟨by omega, by omega⟩ | exact Or.inr ⟨by omega, by omega, by unfold nxP; first | (rw [if_pos (by rw [← tkR_F hFU5 rfl, ← tkR_F hFU5 rfl]; omega)]; omega) | (rw [if_neg (by rw [← tkR_F hFU5 rfl, ← tkR_F hFU5 rfl]; omega)]; omega)⟩)
                              refine y_goto rfl rfl ?_
                              exact Pl_weak (ih9 (by omega) U5 hHU5 hFU5 ((v5 + 1)) (((v8 + 1) + 1)) (1) (by omega) (by omega) (by omega) (by omega) (by omega) (by omega) (by omega) (by first | exact L160 | exact loc_0)) (by omega) (And.intro rfl (And.intro rfl (And.intro rfl (And.intro rfl (And.intro rfl (And.intro rfl (And.intro rfl (True.intro))))))))
                  · refine y_iconst rfl ?_
                    refine y_ireturn rfl rfl ?_
                    exact ⟨hHT2, hFT2, _, rfl, ⟨by omega, by omega⟩, (by first | (have u := K59; exact loc_x L18.o (by omega) (by omega) e54 o59 (by first | (have u := K81; exact Or.inr (by rw [← b81]; omega)) | exact Or.inl (by omega))) | exact loc_z L9.o (by omega) (by omega))⟩
              · refine y_iinc rfl rfl rfl rfl ?_
                have x48 : nxS S to v6 = nxS S to (v8 + 1) := x18.trans (nx_s (by omega) (by rw [← tkR_F hFT2 rfl]; omega) (by rw [← tkR_F hFT2 rfl]; omega))
                refine y_goto rfl rfl ?_
                exact Pl_weak (ih18 (by omega) T2 hHT2 hFT2 (v5) (v6) ((v8 + 1)) (by omega) (by omega) (by omega) (by omega) (by omega) (by omega) (by first | exact L18 | (have u := L9; rw [show v7 = 1 by omega] at u; exact u)) (by first | exact x48 | rfl)) (by omega) (And.intro rfl (And.intro rfl (And.intro rfl (And.intro rfl (And.intro rfl (And.intro rfl (And.intro rfl (True.intro))))))))
      refine ys_iload rfl rfl ?_
      refine y_if_eq rfl rfl (by unfold rg; omega) (fun w120 => ?_) (fun w121 => ?_)
      · refine y_iload rfl rfl ?_
        refine y_ireturn rfl rfl ?_
        exact ⟨hHT1, hFT1, _, rfl, ⟨by omega, by omega⟩, (by first | (have u := K59; exact loc_x L18.o (by omega) (by omega) e54 o59 (by first | (have u := K81; exact Or.inr (by rw [← b81]; omega)) | exact Or.inl (by omega))) | exact loc_z L9.o (by omega) (by omega))⟩
      · refine y_iload rfl rfl ?_
        refine y_istore rfl rfl rfl ?_
        exact Pl_weak (C18 n9 (by omega) T1 hHT1 hFT1 (v5) (v6) (v6) (by omega) (by omega) (by omega) (by omega) (by omega) (by omega) (by first | exact L18 | (have u := L9; rw [show v7 = 1 by omega] at u; exact u)) (by first | exact x48 | rfl)) (by omega) (And.intro rfl (And.intro rfl (And.intro rfl (And.intro rfl (And.intro rfl (And.intro rfl (And.intro rfl (True.intro))))))))
  refine y_iconst rfl ?_
  refine y_istore rfl rfl rfl ?_
  refine y_iload_n rfl rfl ?_
  refine y_istore rfl rfl rfl ?_
  refine y_iconst rfl ?_
  refine y_istore rfl rfl rfl ?_
  exact Pl_weak (C9 fu (by omega) S hH hF (0) (from_) (1) (by omega) (by omega) (by omega) (by omega) (by omega) (by omega) (by omega) (by first | exact L160 | exact loc_0)) (by omega) (And.intro rfl (And.intro rfl (And.intro rfl (And.intro rfl (And.intro rfl (And.intro rfl (And.intro rfl (True.intro))))))))
def md_mo_relate__p : List rec := [(940, 941, 0, 100000)]
abbrev Q_mo_relate__p (S : sS) (r1 : Int) (o1 : Int) (o2 : Int) : pst := fun r S1 => RI S1 ∧ FR md_mo_relate__p S S1 ∧ (∃ z : Int, r = some (iv z) ∧ (0 ≤ z ∧ z ≤ 1) ∧ (TRR S S1 z r1 o1 o2))
set_option maxRecDepth 100000 in
theorem t_mo_relate__p {S : sS} (hH : RI S) (r1 : Int) (o1 : Int) (o2 : Int) (hr1 : 0 ≤ r1 ∧ r1 ≤ 5) (ho1 : 0 ≤ o1 ∧ o1 ≤ 23) (ho2 : 0 ≤ o2 ∧ o2 ≤ 23) (hob : 0 ≤ Xi S 904 19 ∧ Xi S 904 19 ≤ 24) (d : Nat) : Mp lay0 (d + 1) m_mo_relate [.ref 904, iv r1, iv o1, iv o2] S (Q_mo_relate__p S r1 o1 o2) := by
  refine Mp_R rfl rfl (fun fu => ?_)
  have hF : FR md_mo_relate__p S S := FR.rf
  have w1 : -2147483648 ≤ Xi S 904 19 ∧ Xi S 904 19 ≤ 2147483647 := Xi_rgI
  have C3 : ∀ (n3 : Nat) (_ : n3 ≤ fu) (v4 : Int), (0 ≤ v4 ∧ v4 ≤ 24) → (0 ≤ v4 ∧ v4 ≤ 24) → (Hid (∀ x : Nat, (x : Int) < v4 → ¬ (Xi S 938 r1.toNat ≠ 0 ∧ (x : Int) ≠ o1 ∧ rlB S r1 x o2 ≠ 0) ∧ ¬ (Xi S 939 r1.toNat ≠ 0 ∧ (x : Int) ≠ o2 ∧ rlB S r1 o1 x ≠ 0))) → Pl n3 lay0 (d + 0) m_mo_relate 3 [(0, .ref 904), (1, iv r1), (2, iv o1), (3, iv o2), (4, iv v4)] [] S (Q_mo_relate__p S r1 o1 o2) := by
    intro n3
    induction n3 with
    | zero => intros; exact Pl_0
    | succ n3 ih3 =>
      intro hm3 v4 w2 w3 L3
      refine ys_iload rfl rfl ?_
      refine y_aload_n rfl rfl ?_
      refine y_gfi rfl rfl rfl rfl rfl ?_
      refine y_icmp_ge rfl rfl (by unfold rg; omega) (by unfold rg; omega) (fun w4 => ?_) (fun w5 => ?_)
      · refine y_aload_n rfl rfl ?_
        refine y_gfr rfl rfl rfl rfl rfl (hH.r 904 46 940 rfl) ?_
        refine y_sipush rfl rfl ?_
        refine y_iload_n rfl rfl ?_
        refine y_imul rfl ?_
        refine y_bipush rfl rfl ?_
        refine y_iload_n rfl rfl ?_
        refine y_imul rfl ?_
        refine y_iadd rfl ?_
        refine y_iload_n rfl rfl ?_
        refine y_iadd rfl ?_
        refine y_iconst rfl ?_
        refine y_bastoreZP (n := 3456) rfl rfl (by unfold rg; omega) ⟨by omega, by omega⟩ (fun w6 w7 => ?_)
        obtain ⟨U1, eU1⟩ : ∃ T : sS, T = uI S 940 (((((576 * r1) + (24 * o1)) + o2)).toNat) (Int32.ofInt 1) := ⟨_, rfl⟩
        rw [← eU1]
        have hHU1 : RI U1 := by rw [eU1]; exact RI_w hH
        have hFU1 : FR md_mo_relate__p S U1 := by rw [eU1]; exact FR.wI hF (mdf_i (r := (940, 941, 0, 100000)) (List.mem_of_getElem? (i := 0) rfl) (inR_i (by omega) (by omega) (by omega) (by omega)))
        have w8 : Xi U1 940 (((((576 * r1) + (24 * o1)) + o2)).toNat) = 1 := by rw [eU1]; exact Xi_same (by unfold rg; omega)
        have K109 : True := trivial
        have e109 := eU1
        refine y_iconst rfl ?_
        refine y_ireturn rfl rfl ?_
        exact ⟨hHU1, hFU1, _, rfl, ⟨by omega, by omega⟩, (by first | (have u := K109; exact ⟨fun _ => ⟨rfl, e109⟩, fun q => absurd (fun x hx => L3.o x (by omega)) q⟩) | exact ⟨fun q => absurd (q (v4).toNat (by omega)) (by unfold rlB; rw [show (((v4).toNat : Nat) : Int) = v4 by omega]; omega), fun _ => ⟨rfl, rfl⟩⟩)⟩
      · refine y_aload_n rfl rfl ?_
        refine y_gfr rfl rfl rfl rfl rfl (hH.r 904 44 938 rfl) ?_
        refine y_iload_n rfl rfl ?_
        refine y_baloadP (n := 6) rfl rfl rfl (by decide) (by unfold rg; omega) (fun w9 w10 => ?_)
        have w11 : -2147483648 ≤ (Xi S 938 ((r1).toNat)) ∧ (Xi S 938 ((r1).toNat)) ≤ 2147483647 := Xi_rgI
        refine y_if_eq rfl rfl (by unfold rg; omega) (fun w12 => ?_) (fun w13 => ?_)
        · refine y_aload_n rfl rfl ?_
          refine y_gfr rfl rfl rfl rfl rfl (hH.r 904 45 939 rfl) ?_
          refine y_iload_n rfl rfl ?_
          refine y_baloadP (n := 6) rfl rfl rfl (by decide) (by unfold rg; omega) (fun w14 w15 => ?_)
          have w16 : -2147483648 ≤ (Xi S 939 ((r1).toNat)) ∧ (Xi S 939 ((r1).toNat)) ≤ 2147483647 := Xi_rgI
          refine y_if_eq rfl rfl (by unfold rg; omega) (fun w17 => ?_) (fun w18 => ?_)
          · refine y_iinc rfl rfl rfl rfl ?_
            have L86 : Hid (∀ x : Nat, (x : Int) < v4 + 1 → ¬ (Xi S 938 r1.toNat ≠ 0 ∧ (x : Int) ≠ o1 ∧ rlB S r1 x o2 ≠ 0) ∧ ¬ (Xi S 939 r1.toNat ≠ 0 ∧ (x : Int) ≠ o2 ∧ rlB S r1 o1 x ≠ 0)) := fun x hx => by by_cases q : (x : Int) < v4; exact L3.o x q; (rw [show (x : Int) = v4 by omega]; unfold rlB; omega)
            refine y_goto rfl rfl ?_
            exact Pl_weak (ih3 (by omega) ((v4 + 1)) (by omega) (by omega) (by first | exact L86 | exact fun x hx => absurd hx (by omega))) (by omega) (And.intro rfl (And.intro rfl (And.intro rfl (And.intro rfl (And.intro rfl (True.intro))))))
          · refine y_iload rfl rfl ?_
            refine y_iload_n rfl rfl ?_
            refine y_icmp_eq rfl rfl (by unfold rg; omega) (by unfold rg; omega) (fun w19 => ?_) (fun w20 => ?_)
            · refine y_iinc rfl rfl rfl rfl ?_
              have L86 : Hid (∀ x : Nat, (x : Int) < v4 + 1 → ¬ (Xi S 938 r1.toNat ≠ 0 ∧ (x : Int) ≠ o1 ∧ rlB S r1 x o2 ≠ 0) ∧ ¬ (Xi S 939 r1.toNat ≠ 0 ∧ (x : Int) ≠ o2 ∧ rlB S r1 o1 x ≠ 0)) := fun x hx => by by_cases q : (x : Int) < v4; exact L3.o x q; (rw [show (x : Int) = v4 by omega]; unfold rlB; omega)
              refine y_goto rfl rfl ?_
              exact Pl_weak (ih3 (by omega) ((v4 + 1)) (by omega) (by omega) (by first | exact L86 | exact fun x hx => absurd hx (by omega))) (by omega) (And.intro rfl (And.intro rfl (And.intro rfl (And.intro rfl (And.intro rfl (True.intro))))))
            · refine y_aload_n rfl rfl ?_
              refine y_gfr rfl rfl rfl rfl rfl (hH.r 904 46 940 rfl) ?_
              refine y_sipush rfl rfl ?_
              refine y_iload_n rfl rfl ?_
              refine y_imul rfl ?_
              refine y_bipush rfl rfl ?_
              refine y_iload_n rfl rfl ?_
              refine y_imul rfl ?_
              refine y_iadd rfl ?_
              refine y_iload rfl rfl ?_
              refine y_iadd rfl ?_
              refine y_baloadP (n := 3456) rfl rfl rfl (by decide) (by unfold rg; omega) (fun w21 w22 => ?_)
              have w23 : -2147483648 ≤ (Xi S 940 (((((576 * r1) + (24 * o1)) + v4)).toNat)) ∧ (Xi S 940 (((((576 * r1) + (24 * o1)) + v4)).toNat)) ≤ 2147483647 := Xi_rgI
              refine y_if_eq rfl rfl (by unfold rg; omega) (fun w24 => ?_) (fun w25 => ?_)
              · refine y_iinc rfl rfl rfl rfl ?_
                have L86 : Hid (∀ x : Nat, (x : Int) < v4 + 1 → ¬ (Xi S 938 r1.toNat ≠ 0 ∧ (x : Int) ≠ o1 ∧ rlB S r1 x o2 ≠ 0) ∧ ¬ (Xi S 939 r1.toNat ≠ 0 ∧ (x : Int) ≠ o2 ∧ rlB S r1 o1 x ≠ 0)) := fun x hx => by by_cases q : (x : Int) < v4; exact L3.o x q; (rw [show (x : Int) = v4 by omega]; unfold rlB; omega)
                refine y_goto rfl rfl ?_
                exact Pl_weak (ih3 (by omega) ((v4 + 1)) (by omega) (by omega) (by first | exact L86 | exact fun x hx => absurd hx (by omega))) (by omega) (And.intro rfl (And.intro rfl (And.intro rfl (And.intro rfl (And.intro rfl (True.intro))))))
              · refine y_iconst rfl ?_
                refine y_ireturn rfl rfl ?_
                exact ⟨hH, hF, _, rfl, ⟨by omega, by omega⟩, (by first | (have u := K109; exact ⟨fun _ => ⟨rfl, e109⟩, fun q => absurd (fun x hx => L3.o x (by omega)) q⟩) | exact ⟨fun q => absurd (q (v4).toNat (by omega)) (by unfold rlB; rw [show (((v4).toNat : Nat) : Int) = v4 by omega]; omega), fun _ => ⟨rfl, rfl⟩⟩)⟩
        · refine y_iload rfl rfl ?_
          refine y_iload_n rfl rfl ?_
          refine y_icmp_eq rfl rfl (by unfold rg; omega) (by unfold rg; omega) (fun w26 => ?_) (fun w27 => ?_)
          · refine y_aload_n rfl rfl ?_
            refine y_gfr rfl rfl rfl rfl rfl (hH.r 904 45 939 rfl) ?_
            refine y_iload_n rfl rfl ?_
            refine y_baloadP (n := 6) rfl rfl rfl (by decide) (by unfold rg; omega) (fun w28 w29 => ?_)
            have w30 : -2147483648 ≤ (Xi S 939 ((r1).toNat)) ∧ (Xi S 939 ((r1).toNat)) ≤ 2147483647 := Xi_rgI
            refine y_if_eq rfl rfl (by unfold rg; omega) (fun w31 => ?_) (fun w32 => ?_)
            · refine y_iinc rfl rfl rfl rfl ?_
              have L86 : Hid (∀ x : Nat, (x : Int) < v4 + 1 → ¬ (Xi S 938 r1.toNat ≠ 0 ∧ (x : Int) ≠ o1 ∧ rlB S r1 x o2 ≠ 0) ∧ ¬ (Xi S 939 r1.toNat ≠ 0 ∧ (x : Int) ≠ o2 ∧ rlB S r1 o1 x ≠ 0)) := fun x hx => by by_cases q : (x : Int) < v4; exact L3.o x q; (rw [show (x : Int) = v4 by omega]; unfold rlB; omega)
              refine y_goto rfl rfl ?_
              exact Pl_weak (ih3 (by omega) ((v4 + 1)) (by omega) (by omega) (by first | exact L86 | exact fun x hx => absurd hx (by omega))) (by omega) (And.intro rfl (And.intro rfl (And.intro rfl (And.intro rfl (And.intro rfl (True.intro))))))
            · refine y_iload rfl rfl ?_
              refine y_iload_n rfl rfl ?_
              refine y_icmp_eq rfl rfl (by unfold rg; omega) (by unfold rg; omega) (fun w33 => ?_) (fun w34 => ?_)
              · refine y_iinc rfl rfl rfl rfl ?_
                have L86 : Hid (∀ x : Nat, (x : Int) < v4 + 1 → ¬ (Xi S 938 r1.toNat ≠ 0 ∧ (x : Int) ≠ o1 ∧ rlB S r1 x o2 ≠ 0) ∧ ¬ (Xi S 939 r1.toNat ≠ 0 ∧ (x : Int) ≠ o2 ∧ rlB S r1 o1 x ≠ 0)) := fun x hx => by by_cases q : (x : Int) < v4; exact L3.o x q; (rw [show (x : Int) = v4 by omega]; unfold rlB; omega)
                refine y_goto rfl rfl ?_
                exact Pl_weak (ih3 (by omega) ((v4 + 1)) (by omega) (by omega) (by first | exact L86 | exact fun x hx => absurd hx (by omega))) (by omega) (And.intro rfl (And.intro rfl (And.intro rfl (And.intro rfl (And.intro rfl (True.intro))))))
              · refine y_aload_n rfl rfl ?_
                refine y_gfr rfl rfl rfl rfl rfl (hH.r 904 46 940 rfl) ?_
                refine y_sipush rfl rfl ?_
                refine y_iload_n rfl rfl ?_
                refine y_imul rfl ?_
                refine y_bipush rfl rfl ?_
                refine y_iload_n rfl rfl ?_
                refine y_imul rfl ?_
                refine y_iadd rfl ?_
                refine y_iload rfl rfl ?_
                refine y_iadd rfl ?_
                refine y_baloadP (n := 3456) rfl rfl rfl (by decide) (by unfold rg; omega) (fun w35 w36 => ?_)
                have w37 : -2147483648 ≤ (Xi S 940 (((((576 * r1) + (24 * o1)) + v4)).toNat)) ∧ (Xi S 940 (((((576 * r1) + (24 * o1)) + v4)).toNat)) ≤ 2147483647 := Xi_rgI
                refine y_if_eq rfl rfl (by unfold rg; omega) (fun w38 => ?_) (fun w39 => ?_)
                · refine y_iinc rfl rfl rfl rfl ?_
                  have L86 : Hid (∀ x : Nat, (x : Int) < v4 + 1 → ¬ (Xi S 938 r1.toNat ≠ 0 ∧ (x : Int) ≠ o1 ∧ rlB S r1 x o2 ≠ 0) ∧ ¬ (Xi S 939 r1.toNat ≠ 0 ∧ (x : Int) ≠ o2 ∧ rlB S r1 o1 x ≠ 0)) := fun x hx => by by_cases q : (x : Int) < v4; exact L3.o x q; (rw [show (x : Int) = v4 by omega]; unfold rlB; omega)
                  refine y_goto rfl rfl ?_
                  exact Pl_weak (ih3 (by omega) ((v4 + 1)) (by omega) (by omega) (by first | exact L86 | exact fun x hx => absurd hx (by omega))) (by omega) (And.intro rfl (And.intro rfl (And.intro rfl (And.intro rfl (And.intro rfl (True.intro))))))
                · refine y_iconst rfl ?_
                  refine y_ireturn rfl rfl ?_
                  exact ⟨hH, hF, _, rfl, ⟨by omega, by omega⟩, (by first | (have u := K109; exact ⟨fun _ => ⟨rfl, e109⟩, fun q => absurd (fun x hx => L3.o x (by omega)) q⟩) | exact ⟨fun q => absurd (q (v4).toNat (by omega)) (by unfold rlB; rw [show (((v4).toNat : Nat) : Int) = v4 by omega]; omega), fun _ => ⟨rfl, rfl⟩⟩)⟩
          · refine y_aload_n rfl rfl ?_
            refine y_gfr rfl rfl rfl rfl rfl (hH.r 904 46 940 rfl) ?_
            refine y_sipush rfl rfl ?_
            refine y_iload_n rfl rfl ?_
            refine y_imul rfl ?_
            refine y_bipush rfl rfl ?_
            refine y_iload rfl rfl ?_
            refine y_imul rfl ?_
            refine y_iadd rfl ?_
            refine y_iload_n rfl rfl ?_
            refine y_iadd rfl ?_
            refine y_baloadP (n := 3456) rfl rfl rfl (by decide) (by unfold rg; omega) (fun w40 w41 => ?_)
            have w42 : -2147483648 ≤ (Xi S 940 (((((576 * r1) + (24 * v4)) + o2)).toNat)) ∧ (Xi S 940 (((((576 * r1) + (24 * v4)) + o2)).toNat)) ≤ 2147483647 := Xi_rgI
            refine y_if_ne rfl rfl (by unfold rg; omega) (fun w43 => ?_) (fun w44 => ?_)
            · refine y_iconst rfl ?_
              refine y_ireturn rfl rfl ?_
              exact ⟨hH, hF, _, rfl, ⟨by omega, by omega⟩, (by first | (have u := K109; exact ⟨fun _ => ⟨rfl, e109⟩, fun q => absurd (fun x hx => L3.o x (by omega)) q⟩) | exact ⟨fun q => absurd (q (v4).toNat (by omega)) (by unfold rlB; rw [show (((v4).toNat : Nat) : Int) = v4 by omega]; omega), fun _ => ⟨rfl, rfl⟩⟩)⟩
            · refine y_aload_n rfl rfl ?_
              refine y_gfr rfl rfl rfl rfl rfl (hH.r 904 45 939 rfl) ?_
              refine y_iload_n rfl rfl ?_
              refine y_baloadP (n := 6) rfl rfl rfl (by decide) (by unfold rg; omega) (fun w45 w46 => ?_)
              have w47 : -2147483648 ≤ (Xi S 939 ((r1).toNat)) ∧ (Xi S 939 ((r1).toNat)) ≤ 2147483647 := Xi_rgI
              refine y_if_eq rfl rfl (by unfold rg; omega) (fun w48 => ?_) (fun w49 => ?_)
              · refine y_iinc rfl rfl rfl rfl ?_
                have L86 : Hid (∀ x : Nat, (x : Int) < v4 + 1 → ¬ (Xi S 938 r1.toNat ≠ 0 ∧ (x : Int) ≠ o1 ∧ rlB S r1 x o2 ≠ 0) ∧ ¬ (Xi S 939 r1.toNat ≠ 0 ∧ (x : Int) ≠ o2 ∧ rlB S r1 o1 x ≠ 0)) := fun x hx => by by_cases q : (x : Int) < v4; exact L3.o x q; (rw [show (x : Int) = v4 by omega]; unfold rlB; omega)
                refine y_goto rfl rfl ?_
                exact Pl_weak (ih3 (by omega) ((v4 + 1)) (by omega) (by omega) (by first | exact L86 | exact fun x hx => absurd hx (by omega))) (by omega) (And.intro rfl (And.intro rfl (And.intro rfl (And.intro rfl (And.intro rfl (True.intro))))))
              · refine y_iload rfl rfl ?_
                refine y_iload_n rfl rfl ?_
                refine y_icmp_eq rfl rfl (by unfold rg; omega) (by unfold rg; omega) (fun w50 => ?_) (fun w51 => ?_)
                · refine y_iinc rfl rfl rfl rfl ?_
                  have L86 : Hid (∀ x : Nat, (x : Int) < v4 + 1 → ¬ (Xi S 938 r1.toNat ≠ 0 ∧ (x : Int) ≠ o1 ∧ rlB S r1 x o2 ≠ 0) ∧ ¬ (Xi S 939 r1.toNat ≠ 0 ∧ (x : Int) ≠ o2 ∧ rlB S r1 o1 x ≠ 0)) := fun x hx => by by_cases q : (x : Int) < v4; exact L3.o x q; (rw [show (x : Int) = v4 by omega]; unfold rlB; omega)
                  refine y_goto rfl rfl ?_
                  exact Pl_weak (ih3 (by omega) ((v4 + 1)) (by omega) (by omega) (by first | exact L86 | exact fun x hx => absurd hx (by omega))) (by omega) (And.intro rfl (And.intro rfl (And.intro rfl (And.intro rfl (And.intro rfl (True.intro))))))
                · refine y_aload_n rfl rfl ?_
                  refine y_gfr rfl rfl rfl rfl rfl (hH.r 904 46 940 rfl) ?_
                  refine y_sipush rfl rfl ?_
                  refine y_iload_n rfl rfl ?_
                  refine y_imul rfl ?_
                  refine y_bipush rfl rfl ?_
                  refine y_iload_n rfl rfl ?_
                  refine y_imul rfl ?_
                  refine y_iadd rfl ?_
                  refine y_iload rfl rfl ?_
                  refine y_iadd rfl ?_
                  refine y_baloadP (n := 3456) rfl rfl rfl (by decide) (by unfold rg; omega) (fun w52 w53 => ?_)
                  have w54 : -2147483648 ≤ (Xi S 940 (((((576 * r1) + (24 * o1)) + v4)).toNat)) ∧ (Xi S 940 (((((576 * r1) + (24 * o1)) + v4)).toNat)) ≤ 2147483647 := Xi_rgI
                  refine y_if_eq rfl rfl (by unfold rg; omega) (fun w55 => ?_) (fun w56 => ?_)
                  · refine y_iinc rfl rfl rfl rfl ?_
                    have L86 : Hid (∀ x : Nat, (x : Int) < v4 + 1 → ¬ (Xi S 938 r1.toNat ≠ 0 ∧ (x : Int) ≠ o1 ∧ rlB S r1 x o2 ≠ 0) ∧ ¬ (Xi S 939 r1.toNat ≠ 0 ∧ (x : Int) ≠ o2 ∧ rlB S r1 o1 x ≠ 0)) := fun x hx => by by_cases q : (x : Int) < v4; exact L3.o x q; (rw [show (x : Int) = v4 by omega]; unfold rlB; omega)
                    refine y_goto rfl rfl ?_
                    exact Pl_weak (ih3 (by omega) ((v4 + 1)) (by omega) (by omega) (by first | exact L86 | exact fun x hx => absurd hx (by omega))) (by omega) (And.intro rfl (And.intro rfl (And.intro rfl (And.intro rfl (And.intro rfl (True.intro))))))
                  · refine y_iconst rfl ?_
                    refine y_ireturn rfl rfl ?_
                    exact ⟨hH, hF, _, rfl, ⟨by omega, by omega⟩, (by first | (have u := K109; exact ⟨fun _ => ⟨rfl, e109⟩, fun q => absurd (fun x hx => L3.o x (by omega)) q⟩) | exact ⟨fun q => absurd (q (v4).toNat (by omega)) (by unfold rlB; rw [show (((v4).toNat : Nat) : Int) = v4 by omega]; omega), fun _ => ⟨rfl, rfl⟩⟩)⟩
  refine y_iconst rfl ?_
  refine y_istore rfl rfl rfl ?_
  exact Pl_weak (C3 fu (by omega) (0) (by omega) (by omega) (by first | exact L86 | exact fun x hx => absurd hx (by omega))) (by omega) (And.intro rfl (And.intro rfl (And.intro rfl (And.intro rfl (And.intro rfl (True.intro))))))
def md_mo_doSaying__p : List rec := [(904, 905, 105, 106), (904, 905, 106, 107), (940, 941, 0, 100000)]
abbrev Q_mo_doSaying__p (S : sS) (first : Int) : pst := fun r S1 => RI S1 ∧ FR md_mo_doSaying__p S S1 ∧ (r = none ∧ (DSY S S1 first))
set_option maxRecDepth 100000 in
theorem t_mo_doSaying__p {S : sS} (hH : RI S) (first : Int) (hfirst : 0 ≤ first ∧ first ≤ 5001) (hob : 0 ≤ Xi S 904 19 ∧ Xi S 904 19 ≤ 24) (h0 : Xi S 904 106 = 0) (hrl : 0 ≤ Xi S 904 147 ∧ Xi S 904 147 ≤ 5) (h144 : 0 ≤ Xi S 904 144 ∧ Xi S 904 144 ≤ 5200) (h146 : 0 ≤ Xi S 904 146 ∧ Xi S 904 146 ≤ 5200) (ha : Hid (∀ i : Nat, (i : Int) < Xi S 904 144 → 0 ≤ Xi S 988 i ∧ Xi S 988 i ≤ 23)) (hb : Hid (∀ i : Nat, (i : Int) < Xi S 904 146 → 0 ≤ Xi S 989 i ∧ Xi S 989 i ≤ 23)) (d : Nat) : Mp lay0 (d + 2) m_mo_doSaying [.ref 904, iv first] S (Q_mo_doSaying__p S first) := by
  refine Mp_R rfl rfl (fun fu => ?_)
  have hF : FR md_mo_doSaying__p S S := FR.rf
  have w1 : -2147483648 ≤ Xi S 904 106 ∧ Xi S 904 106 ≤ 2147483647 := Xi_rgI
  have w2 : -2147483648 ≤ Xi S 904 144 ∧ Xi S 904 144 ≤ 2147483647 := Xi_rgI
  have w3 : -2147483648 ≤ Xi S 904 146 ∧ Xi S 904 146 ≤ 2147483647 := Xi_rgI
  have w4 : -2147483648 ≤ Xi S 904 147 ∧ Xi S 904 147 ≤ 2147483647 := Xi_rgI
  have w5 : -2147483648 ≤ Xi S 904 19 ∧ Xi S 904 19 ≤ 2147483647 := Xi_rgI
  have C2 : ∀ (n2 : Nat) (_ : n2 ≤ fu) (T1 : sS) (_ : RI T1) (_ : FR md_mo_doSaying__p S T1) (v2 : Int), (0 ≤ v2 ∧ v2 ≤ 5200) → (0 ≤ v2 ∧ v2 ≤ Xi S 904 144) → (Hid ((Xi T1 904 106 = 0 → DOU S (Xi S 904 147) (Xi S 904 146) (v2).toNat S T1) ∧ (Xi T1 904 106 ≠ 0 → DFA S first T1))) → Pl n2 lay0 (d + 1) m_mo_doSaying 2 [(0, .ref 904), (1, iv first), (2, iv v2)] [] T1 (Q_mo_doSaying__p S first) := by
    intro n2
    induction n2 with
    | zero => intros; exact Pl_0
    | succ n2 ih2 =>
      intro hm2 T1 hHT1 hFT1 v2 w6 w7 I2
      have w8 : Xi T1 904 144 = Xi S 904 144 := hFT1.x _ _ rfl
      have w9 : Xi T1 904 146 = Xi S 904 146 := hFT1.x _ _ rfl
      have w10 : Xi T1 904 147 = Xi S 904 147 := hFT1.x _ _ rfl
      have w11 : Xi T1 904 19 = Xi S 904 19 := hFT1.x _ _ rfl
      have w12 : -2147483648 ≤ Xi T1 904 106 ∧ Xi T1 904 106 ≤ 2147483647 := Xi_rgI
      have C19 : ∀ (n19 : Nat) (_ : n19 ≤ n2) (T2 : sS) (_ : RI T2) (_ : FR md_mo_doSaying__p S T2) (v2 : Int) (v3 : Int), (0 ≤ v2 ∧ v2 ≤ 5200) → (0 ≤ v3 ∧ v3 ≤ 5200) → (0 ≤ v2 ∧ v2 < Xi S 904 144) → (0 ≤ v3 ∧ v3 ≤ Xi S 904 146) → (Hid ((Xi T2 904 106 = 0 → DIO S v2 v3 T2) ∧ (Xi T2 904 106 ≠ 0 → DFA S first T2))) → Pl n19 lay0 (d + 1) m_mo_doSaying 19 [(0, .ref 904), (1, iv first), (2, iv v2), (3, iv v3)] [] T2 (Q_mo_doSaying__p S first) := by
        intro n19
        induction n19 with
        | zero => intros; exact Pl_0
        | succ n19 ih19 =>
          intro hm19 T2 hHT2 hFT2 v2 v3 w13 w14 w15 w16 I19
          have w17 : Xi T2 904 144 = Xi S 904 144 := hFT2.x _ _ rfl
          have w18 : Xi T2 904 146 = Xi S 904 146 := hFT2.x _ _ rfl
          have w19 : Xi T2 904 147 = Xi S 904 147 := hFT2.x _ _ rfl
          have w20 : Xi T2 904 19 = Xi S 904 19 := hFT2.x _ _ rfl
          have w21 : -2147483648 ≤ Xi T2 904 106 ∧ Xi T2 904 106 ≤ 2147483647 := Xi_rgI
          refine ys_iload_n rfl rfl ?_
          refine y_aload_n rfl rfl ?_
          refine y_gfi rfl rfl rfl rfl rfl ?_
          refine y_icmp_ge rfl rfl (by unfold rg; omega) (by unfold rg; omega) (fun w22 => ?_) (fun w23 => ?_)
          · refine y_iinc rfl rfl rfl rfl ?_
            have I69 : Hid ((Xi T2 904 106 = 0 → DOU S (Xi S 904 147) (Xi S 904 146) (v2 + 1).toNat S T2) ∧ (Xi T2 904 106 ≠ 0 → DFA S first T2)) := by first | exact ⟨fun q => dou_s (I19.o.1 q) (by omega) (by omega), I19.o.2⟩ | exact ⟨fun q => absurd q (by omega), I19.o.2⟩
            refine y_goto rfl rfl ?_
            exact Pl_weak (ih2 (by omega) T2 hHT2 hFT2 ((v2 + 1)) (by omega) (by omega) (by first | exact I69 | exact ⟨fun _ => rfl, fun q => absurd h0 q⟩)) (by omega) (And.intro rfl (And.intro rfl (And.intro rfl (True.intro))))
          · refine y_aload_n rfl rfl ?_
            refine y_gfi rfl rfl rfl rfl rfl ?_
            refine y_if_ne rfl rfl (by unfold rg; omega) (fun w24 => ?_) (fun w25 => ?_)
            · refine y_iinc rfl rfl rfl rfl ?_
              have I69 : Hid ((Xi T2 904 106 = 0 → DOU S (Xi S 904 147) (Xi S 904 146) (v2 + 1).toNat S T2) ∧ (Xi T2 904 106 ≠ 0 → DFA S first T2)) := by first | exact ⟨fun q => dou_s (I19.o.1 q) (by omega) (by omega), I19.o.2⟩ | exact ⟨fun q => absurd q (by omega), I19.o.2⟩
              refine y_goto rfl rfl ?_
              exact Pl_weak (ih2 (by omega) T2 hHT2 hFT2 ((v2 + 1)) (by omega) (by omega) (by first | exact I69 | exact ⟨fun _ => rfl, fun q => absurd h0 q⟩)) (by omega) (And.intro rfl (And.intro rfl (And.intro rfl (True.intro))))
            · refine y_aload_n rfl rfl ?_
              refine y_aload_n rfl rfl ?_
              refine y_gfi rfl rfl rfl rfl rfl ?_
              refine y_aload_n rfl rfl ?_
              refine y_gfr rfl rfl rfl rfl rfl (hHT2.r 904 143 988 rfl) ?_
              refine y_iload_n rfl rfl ?_
              refine y_ialoadP (n := 2600) rfl rfl (by unfold rg; omega) (fun w26 w27 => ?_)
              have w28 : -2147483648 ≤ (Xi T2 988 ((v2).toNat)) ∧ (Xi T2 988 ((v2).toNat)) ≤ 2147483647 := Xi_rgI
              have a44 := ha.o (v2).toNat (by omega)
              have x44 : (Xi T2 988 ((v2).toNat)) = Xi S 988 (v2).toNat := (hFT2.cx 988 rfl _).1
              refine y_aload_n rfl rfl ?_
              refine y_gfr rfl rfl rfl rfl rfl (hHT2.r 904 145 989 rfl) ?_
              refine y_iload_n rfl rfl ?_
              refine y_ialoadP (n := 2600) rfl rfl (by unfold rg; omega) (fun w29 w30 => ?_)
              have w31 : -2147483648 ≤ (Xi T2 989 ((v3).toNat)) ∧ (Xi T2 989 ((v3).toNat)) ≤ 2147483647 := Xi_rgI
              have b50 := hb.o (v3).toNat (by omega)
              have x50 : (Xi T2 989 ((v3).toNat)) = Xi S 989 (v3).toNat := (hFT2.cx 989 rfl _).1
              have s50 : Xi T2 904 147 = Xi S 904 147 := hFT2.x 904 147 rfl
              refine y_callV rfl rfl rfl (t_mo_relate__p hHT2 (Xi T2 904 147) (Xi T2 988 ((v2).toNat)) (Xi T2 989 ((v3).toNat)) ⟨by omega, by omega⟩ ⟨by omega, by omega⟩ ⟨by omega, by omega⟩ (by first | assumption | omega) _) ?_
              rintro _ T3 ⟨hHT3, w33, z32, rfl, w32, t51⟩
              have hFT3 : FR md_mo_doSaying__p S T3 := FR.tr hFT2 w33 rfl
              show Pl _ _ _ _ _ _ [iv z32] _ _
              have t51b := t51
              rw [s50, x44, x50] at t51b
              have z51 : Xi T3 904 106 = 0 := ((by assumption : FR md_mo_relate__p T2 T3).x 904 106 rfl).trans (by omega)
              refine y_if_ne rfl rfl (by unfold rg; omega) (fun w34 => ?_) (fun w35 => ?_)
              · refine y_iinc rfl rfl rfl rfl ?_
                have I63 : Hid ((Xi T3 904 106 = 0 → DIO S v2 (v3 + 1) T3) ∧ (Xi T3 904 106 ≠ 0 → DFA S first T3)) := by first | (have u := K60; exact ⟨fun q => absurd q n60, fun _ => dfa_i (I19.o.1 (by omega)) (by omega) (by omega) t51b (by omega) Y60⟩) | exact ⟨fun _ => dio_s (I19.o.1 (by omega)) (by omega) t51b (by omega), fun q => absurd z51 q⟩
                refine y_goto rfl rfl ?_
                have w36 : Xi T3 904 106 = Xi T2 904 106 := (show Xi T3 904 106 = Xi T2 904 106 from w33.x _ _ rfl)
                exact Pl_weak (ih19 (by omega) T3 hHT3 hFT3 (v2) ((v3 + 1)) (by omega) (by omega) (by omega) (by omega) (by first | exact I63 | exact ⟨fun q => dio_0 (I2.o.1 q), I2.o.2⟩)) (by omega) (And.intro rfl (And.intro rfl (And.intro rfl (And.intro rfl (True.intro)))))
              · refine y_aload_n rfl rfl ?_
                refine y_iconst rfl ?_
                refine y_iload_n rfl rfl ?_
                have w37 : Xi T3 904 106 = Xi T2 904 106 := (show Xi T3 904 106 = Xi T2 904 106 from w33.x _ _ rfl)
                refine y_callV rfl rfl rfl (t_mo_wrong__p hHT3 5 first ⟨by omega, by omega⟩ ⟨by omega, by omega⟩ _) ?_
                rintro _ T4 ⟨hHT4, w40, rfl, w60, w38⟩
                have hFT4 : FR md_mo_doSaying__p S T4 := FR.tr hFT3 w40 rfl
                show Pl _ _ _ _ _ _ [] _ _
                have K60 : True := trivial
                have Y60 : NTB (NT3 T4) 5 (Xi S 908 first.toNat) := by have t := w60 z51; rw [(hFT3.cx 908 rfl _).1] at t; exact t
                have n60 : Xi T4 904 106 ≠ 0 := by have t : Xi T4 904 106 = 5 := Y60.1; omega
                refine y_iinc rfl rfl rfl rfl ?_
                have I63 : Hid ((Xi T4 904 106 = 0 → DIO S v2 (v3 + 1) T4) ∧ (Xi T4 904 106 ≠ 0 → DFA S first T4)) := by first | (have u := K60; exact ⟨fun q => absurd q n60, fun _ => dfa_i (I19.o.1 (by omega)) (by omega) (by omega) t51b (by omega) Y60⟩) | exact ⟨fun _ => dio_s (I19.o.1 (by omega)) (by omega) t51b (by omega), fun q => absurd z51 q⟩
                refine y_goto rfl rfl ?_
                exact Pl_weak (ih19 (by omega) T4 hHT4 hFT4 (v2) ((v3 + 1)) (by omega) (by omega) (by omega) (by omega) (by first | exact I63 | exact ⟨fun q => dio_0 (I2.o.1 q), I2.o.2⟩)) (by omega) (And.intro rfl (And.intro rfl (And.intro rfl (And.intro rfl (True.intro)))))
      refine ys_iload_n rfl rfl ?_
      refine y_aload_n rfl rfl ?_
      refine y_gfi rfl rfl rfl rfl rfl ?_
      refine y_icmp_ge rfl rfl (by unfold rg; omega) (by unfold rg; omega) (fun w41 => ?_) (fun w42 => ?_)
      · refine y_return rfl rfl ?_
        exact ⟨hHT1, hFT1, rfl, (by first | exact ⟨fun q => absurd q (by omega), I2.o.2⟩ | exact ⟨fun q => by have u := I2.o.1 q; rw [show v2 = Xi S 904 144 by omega] at u; exact u, I2.o.2⟩)⟩
      · refine y_aload_n rfl rfl ?_
        refine y_gfi rfl rfl rfl rfl rfl ?_
        refine y_if_ne rfl rfl (by unfold rg; omega) (fun w43 => ?_) (fun w44 => ?_)
        · refine y_return rfl rfl ?_
          exact ⟨hHT1, hFT1, rfl, (by first | exact ⟨fun q => absurd q (by omega), I2.o.2⟩ | exact ⟨fun q => by have u := I2.o.1 q; rw [show v2 = Xi S 904 144 by omega] at u; exact u, I2.o.2⟩)⟩
        · refine y_iconst rfl ?_
          refine y_istore_n rfl rfl rfl ?_
          exact Pl_weak (C19 n2 (by omega) T1 hHT1 hFT1 (v2) (0) (by omega) (by omega) (by omega) (by omega) (by first | exact I63 | exact ⟨fun q => dio_0 (I2.o.1 q), I2.o.2⟩)) (by omega) (And.intro rfl (And.intro rfl (And.intro rfl (And.intro rfl (True.intro)))))
  refine y_iconst rfl ?_
  refine y_istore_n rfl rfl rfl ?_
  exact Pl_weak (C2 fu (by omega) S hH hF (0) (by omega) (by omega) (by first | exact I69 | exact ⟨fun _ => rfl, fun q => absurd h0 q⟩)) (by omega) (And.intro rfl (And.intro rfl (And.intro rfl (True.intro))))
def md_mo_askSaying__p : List rec := [(904, 905, 104, 105), (904, 905, 105, 106), (904, 905, 106, 107), (904, 905, 144, 145), (904, 905, 146, 147), (904, 905, 147, 148), (988, 989, 0, 100000), (989, 990, 0, 100000), (990, 991, 0, 100000)]
abbrev Q_mo_askSaying__p (S : sS) (dd : Nat) (first : Int) : pst := fun r S1 => RI S1 ∧ FR md_mo_askSaying__p S S1 ∧ (r = none ∧ (RSY S S1 first dd))
set_option maxRecDepth 100000 in
theorem t_mo_askSaying__p {S : sS} (hH : RI S) (dd : Nat) (first : Int) (hfirst : 0 ≤ first ∧ first ≤ 5001) (hLS : LSP S) (h15 : 0 ≤ Xi S 904 15) (hB : ABV S) (hko : Hid (∀ j : Nat, -1 ≤ Xi S 918 j ∧ Xi S 918 j ≤ 15)) (hd : first ≤ (dd : Int) ∧ (dd : Int) ≤ 5001) (he : Xi S 907 dd = 46) (hu : Hid (∀ j : Nat, first ≤ (j : Int) → j < dd → Xi S 907 j ≠ 46)) (d : Nat) : Mp lay0 (d + 6) m_mo_askSaying [.ref 904, iv first] S (Q_mo_askSaying__p S dd first) := by
  refine Mp_R rfl rfl (fun fu => ?_)
  have hF : FR md_mo_askSaying__p S S := FR.rf
  have w1 : -2147483648 ≤ Xi S 904 15 ∧ Xi S 904 15 ≤ 2147483647 := Xi_rgI
  have C2 : ∀ (n2 : Nat) (_ : n2 ≤ fu) (v2 : Int), (0 ≤ v2 ∧ v2 ≤ 5001) → (first ≤ v2 ∧ v2 ≤ (dd : Int)) → Pl n2 lay0 (d + 5) m_mo_askSaying 2 [(0, .ref 904), (1, iv first), (2, iv v2)] [] S (Q_mo_askSaying__p S dd first) := by
    intro n2
    induction n2 with
    | zero => intros; exact Pl_0
    | succ n2 ih2 =>
      intro hm2 v2 w2 w3
      have C27 : ∀ (n27 : Nat) (_ : n27 ≤ n2) (T1 : sS) (_ : RI T1) (_ : FR md_mo_askSaying__p S T1) (v2 : Int) (v3 : Int) (v4 : Int) (v5 : Int), (0 ≤ v2 ∧ v2 ≤ 5001) → (0 ≤ v3 ∧ v3 ≤ 5002) → (0 ≤ v4 ∧ v4 ≤ 1) → (0 ≤ v5 ∧ v5 ≤ 5001) → (v2 = (dd : Int)) → (first ≤ v5 ∧ v5 ≤ (dd : Int)) → (0 ≤ v3 ∧ v3 ≤ v5 - first) → (0 ≤ v4 ∧ v4 ≤ 1) → (v4 = sgF S first (v5 - first).toNat) → (Hid (SAC S T1 first dd (v5 - first) v3)) → (NT3 T1 = NT3 S) → Pl n27 lay0 (d + 5) m_mo_askSaying 27 [(0, .ref 904), (1, iv first), (2, iv v2), (3, iv v3), (4, iv v4), (5, iv v5)] [] T1 (Q_mo_askSaying__p S dd first) := by
        intro n27
        induction n27 with
        | zero => intros; exact Pl_0
        | succ n27 ih27 =>
          intro hm27 T1 hHT1 hFT1 v2 v3 v4 v5 w4 w5 w6 w7 w8 w9 w10 w11 s27 q27 N27
          have w12 : Xi T1 904 15 = Xi S 904 15 := hFT1.x _ _ rfl
          have C69 : ∀  (T2 : sS) (_ : RI T2) (_ : FR md_mo_askSaying__p S T2) (v2 : Int) (v3 : Int) (v4 : Int) (v5 : Int) (v6 : Int), (0 ≤ v2 ∧ v2 ≤ 5001) → (0 ≤ v3 ∧ v3 ≤ 5002) → (0 ≤ v4 ∧ v4 ≤ 1) → (0 ≤ v5 ∧ v5 ≤ 5001) → (-2147483648 ≤ v6 ∧ v6 ≤ 2147483647) → (v2 = (dd : Int)) → (first ≤ v5 ∧ v5 < (dd : Int)) → (0 ≤ v3 ∧ v3 ≤ v5 - first) → (0 ≤ v4 ∧ v4 ≤ 1) → (v6 = (vbA S first (v5 - first).toNat)) → (v4 = sgF S first (v5 - first).toNat) → (Hid (SAC S T2 first dd (v5 - first) v3)) → (NT3 T2 = NT3 S) → Pl n27 lay0 (d + 5) m_mo_askSaying 69 [(0, .ref 904), (1, iv first), (2, iv v2), (3, iv v3), (4, iv v4), (5, iv v5), (6, iv v6)] [] T2 (Q_mo_askSaying__p S dd first) := by
            intro T2 hHT2 hFT2 v2 v3 v4 v5 v6 w13 w14 w15 w16 w17 w18 w19 w20 w21 V69 s69 q69 N69
            have w22 : Xi T2 904 15 = Xi S 904 15 := hFT2.x _ _ rfl
            have C197 : ∀  (T3 : sS) (_ : RI T3) (_ : FR md_mo_askSaying__p S T3) (v2 : Int) (v3 : Int) (v4 : Int) (v5 : Int), (0 ≤ v2 ∧ v2 ≤ 5001) → (0 ≤ v3 ∧ v3 ≤ 5002) → (0 ≤ v4 ∧ v4 ≤ 1) → (0 ≤ v5 ∧ v5 ≤ 5001) → (v2 = (dd : Int)) → (first ≤ v5 ∧ v5 < (dd : Int)) → (0 ≤ v3 ∧ v3 ≤ v5 - first + 1) → (0 ≤ v4 ∧ v4 ≤ 1) → (v4 = sgF S first (v5 - first).toNat) → (Hid (SAC S T3 first dd (v5 + 1 - first) v3)) → (NT3 T3 = NT3 S) → Pl n27 lay0 (d + 5) m_mo_askSaying 197 [(0, .ref 904), (1, iv first), (2, iv v2), (3, iv v3), (4, iv v4), (5, iv v5)] [] T3 (Q_mo_askSaying__p S dd first) := by
              intro T3 hHT3 hFT3 v2 v3 v4 v5 w23 w24 w25 w26 w27 w28 w29 w30 s197 q197 N197
              have w31 : Xi T3 904 15 = Xi S 904 15 := hFT3.x _ _ rfl
              refine y_iload rfl rfl ?_
              refine y_if_eq rfl rfl (by unfold rg; omega) (fun w32 => ?_) (fun w33 => ?_)
              · refine y_iconst rfl ?_
                refine y_istore rfl rfl rfl ?_
                have s231 : 0 = sgF S first (v5 + 1 - first).toNat := sg_s (n := v5 - first) (i := v5) (by omega) s197 (by rw [← tkR_F hFT3 rfl]; omega)
                refine y_iinc rfl rfl rfl rfl ?_
                refine y_goto rfl rfl ?_
                exact Pl_weak (ih27 (by omega) T3 hHT3 hFT3 (v2) (v3) (0) ((v5 + 1)) (by omega) (by omega) (by omega) (by omega) (by omega) (by omega) (by omega) (by omega) (by first | exact s231 | (rw [show (first - first).toNat = 0 by omega]; rfl)) (by first | exact q197 | exact sac_0 (by omega)) (by first | exact N197 | rfl)) (by omega) (And.intro rfl (And.intro rfl (And.intro rfl (And.intro rfl (And.intro rfl (And.intro rfl (True.intro)))))))
              · refine y_aload_n rfl rfl ?_
                refine y_gfr rfl rfl rfl rfl rfl (hHT3.r 904 4 907 rfl) ?_
                refine y_iload rfl rfl ?_
                refine y_ialoadP (n := 5002) rfl rfl (by unfold rg; omega) (fun w34 w35 => ?_)
                have w36 : -2147483648 ≤ (Xi T3 907 ((v5).toNat)) ∧ (Xi T3 907 ((v5).toNat)) ≤ 2147483647 := Xi_rgI
                refine y_bipush rfl rfl ?_
                refine y_icmp_eq rfl rfl (by unfold rg; omega) (by unfold rg; omega) (fun w37 => ?_) (fun w38 => ?_)
                · refine y_iconst rfl ?_
                  refine y_istore rfl rfl rfl ?_
                  have s231 : 0 = sgF S first (v5 + 1 - first).toNat := sg_s (n := v5 - first) (i := v5) (by omega) s197 (by rw [← tkR_F hFT3 rfl]; omega)
                  refine y_iinc rfl rfl rfl rfl ?_
                  refine y_goto rfl rfl ?_
                  exact Pl_weak (ih27 (by omega) T3 hHT3 hFT3 (v2) (v3) (0) ((v5 + 1)) (by omega) (by omega) (by omega) (by omega) (by omega) (by omega) (by omega) (by omega) (by first | exact s231 | (rw [show (first - first).toNat = 0 by omega]; rfl)) (by first | exact q197 | exact sac_0 (by omega)) (by first | exact N197 | rfl)) (by omega) (And.intro rfl (And.intro rfl (And.intro rfl (And.intro rfl (And.intro rfl (And.intro rfl (True.intro)))))))
                · refine y_aload_n rfl rfl ?_
                  refine y_gfr rfl rfl rfl rfl rfl (hHT3.r 904 4 907 rfl) ?_
                  refine y_iload rfl rfl ?_
                  refine y_ialoadP (n := 5002) rfl rfl (by unfold rg; omega) (fun w39 w40 => ?_)
                  refine y_bipush rfl rfl ?_
                  refine y_icmp_eq rfl rfl (by unfold rg; omega) (by unfold rg; omega) (fun w41 => ?_) (fun w42 => ?_)
                  · refine y_iconst rfl ?_
                    refine y_istore rfl rfl rfl ?_
                    have s231 : 0 = sgF S first (v5 + 1 - first).toNat := sg_s (n := v5 - first) (i := v5) (by omega) s197 (by rw [← tkR_F hFT3 rfl]; omega)
                    refine y_iinc rfl rfl rfl rfl ?_
                    refine y_goto rfl rfl ?_
                    exact Pl_weak (ih27 (by omega) T3 hHT3 hFT3 (v2) (v3) (0) ((v5 + 1)) (by omega) (by omega) (by omega) (by omega) (by omega) (by omega) (by omega) (by omega) (by first | exact s231 | (rw [show (first - first).toNat = 0 by omega]; rfl)) (by first | exact q197 | exact sac_0 (by omega)) (by first | exact N197 | rfl)) (by omega) (And.intro rfl (And.intro rfl (And.intro rfl (And.intro rfl (And.intro rfl (And.intro rfl (True.intro)))))))
                  · refine y_iconst rfl ?_
                    refine y_goto rfl rfl ?_
                    refine y_istore rfl rfl rfl ?_
                    have s231 : 1 = sgF S first (v5 + 1 - first).toNat := sg_s (n := v5 - first) (i := v5) (by omega) s197 (by rw [← tkR_F hFT3 rfl]; omega)
                    refine y_iinc rfl rfl rfl rfl ?_
                    refine y_goto rfl rfl ?_
                    exact Pl_weak (ih27 (by omega) T3 hHT3 hFT3 (v2) (v3) (1) ((v5 + 1)) (by omega) (by omega) (by omega) (by omega) (by omega) (by omega) (by omega) (by omega) (by first | exact s231 | (rw [show (first - first).toNat = 0 by omega]; rfl)) (by first | exact q197 | exact sac_0 (by omega)) (by first | exact N197 | rfl)) (by omega) (And.intro rfl (And.intro rfl (And.intro rfl (And.intro rfl (And.intro rfl (And.intro rfl (True.intro)))))))
            refine y_iload rfl rfl ?_
            refine y_iconst rfl ?_
            refine y_icmp_eq rfl rfl (by unfold rg; omega) (by unfold rg; omega) (fun w43 => ?_) (fun w44 => ?_)
            · exact Pl_weak (C197 T2 hHT2 hFT2 (v2) (v3) (v4) (v5) (by omega) (by omega) (by omega) (by omega) (by omega) (by omega) (by omega) (by omega) (s69) (by first | exact sac_z q69.o (by omega) (by omega) (by omega) Q172 S191 | (have u := Q172; exact sac_y q69.o (by omega) (by omega) (by omega) (Y157 (by omega)) Q172) | (have u := L157; first | exact sac_n q69.o (by omega) (by omega) Y157 (qvr_1 (by omega) rfl L124 (by omega)) | exact sac_n q69.o (by omega) (by omega) Y157 (qvr_2 (by omega) rfl L157 (by omega))) | exact sac_n q69.o (by omega) (by omega) (fun _ => KSY.rf) (fun w => w.1 (by rw [← V69]; omega)) | exact sac_n q69.o (by omega) (by omega) (fun _ => KSY.rf) (fun w => absurd w.2.1 (by omega)) | exact sac_n q69.o (by omega) (by omega) (fun _ => KSY.rf) (fun w => absurd w.2.2.1 (by omega))) (by first | exact N191 | exact N157 | exact N69)) (by omega) (And.intro rfl (And.intro rfl (And.intro rfl (And.intro rfl (And.intro rfl (And.intro rfl (True.intro)))))))
            · refine y_iload rfl rfl ?_
              refine y_iload_n rfl rfl ?_
              refine y_icmp_le rfl rfl (by unfold rg; omega) (by unfold rg; omega) (fun w45 => ?_) (fun w46 => ?_)
              · exact Pl_weak (C197 T2 hHT2 hFT2 (v2) (v3) (v4) (v5) (by omega) (by omega) (by omega) (by omega) (by omega) (by omega) (by omega) (by omega) (s69) (by first | exact sac_z q69.o (by omega) (by omega) (by omega) Q172 S191 | (have u := Q172; exact sac_y q69.o (by omega) (by omega) (by omega) (Y157 (by omega)) Q172) | (have u := L157; first | exact sac_n q69.o (by omega) (by omega) Y157 (qvr_1 (by omega) rfl L124 (by omega)) | exact sac_n q69.o (by omega) (by omega) Y157 (qvr_2 (by omega) rfl L157 (by omega))) | exact sac_n q69.o (by omega) (by omega) (fun _ => KSY.rf) (fun w => w.1 (by rw [← V69]; omega)) | exact sac_n q69.o (by omega) (by omega) (fun _ => KSY.rf) (fun w => absurd w.2.1 (by omega)) | exact sac_n q69.o (by omega) (by omega) (fun _ => KSY.rf) (fun w => absurd w.2.2.1 (by omega))) (by first | exact N191 | exact N157 | exact N69)) (by omega) (And.intro rfl (And.intro rfl (And.intro rfl (And.intro rfl (And.intro rfl (And.intro rfl (True.intro)))))))
              · refine y_iload rfl rfl ?_
                refine y_iconst rfl ?_
                refine y_iadd rfl ?_
                refine y_iload_n rfl rfl ?_
                refine y_icmp_ge rfl rfl (by unfold rg; omega) (by unfold rg; omega) (fun w47 => ?_) (fun w48 => ?_)
                · exact Pl_weak (C197 T2 hHT2 hFT2 (v2) (v3) (v4) (v5) (by omega) (by omega) (by omega) (by omega) (by omega) (by omega) (by omega) (by omega) (s69) (by first | exact sac_z q69.o (by omega) (by omega) (by omega) Q172 S191 | (have u := Q172; exact sac_y q69.o (by omega) (by omega) (by omega) (Y157 (by omega)) Q172) | (have u := L157; first | exact sac_n q69.o (by omega) (by omega) Y157 (qvr_1 (by omega) rfl L124 (by omega)) | exact sac_n q69.o (by omega) (by omega) Y157 (qvr_2 (by omega) rfl L157 (by omega))) | exact sac_n q69.o (by omega) (by omega) (fun _ => KSY.rf) (fun w => w.1 (by rw [← V69]; omega)) | exact sac_n q69.o (by omega) (by omega) (fun _ => KSY.rf) (fun w => absurd w.2.1 (by omega)) | exact sac_n q69.o (by omega) (by omega) (fun _ => KSY.rf) (fun w => absurd w.2.2.1 (by omega))) (by first | exact N191 | exact N157 | exact N69)) (by omega) (And.intro rfl (And.intro rfl (And.intro rfl (And.intro rfl (And.intro rfl (And.intro rfl (True.intro)))))))
                · refine y_aload_n rfl rfl ?_
                  refine y_gfr rfl rfl rfl rfl rfl (hHT2.r 904 48 941 rfl) ?_
                  refine y_iload rfl rfl ?_
                  refine y_ialoadP (n := 8) rfl rfl (by unfold rg; omega) (fun w49 w50 => ?_)
                  have w51 : -2147483648 ≤ (Xi T2 941 ((v6).toNat)) ∧ (Xi T2 941 ((v6).toNat)) ≤ 2147483647 := Xi_rgI
                  refine y_istore rfl rfl rfl ?_
                  have R96 : (Xi T2 941 ((v6).toNat)) = (rA S first (v5 - first).toNat) := by show Xi T2 941 (v6).toNat = Xi S 941 ((vbA S first (v5 - first).toNat)).toNat; rw [(hFT2.cx 941 rfl _).1, V69]
                  refine y_aload_n rfl rfl ?_
                  refine y_iload_n rfl rfl ?_
                  refine y_iload rfl rfl ?_
                  refine y_iload_n rfl rfl ?_
                  refine y_if_ne rfl rfl (by unfold rg; omega) (fun w52 => ?_) (fun w53 => ?_)
                  · refine y_aload_n rfl rfl ?_
                    refine y_gfr rfl rfl rfl rfl rfl (hHT2.r 904 148 990 rfl) ?_
                    refine y_aload_n rfl rfl ?_
                    refine y_gfr rfl rfl rfl rfl rfl (hHT2.r 904 42 936 rfl) ?_
                    refine y_iload rfl rfl ?_
                    refine y_ialoadP (n := 6) rfl rfl (by unfold rg; omega) (fun w54 w55 => ?_)
                    have w56 : -2147483648 ≤ (Xi T2 936 (((Xi T2 941 ((v6).toNat))).toNat)) ∧ (Xi T2 936 (((Xi T2 941 ((v6).toNat))).toNat)) ≤ 2147483647 := Xi_rgI
                    have k123 : (Xi T2 936 (((Xi T2 941 ((v6).toNat))).toNat)) = Xi S 936 (rA S first (v5 - first).toNat).toNat := by rw [(hFT2.cx 936 rfl _).1, R96]
                    refine y_callV rfl rfl rfl (t_mo_listOf__r hHT2 first v5 (Xi T2 936 (((Xi T2 941 ((v6).toNat))).toNat)) ⟨by omega, by omega⟩ ⟨by omega, by omega⟩ ⟨by omega, by omega⟩ (by first | assumption | exact (LSP_FR hFT2 rfl rfl (by assumption : LSP S))) (by first | assumption | omega) (by first | assumption | exact (ABV_FR hFT2 rfl (by assumption : ABV S))) (fun j => by rw [hFT2.x 918 j rfl]; exact hko.o j) _) ?_
                    rintro _ T4 ⟨hHT4, w58, z57, rfl, w57, l124⟩
                    have hFT4 : FR md_mo_askSaying__p S T4 := FR.tr hFT2 w58 rfl
                    show Pl _ _ _ _ _ _ [iv z57] _ _
                    have L124 := lof_F hFT2 rfl (fun _ _ _ => msR_FR hFT2 rfl) rfl rfl l124
                    clear l124
                    rw [k123] at L124
                    have A124 := (by assumption : FR _ T2 T4)
                    refine y_istore rfl rfl rfl ?_
                    refine y_aload_n rfl rfl ?_
                    refine y_iload rfl rfl ?_
                    refine y_iconst rfl ?_
                    refine y_iadd rfl ?_
                    refine y_iload_n rfl rfl ?_
                    refine y_iload_n rfl rfl ?_
                    refine y_if_ne rfl rfl (by unfold rg; omega) (fun w59 => ?_) (fun w60 => ?_)
                    · refine y_aload_n rfl rfl ?_
                      refine y_gfr rfl rfl rfl rfl rfl (hHT4.r 904 148 990 rfl) ?_
                      refine y_aload_n rfl rfl ?_
                      refine y_gfr rfl rfl rfl rfl rfl (hHT4.r 904 43 937 rfl) ?_
                      refine y_iload rfl rfl ?_
                      refine y_ialoadP (n := 6) rfl rfl (by unfold rg; omega) (fun w61 w62 => ?_)
                      have w63 : -2147483648 ≤ (Xi T4 937 (((Xi T2 941 ((v6).toNat))).toNat)) ∧ (Xi T4 937 (((Xi T2 941 ((v6).toNat))).toNat)) ≤ 2147483647 := Xi_rgI
                      have k156 : (Xi T4 937 (((Xi T2 941 ((v6).toNat))).toNat)) = Xi S 937 (rA S first (v5 - first).toNat).toNat := by rw [(hFT4.cx 937 rfl _).1, R96]
                      have w64 : Xi T4 904 15 = Xi T2 904 15 := (show Xi T4 904 15 = Xi T2 904 15 from w58.x _ _ rfl)
                      refine y_callV rfl rfl rfl (t_mo_listOf__r hHT4 (v5 + 1) v2 (Xi T4 937 (((Xi T2 941 ((v6).toNat))).toNat)) ⟨by omega, by omega⟩ ⟨by omega, by omega⟩ ⟨by omega, by omega⟩ (by first | assumption | exact (LSP_FR hFT4 rfl rfl (by assumption : LSP S))) (by first | assumption | omega) (by first | assumption | exact (ABV_FR hFT4 rfl (by assumption : ABV S))) (fun j => by rw [hFT4.x 918 j rfl]; exact hko.o j) _) ?_
                      rintro _ T5 ⟨hHT5, w66, z65, rfl, w65, l157⟩
                      have hFT5 : FR md_mo_askSaying__p S T5 := FR.tr hFT4 w66 rfl
                      show Pl _ _ _ _ _ _ [iv z65] _ _
                      have L157 := lof_F hFT4 rfl (fun _ _ _ => msR_FR hFT4 rfl) rfl rfl l157
                      clear l157
                      rw [k156, show v2 = (dd : Int) by omega] at L157
                      have A157 := (by assumption : FR _ T4 T5)
                      have N157 : NT3 T5 = NT3 S := (NT3_FR A157 rfl).trans ((NT3_FR A124 rfl).trans N69)
                      have Y157 : 0 < v3 → KSY T2 T5 := by first | exact fun _ => KSY.tr (KSY_FR A124 rfl rfl) (KSY_FR A157 rfl rfl) | exact fun q => absurd q (by omega)
                      refine y_istore rfl rfl rfl ?_
                      refine y_iload rfl rfl ?_
                      refine y_if_le rfl rfl (by unfold rg; omega) (fun w67 => ?_) (fun w68 => ?_)
                      · exact Pl_weak (C197 T5 hHT5 hFT5 (v2) (v3) (v4) (v5) (by omega) (by omega) (by omega) (by omega) (by omega) (by omega) (by omega) (by omega) (s69) (by first | exact sac_z q69.o (by omega) (by omega) (by omega) Q172 S191 | (have u := Q172; exact sac_y q69.o (by omega) (by omega) (by omega) (Y157 (by omega)) Q172) | (have u := L157; first | exact sac_n q69.o (by omega) (by omega) Y157 (qvr_1 (by omega) rfl L124 (by omega)) | exact sac_n q69.o (by omega) (by omega) Y157 (qvr_2 (by omega) rfl L157 (by omega))) | exact sac_n q69.o (by omega) (by omega) (fun _ => KSY.rf) (fun w => w.1 (by rw [← V69]; omega)) | exact sac_n q69.o (by omega) (by omega) (fun _ => KSY.rf) (fun w => absurd w.2.1 (by omega)) | exact sac_n q69.o (by omega) (by omega) (fun _ => KSY.rf) (fun w => absurd w.2.2.1 (by omega))) (by first | exact N191 | exact N157 | exact N69)) (by omega) (And.intro rfl (And.intro rfl (And.intro rfl (And.intro rfl (And.intro rfl (And.intro rfl (True.intro)))))))
                      · refine y_iload rfl rfl ?_
                        refine y_if_le rfl rfl (by unfold rg; omega) (fun w69 => ?_) (fun w70 => ?_)
                        · exact Pl_weak (C197 T5 hHT5 hFT5 (v2) (v3) (v4) (v5) (by omega) (by omega) (by omega) (by omega) (by omega) (by omega) (by omega) (by omega) (s69) (by first | exact sac_z q69.o (by omega) (by omega) (by omega) Q172 S191 | (have u := Q172; exact sac_y q69.o (by omega) (by omega) (by omega) (Y157 (by omega)) Q172) | (have u := L157; first | exact sac_n q69.o (by omega) (by omega) Y157 (qvr_1 (by omega) rfl L124 (by omega)) | exact sac_n q69.o (by omega) (by omega) Y157 (qvr_2 (by omega) rfl L157 (by omega))) | exact sac_n q69.o (by omega) (by omega) (fun _ => KSY.rf) (fun w => w.1 (by rw [← V69]; omega)) | exact sac_n q69.o (by omega) (by omega) (fun _ => KSY.rf) (fun w => absurd w.2.1 (by omega)) | exact sac_n q69.o (by omega) (by omega) (fun _ => KSY.rf) (fun w => absurd w.2.2.1 (by omega))) (by first | exact N191 | exact N157 | exact N69)) (by omega) (And.intro rfl (And.intro rfl (And.intro rfl (And.intro rfl (And.intro rfl (And.intro rfl (True.intro)))))))
                        · refine y_iload_n rfl rfl ?_
                          have Q172 : qvR S first dd (v5 - first).toNat := qvr_i (by rw [← V69]; omega) (by omega) rfl rfl L124 (by omega) L157 (by omega)
                          refine y_if_ne rfl rfl (by unfold rg; omega) (fun w71 => ?_) (fun w72 => ?_)
                          · refine y_iinc rfl rfl rfl rfl ?_
                            exact Pl_weak (C197 T5 hHT5 hFT5 (v2) ((v3 + 1)) (v4) (v5) (by omega) (by omega) (by omega) (by omega) (by omega) (by omega) (by omega) (by omega) (s69) (by first | exact sac_z q69.o (by omega) (by omega) (by omega) Q172 S191 | (have u := Q172; exact sac_y q69.o (by omega) (by omega) (by omega) (Y157 (by omega)) Q172) | (have u := L157; first | exact sac_n q69.o (by omega) (by omega) Y157 (qvr_1 (by omega) rfl L124 (by omega)) | exact sac_n q69.o (by omega) (by omega) Y157 (qvr_2 (by omega) rfl L157 (by omega))) | exact sac_n q69.o (by omega) (by omega) (fun _ => KSY.rf) (fun w => w.1 (by rw [← V69]; omega)) | exact sac_n q69.o (by omega) (by omega) (fun _ => KSY.rf) (fun w => absurd w.2.1 (by omega)) | exact sac_n q69.o (by omega) (by omega) (fun _ => KSY.rf) (fun w => absurd w.2.2.1 (by omega))) (by first | exact N191 | exact N157 | exact N69)) (by omega) (And.intro rfl (And.intro rfl (And.intro rfl (And.intro rfl (And.intro rfl (And.intro rfl (True.intro)))))))
                          · exfalso; omega
                    · exfalso; omega
                  · refine y_aload_n rfl rfl ?_
                    refine y_gfr rfl rfl rfl rfl rfl (hHT2.r 904 143 988 rfl) ?_
                    refine y_goto rfl rfl ?_
                    refine y_aload_n rfl rfl ?_
                    refine y_gfr rfl rfl rfl rfl rfl (hHT2.r 904 42 936 rfl) ?_
                    refine y_iload rfl rfl ?_
                    refine y_ialoadP (n := 6) rfl rfl (by unfold rg; omega) (fun w73 w74 => ?_)
                    have w75 : -2147483648 ≤ (Xi T2 936 (((Xi T2 941 ((v6).toNat))).toNat)) ∧ (Xi T2 936 (((Xi T2 941 ((v6).toNat))).toNat)) ≤ 2147483647 := Xi_rgI
                    have k123 : (Xi T2 936 (((Xi T2 941 ((v6).toNat))).toNat)) = Xi S 936 (rA S first (v5 - first).toNat).toNat := by rw [(hFT2.cx 936 rfl _).1, R96]
                    refine y_callV rfl rfl rfl (t_mo_listOf__p hHT2 first v5 (Xi T2 936 (((Xi T2 941 ((v6).toNat))).toNat)) ⟨by omega, by omega⟩ ⟨by omega, by omega⟩ ⟨by omega, by omega⟩ (by first | assumption | exact (LSP_FR hFT2 rfl rfl (by assumption : LSP S))) (by first | assumption | omega) (by first | assumption | exact (ABV_FR hFT2 rfl (by assumption : ABV S))) (fun j => by rw [hFT2.x 918 j rfl]; exact hko.o j) _) ?_
                    rintro _ T6 ⟨hHT6, w77, z76, rfl, w76, l124⟩
                    have hFT6 : FR md_mo_askSaying__p S T6 := FR.tr hFT2 w77 rfl
                    show Pl _ _ _ _ _ _ [iv z76] _ _
                    have L124 := lof_F hFT2 rfl (fun _ _ _ => msR_FR hFT2 rfl) rfl rfl l124
                    clear l124
                    rw [k123] at L124
                    have A124 := (by assumption : FR _ T2 T6)
                    refine y_istore rfl rfl rfl ?_
                    refine y_aload_n rfl rfl ?_
                    refine y_iload rfl rfl ?_
                    refine y_iconst rfl ?_
                    refine y_iadd rfl ?_
                    refine y_iload_n rfl rfl ?_
                    refine y_iload_n rfl rfl ?_
                    refine y_if_ne rfl rfl (by unfold rg; omega) (fun w78 => ?_) (fun w79 => ?_)
                    · exfalso; omega
                    · refine y_aload_n rfl rfl ?_
                      refine y_gfr rfl rfl rfl rfl rfl (hHT6.r 904 145 989 rfl) ?_
                      refine y_goto rfl rfl ?_
                      refine y_aload_n rfl rfl ?_
                      refine y_gfr rfl rfl rfl rfl rfl (hHT6.r 904 43 937 rfl) ?_
                      refine y_iload rfl rfl ?_
                      refine y_ialoadP (n := 6) rfl rfl (by unfold rg; omega) (fun w80 w81 => ?_)
                      have w82 : -2147483648 ≤ (Xi T6 937 (((Xi T2 941 ((v6).toNat))).toNat)) ∧ (Xi T6 937 (((Xi T2 941 ((v6).toNat))).toNat)) ≤ 2147483647 := Xi_rgI
                      have k156 : (Xi T6 937 (((Xi T2 941 ((v6).toNat))).toNat)) = Xi S 937 (rA S first (v5 - first).toNat).toNat := by rw [(hFT6.cx 937 rfl _).1, R96]
                      have w83 : Xi T6 904 15 = Xi T2 904 15 := (show Xi T6 904 15 = Xi T2 904 15 from w77.x _ _ rfl)
                      refine y_callV rfl rfl rfl (t_mo_listOf__q hHT6 (v5 + 1) v2 (Xi T6 937 (((Xi T2 941 ((v6).toNat))).toNat)) ⟨by omega, by omega⟩ ⟨by omega, by omega⟩ ⟨by omega, by omega⟩ (by first | assumption | exact (LSP_FR hFT6 rfl rfl (by assumption : LSP S))) (by first | assumption | omega) (by first | assumption | exact (ABV_FR hFT6 rfl (by assumption : ABV S))) (fun j => by rw [hFT6.x 918 j rfl]; exact hko.o j) _) ?_
                      rintro _ T7 ⟨hHT7, w85, z84, rfl, w84, l157⟩
                      have hFT7 : FR md_mo_askSaying__p S T7 := FR.tr hFT6 w85 rfl
                      show Pl _ _ _ _ _ _ [iv z84] _ _
                      have L157 := lof_F hFT6 rfl (fun _ _ _ => msR_FR hFT6 rfl) rfl rfl l157
                      clear l157
                      rw [k156, show v2 = (dd : Int) by omega] at L157
                      have A157 := (by assumption : FR _ T6 T7)
                      have N157 : NT3 T7 = NT3 S := (NT3_FR A157 rfl).trans ((NT3_FR A124 rfl).trans N69)
                      have Y157 : 0 < v3 → KSY T2 T7 := by first | exact fun _ => KSY.tr (KSY_FR A124 rfl rfl) (KSY_FR A157 rfl rfl) | exact fun q => absurd q (by omega)
                      refine y_istore rfl rfl rfl ?_
                      refine y_iload rfl rfl ?_
                      refine y_if_le rfl rfl (by unfold rg; omega) (fun w86 => ?_) (fun w87 => ?_)
                      · exact Pl_weak (C197 T7 hHT7 hFT7 (v2) (v3) (v4) (v5) (by omega) (by omega) (by omega) (by omega) (by omega) (by omega) (by omega) (by omega) (s69) (by first | exact sac_z q69.o (by omega) (by omega) (by omega) Q172 S191 | (have u := Q172; exact sac_y q69.o (by omega) (by omega) (by omega) (Y157 (by omega)) Q172) | (have u := L157; first | exact sac_n q69.o (by omega) (by omega) Y157 (qvr_1 (by omega) rfl L124 (by omega)) | exact sac_n q69.o (by omega) (by omega) Y157 (qvr_2 (by omega) rfl L157 (by omega))) | exact sac_n q69.o (by omega) (by omega) (fun _ => KSY.rf) (fun w => w.1 (by rw [← V69]; omega)) | exact sac_n q69.o (by omega) (by omega) (fun _ => KSY.rf) (fun w => absurd w.2.1 (by omega)) | exact sac_n q69.o (by omega) (by omega) (fun _ => KSY.rf) (fun w => absurd w.2.2.1 (by omega))) (by first | exact N191 | exact N157 | exact N69)) (by omega) (And.intro rfl (And.intro rfl (And.intro rfl (And.intro rfl (And.intro rfl (And.intro rfl (True.intro)))))))
                      · refine y_iload rfl rfl ?_
                        refine y_if_le rfl rfl (by unfold rg; omega) (fun w88 => ?_) (fun w89 => ?_)
                        · exact Pl_weak (C197 T7 hHT7 hFT7 (v2) (v3) (v4) (v5) (by omega) (by omega) (by omega) (by omega) (by omega) (by omega) (by omega) (by omega) (s69) (by first | exact sac_z q69.o (by omega) (by omega) (by omega) Q172 S191 | (have u := Q172; exact sac_y q69.o (by omega) (by omega) (by omega) (Y157 (by omega)) Q172) | (have u := L157; first | exact sac_n q69.o (by omega) (by omega) Y157 (qvr_1 (by omega) rfl L124 (by omega)) | exact sac_n q69.o (by omega) (by omega) Y157 (qvr_2 (by omega) rfl L157 (by omega))) | exact sac_n q69.o (by omega) (by omega) (fun _ => KSY.rf) (fun w => w.1 (by rw [← V69]; omega)) | exact sac_n q69.o (by omega) (by omega) (fun _ => KSY.rf) (fun w => absurd w.2.1 (by omega)) | exact sac_n q69.o (by omega) (by omega) (fun _ => KSY.rf) (fun w => absurd w.2.2.1 (by omega))) (by first | exact N191 | exact N157 | exact N69)) (by omega) (And.intro rfl (And.intro rfl (And.intro rfl (And.intro rfl (And.intro rfl (And.intro rfl (True.intro)))))))
                        · refine y_iload_n rfl rfl ?_
                          have Q172 : qvR S first dd (v5 - first).toNat := qvr_i (by rw [← V69]; omega) (by omega) rfl rfl L124 (by omega) L157 (by omega)
                          refine y_if_ne rfl rfl (by unfold rg; omega) (fun w90 => ?_) (fun w91 => ?_)
                          · exfalso; omega
                          · refine y_aload_n rfl rfl ?_
                            refine y_iload rfl rfl ?_
                            refine y_pfi rfl rfl rfl rfl ?_
                            obtain ⟨U8, eU8⟩ : ∃ T : sS, T = uI T7 904 144 (Int32.ofInt z76) := ⟨_, rfl⟩
                            rw [← eU8]
                            have hHU8 : RI U8 := by rw [eU8]; exact RI_w hHT7
                            have hFU8 : FR md_mo_askSaying__p S U8 := by rw [eU8]; exact FR.wI hFT7 (mdf_i (r := (904, 905, 144, 145)) (List.mem_of_getElem? (i := 3) rfl) (inR_i (by omega) (by omega) (by omega) (by omega)))
                            have w92 : Xi U8 904 144 = z76 := by rw [eU8]; exact Xi_same (by unfold rg; omega)
                            have e179 := eU8
                            refine y_aload_n rfl rfl ?_
                            refine y_iload rfl rfl ?_
                            refine y_pfi rfl rfl rfl rfl ?_
                            obtain ⟨U9, eU9⟩ : ∃ T : sS, T = uI U8 904 146 (Int32.ofInt z84) := ⟨_, rfl⟩
                            rw [← eU9]
                            have hHU9 : RI U9 := by rw [eU9]; exact RI_w hHU8
                            have hFU9 : FR md_mo_askSaying__p S U9 := by rw [eU9]; exact FR.wI hFU8 (mdf_i (r := (904, 905, 146, 147)) (List.mem_of_getElem? (i := 4) rfl) (inR_i (by omega) (by omega) (by omega) (by omega)))
                            have w93 : Xi U9 904 146 = z84 := by rw [eU9]; exact Xi_same (by unfold rg; omega)
                            have e185 := eU9
                            refine y_aload_n rfl rfl ?_
                            refine y_iload rfl rfl ?_
                            refine y_pfi rfl rfl rfl rfl ?_
                            obtain ⟨U10, eU10⟩ : ∃ T : sS, T = uI U9 904 147 (Int32.ofInt (Xi T2 941 ((v6).toNat))) := ⟨_, rfl⟩
                            rw [← eU10]
                            have hHU10 : RI U10 := by rw [eU10]; exact RI_w hHU9
                            have hFU10 : FR md_mo_askSaying__p S U10 := by rw [eU10]; exact FR.wI hFU9 (mdf_i (r := (904, 905, 147, 148)) (List.mem_of_getElem? (i := 5) rfl) (inR_i (by omega) (by omega) (by omega) (by omega)))
                            have w94 : Xi U10 904 147 = (Xi T2 941 ((v6).toNat)) := by rw [eU10]; exact Xi_same (by unfold rg; omega)
                            have e191 := eU10
                            have S191 : SAQ S U10 first dd (v5 - first).toNat := saq_i (by omega) R96 (by rw [R96]) (by rw [R96]) L124 (by omega) A157 rfl L157 (by omega) (by unfold rg; omega) (by unfold rg; omega) (by unfold rg; omega) e179 e185 e191
                            have N191 : NT3 U10 = NT3 S := (NT3_FR (FR_e e191) rfl).trans ((NT3_FR (FR_e e185) rfl).trans ((NT3_FR (FR_e e179) rfl).trans N157))
                            refine y_iinc rfl rfl rfl rfl ?_
                            exact Pl_weak (C197 U10 hHU10 hFU10 (v2) ((v3 + 1)) (v4) (v5) (by omega) (by omega) (by omega) (by omega) (by omega) (by omega) (by omega) (by omega) (s69) (by first | exact sac_z q69.o (by omega) (by omega) (by omega) Q172 S191 | (have u := Q172; exact sac_y q69.o (by omega) (by omega) (by omega) (Y157 (by omega)) Q172) | (have u := L157; first | exact sac_n q69.o (by omega) (by omega) Y157 (qvr_1 (by omega) rfl L124 (by omega)) | exact sac_n q69.o (by omega) (by omega) Y157 (qvr_2 (by omega) rfl L157 (by omega))) | exact sac_n q69.o (by omega) (by omega) (fun _ => KSY.rf) (fun w => w.1 (by rw [← V69]; omega)) | exact sac_n q69.o (by omega) (by omega) (fun _ => KSY.rf) (fun w => absurd w.2.1 (by omega)) | exact sac_n q69.o (by omega) (by omega) (fun _ => KSY.rf) (fun w => absurd w.2.2.1 (by omega))) (by first | exact N191 | exact N157 | exact N69)) (by omega) (And.intro rfl (And.intro rfl (And.intro rfl (And.intro rfl (And.intro rfl (And.intro rfl (True.intro)))))))
          refine ys_iload rfl rfl ?_
          refine y_iload_n rfl rfl ?_
          refine y_icmp_ge rfl rfl (by unfold rg; omega) (by unfold rg; omega) (fun w95 => ?_) (fun w96 => ?_)
          · refine y_aload_n rfl rfl ?_
            have e239 : v5 - first = (dd : Int) - first := by omega
            have q239 : Hid (SAC S T1 first dd ((dd : Int) - first) v3) := by have t := q27; rw [e239] at t; exact t
            refine y_iload_n rfl rfl ?_
            refine y_if_le rfl rfl (by unfold rg; omega) (fun w97 => ?_) (fun w98 => ?_)
            · refine y_iconst rfl ?_
              refine y_iconst rfl ?_
              refine y_iload_n rfl rfl ?_
              refine y_callV rfl rfl rfl (t_mo_need__p hHT1 0 4 first ⟨by omega, by omega⟩ ⟨by omega, by omega⟩ ⟨by omega, by omega⟩ _) ?_
              rintro _ T11 ⟨hHT11, w100, rfl, nt251⟩
              have hFT11 : FR md_mo_askSaying__p S T11 := FR.tr hFT1 w100 rfl
              show Pl _ _ _ _ _ _ [] _ _
              have F251 := (by assumption : FR md_mo_need__p T1 T11)
              have N251 : NT3 T11 = (if 0 < v3 then NT3 S else ntF (NT3 S) 4 (Xi S 908 first.toNat)) := by have t := nt251; rw [N27, (hFT1.cx 908 rfl _).1] at t; first | (rw [if_pos (show 0 < v3 by omega)]; rw [if_neg (show ¬ (1 : Int) = 0 by decide)] at t; exact t) | (rw [if_neg (show ¬ 0 < v3 by omega)]; rw [if_pos (show (0 : Int) = 0 from rfl)] at t; exact t)
              refine y_aload_n rfl rfl ?_
              refine y_iload_n rfl rfl ?_
              refine y_iconst rfl ?_
              refine y_icmp_ge rfl rfl (by unfold rg; omega) (by unfold rg; omega) (fun w101 => ?_) (fun w102 => ?_)
              · refine y_iconst rfl ?_
                refine y_bipush rfl rfl ?_
                refine y_iload_n rfl rfl ?_
                refine y_callV rfl rfl rfl (t_mo_need__p hHT11 0 7 first ⟨by omega, by omega⟩ ⟨by omega, by omega⟩ ⟨by omega, by omega⟩ _) ?_
                rintro _ T12 ⟨hHT12, w104, rfl, nt268⟩
                have hFT12 : FR md_mo_askSaying__p S T12 := FR.tr hFT11 w104 rfl
                show Pl _ _ _ _ _ _ [] _ _
                have F268 := (by assumption : FR md_mo_need__p T11 T12)
                have N268 : NT3 T12 = (if v3 < 2 then (if 0 < v3 then NT3 S else ntF (NT3 S) 4 (Xi S 908 first.toNat)) else ntF (if 0 < v3 then NT3 S else ntF (NT3 S) 4 (Xi S 908 first.toNat)) 7 (Xi S 908 first.toNat)) := by have t := nt268; rw [N251, (hFT11.cx 908 rfl _).1] at t; first | (rw [if_pos (show v3 < 2 by omega)]; rw [if_neg (show ¬ (1 : Int) = 0 by decide)] at t; exact t) | (rw [if_neg (show ¬ v3 < 2 by omega)]; rw [if_pos (show (0 : Int) = 0 from rfl)] at t; exact t)
                refine y_return rfl rfl ?_
                exact ⟨hHT12, hFT12, rfl, (rsy_i q239.o ((KSY_FR F251 rfl rfl).tr (KSY_FR F268 rfl rfl)) N268)⟩
              · refine y_iconst rfl ?_
                refine y_goto rfl rfl ?_
                refine y_bipush rfl rfl ?_
                refine y_iload_n rfl rfl ?_
                refine y_callV rfl rfl rfl (t_mo_need__p hHT11 1 7 first ⟨by omega, by omega⟩ ⟨by omega, by omega⟩ ⟨by omega, by omega⟩ _) ?_
                rintro _ T13 ⟨hHT13, w106, rfl, nt268⟩
                have hFT13 : FR md_mo_askSaying__p S T13 := FR.tr hFT11 w106 rfl
                show Pl _ _ _ _ _ _ [] _ _
                have F268 := (by assumption : FR md_mo_need__p T11 T13)
                have N268 : NT3 T13 = (if v3 < 2 then (if 0 < v3 then NT3 S else ntF (NT3 S) 4 (Xi S 908 first.toNat)) else ntF (if 0 < v3 then NT3 S else ntF (NT3 S) 4 (Xi S 908 first.toNat)) 7 (Xi S 908 first.toNat)) := by have t := nt268; rw [N251, (hFT11.cx 908 rfl _).1] at t; first | (rw [if_pos (show v3 < 2 by omega)]; rw [if_neg (show ¬ (1 : Int) = 0 by decide)] at t; exact t) | (rw [if_neg (show ¬ v3 < 2 by omega)]; rw [if_pos (show (0 : Int) = 0 from rfl)] at t; exact t)
                refine y_return rfl rfl ?_
                exact ⟨hHT13, hFT13, rfl, (rsy_i q239.o ((KSY_FR F251 rfl rfl).tr (KSY_FR F268 rfl rfl)) N268)⟩
            · refine y_iconst rfl ?_
              refine y_goto rfl rfl ?_
              refine y_iconst rfl ?_
              refine y_iload_n rfl rfl ?_
              refine y_callV rfl rfl rfl (t_mo_need__p hHT1 1 4 first ⟨by omega, by omega⟩ ⟨by omega, by omega⟩ ⟨by omega, by omega⟩ _) ?_
              rintro _ T14 ⟨hHT14, w108, rfl, nt251⟩
              have hFT14 : FR md_mo_askSaying__p S T14 := FR.tr hFT1 w108 rfl
              show Pl _ _ _ _ _ _ [] _ _
              have F251 := (by assumption : FR md_mo_need__p T1 T14)
              have N251 : NT3 T14 = (if 0 < v3 then NT3 S else ntF (NT3 S) 4 (Xi S 908 first.toNat)) := by have t := nt251; rw [N27, (hFT1.cx 908 rfl _).1] at t; first | (rw [if_pos (show 0 < v3 by omega)]; rw [if_neg (show ¬ (1 : Int) = 0 by decide)] at t; exact t) | (rw [if_neg (show ¬ 0 < v3 by omega)]; rw [if_pos (show (0 : Int) = 0 from rfl)] at t; exact t)
              refine y_aload_n rfl rfl ?_
              refine y_iload_n rfl rfl ?_
              refine y_iconst rfl ?_
              refine y_icmp_ge rfl rfl (by unfold rg; omega) (by unfold rg; omega) (fun w109 => ?_) (fun w110 => ?_)
              · refine y_iconst rfl ?_
                refine y_bipush rfl rfl ?_
                refine y_iload_n rfl rfl ?_
                refine y_callV rfl rfl rfl (t_mo_need__p hHT14 0 7 first ⟨by omega, by omega⟩ ⟨by omega, by omega⟩ ⟨by omega, by omega⟩ _) ?_
                rintro _ T15 ⟨hHT15, w112, rfl, nt268⟩
                have hFT15 : FR md_mo_askSaying__p S T15 := FR.tr hFT14 w112 rfl
                show Pl _ _ _ _ _ _ [] _ _
                have F268 := (by assumption : FR md_mo_need__p T14 T15)
                have N268 : NT3 T15 = (if v3 < 2 then (if 0 < v3 then NT3 S else ntF (NT3 S) 4 (Xi S 908 first.toNat)) else ntF (if 0 < v3 then NT3 S else ntF (NT3 S) 4 (Xi S 908 first.toNat)) 7 (Xi S 908 first.toNat)) := by have t := nt268; rw [N251, (hFT14.cx 908 rfl _).1] at t; first | (rw [if_pos (show v3 < 2 by omega)]; rw [if_neg (show ¬ (1 : Int) = 0 by decide)] at t; exact t) | (rw [if_neg (show ¬ v3 < 2 by omega)]; rw [if_pos (show (0 : Int) = 0 from rfl)] at t; exact t)
                refine y_return rfl rfl ?_
                exact ⟨hHT15, hFT15, rfl, (rsy_i q239.o ((KSY_FR F251 rfl rfl).tr (KSY_FR F268 rfl rfl)) N268)⟩
              · refine y_iconst rfl ?_
                refine y_goto rfl rfl ?_
                refine y_bipush rfl rfl ?_
                refine y_iload_n rfl rfl ?_
                refine y_callV rfl rfl rfl (t_mo_need__p hHT14 1 7 first ⟨by omega, by omega⟩ ⟨by omega, by omega⟩ ⟨by omega, by omega⟩ _) ?_
                rintro _ T16 ⟨hHT16, w114, rfl, nt268⟩
                have hFT16 : FR md_mo_askSaying__p S T16 := FR.tr hFT14 w114 rfl
                show Pl _ _ _ _ _ _ [] _ _
                have F268 := (by assumption : FR md_mo_need__p T14 T16)
                have N268 : NT3 T16 = (if v3 < 2 then (if 0 < v3 then NT3 S else ntF (NT3 S) 4 (Xi S 908 first.toNat)) else ntF (if 0 < v3 then NT3 S else ntF (NT3 S) 4 (Xi S 908 first.toNat)) 7 (Xi S 908 first.toNat)) := by have t := nt268; rw [N251, (hFT14.cx 908 rfl _).1] at t; first | (rw [if_pos (show v3 < 2 by omega)]; rw [if_neg (show ¬ (1 : Int) = 0 by decide)] at t; exact t) | (rw [if_neg (show ¬ v3 < 2 by omega)]; rw [if_pos (show (0 : Int) = 0 from rfl)] at t; exact t)
                refine y_return rfl rfl ?_
                exact ⟨hHT16, hFT16, rfl, (rsy_i q239.o ((KSY_FR F251 rfl rfl).tr (KSY_FR F268 rfl rfl)) N268)⟩
          · refine y_aload_n rfl rfl ?_
            refine y_gfr rfl rfl rfl rfl rfl (hHT1.r 904 4 907 rfl) ?_
            refine y_iload rfl rfl ?_
            refine y_ialoadP (n := 5002) rfl rfl (by unfold rg; omega) (fun w115 w116 => ?_)
            have w117 : -2147483648 ≤ (Xi T1 907 ((v5).toNat)) ∧ (Xi T1 907 ((v5).toNat)) ≤ 2147483647 := Xi_rgI
            refine y_iconst rfl ?_
            refine y_icmp_ne rfl rfl (by unfold rg; omega) (by unfold rg; omega) (fun w118 => ?_) (fun w119 => ?_)
            · refine y_iconst rfl ?_
              refine y_istore rfl rfl rfl ?_
              have V67 : (-1) = (vbA S first (v5 - first).toNat) := by first | (have u := K60; exact vr_y (by omega) (by rw [← tkR_F hFT1 rfl]; omega) s27 M60 (by omega)) | exact vr_n (i := v5) (by omega) (by rw [← tkR_F hFT1 rfl]; omega)
              exact Pl_weak (C69 T1 hHT1 hFT1 (v2) (v3) (v4) (v5) ((-1)) (by omega) (by omega) (by omega) (by omega) (by omega) (by omega) (by omega) (by omega) (by omega) (V67) (s27) (q27) (N27)) (by omega) (And.intro rfl (And.intro rfl (And.intro rfl (And.intro rfl (And.intro rfl (And.intro rfl (And.intro rfl (True.intro))))))))
            · refine y_aload_n rfl rfl ?_
              refine y_iload rfl rfl ?_
              refine y_iconst rfl ?_
              refine y_iload rfl rfl ?_
              refine y_if_eq rfl rfl (by unfold rg; omega) (fun w120 => ?_) (fun w121 => ?_)
              · refine y_bipush rfl rfl ?_
                refine y_callV rfl rfl rfl (t_mo_means__p hHT1 v5 1 9 ⟨by omega, by omega⟩ ⟨by omega, by omega⟩ ⟨by omega, by omega⟩ (by first | assumption | exact (LSP_FR hFT1 rfl rfl (by assumption : LSP S))) (by first | assumption | omega) _) ?_
                rintro _ _ ⟨rfl, z122, rfl, w122, m60⟩
                show Pl _ _ _ _ _ _ [iv z122] _ _
                have K60 : True := trivial
                have M60 := m60.trans (msR_FR hFT1 rfl)
                clear m60
                refine y_goto rfl rfl ?_
                refine y_istore rfl rfl rfl ?_
                have V67 : z122 = (vbA S first (v5 - first).toNat) := by first | (have u := K60; exact vr_y (by omega) (by rw [← tkR_F hFT1 rfl]; omega) s27 M60 (by omega)) | exact vr_n (i := v5) (by omega) (by rw [← tkR_F hFT1 rfl]; omega)
                exact Pl_weak (C69 T1 hHT1 hFT1 (v2) (v3) (v4) (v5) (z122) (by omega) (by omega) (by omega) (by omega) (by omega) (by omega) (by omega) (by omega) (by omega) (V67) (s27) (q27) (N27)) (by omega) (And.intro rfl (And.intro rfl (And.intro rfl (And.intro rfl (And.intro rfl (And.intro rfl (And.intro rfl (True.intro))))))))
              · refine y_bipush rfl rfl ?_
                refine y_goto rfl rfl ?_
                refine y_callV rfl rfl rfl (t_mo_means__p hHT1 v5 1 10 ⟨by omega, by omega⟩ ⟨by omega, by omega⟩ ⟨by omega, by omega⟩ (by first | assumption | exact (LSP_FR hFT1 rfl rfl (by assumption : LSP S))) (by first | assumption | omega) _) ?_
                rintro _ _ ⟨rfl, z123, rfl, w123, m60⟩
                show Pl _ _ _ _ _ _ [iv z123] _ _
                have K60 : True := trivial
                have M60 := m60.trans (msR_FR hFT1 rfl)
                clear m60
                refine y_goto rfl rfl ?_
                refine y_istore rfl rfl rfl ?_
                have V67 : z123 = (vbA S first (v5 - first).toNat) := by first | (have u := K60; exact vr_y (by omega) (by rw [← tkR_F hFT1 rfl]; omega) s27 M60 (by omega)) | exact vr_n (i := v5) (by omega) (by rw [← tkR_F hFT1 rfl]; omega)
                exact Pl_weak (C69 T1 hHT1 hFT1 (v2) (v3) (v4) (v5) (z123) (by omega) (by omega) (by omega) (by omega) (by omega) (by omega) (by omega) (by omega) (by omega) (V67) (s27) (q27) (N27)) (by omega) (And.intro rfl (And.intro rfl (And.intro rfl (And.intro rfl (And.intro rfl (And.intro rfl (And.intro rfl (True.intro))))))))
      refine ys_aload_n rfl rfl ?_
      refine y_gfr rfl rfl rfl rfl rfl (hH.r 904 4 907 rfl) ?_
      refine y_iload_n rfl rfl ?_
      refine y_ialoadP (n := 5002) rfl rfl (by unfold rg; omega) (fun w124 w125 => ?_)
      have w126 : -2147483648 ≤ (Xi S 907 ((v2).toNat)) ∧ (Xi S 907 ((v2).toNat)) ≤ 2147483647 := Xi_rgI
      have u7 : v2 < (dd : Int) → (Xi S 907 ((v2).toNat)) ≠ 46 := fun q => hu.o (v2).toNat (by omega) (by omega)
      have y7 : v2 = (dd : Int) → (Xi S 907 ((v2).toNat)) = 46 := fun q => by rw [show (v2).toNat = dd by omega]; exact he
      refine y_bipush rfl rfl ?_
      refine y_icmp_eq rfl rfl (by unfold rg; omega) (by unfold rg; omega) (fun w127 => ?_) (fun w128 => ?_)
      · refine y_iconst rfl ?_
        refine y_istore_n rfl rfl rfl ?_
        refine y_iconst rfl ?_
        refine y_istore rfl rfl rfl ?_
        refine y_iload_n rfl rfl ?_
        refine y_istore rfl rfl rfl ?_
        exact Pl_weak (C27 n2 (by omega) S hH hF (v2) (0) (1) (first) (by omega) (by omega) (by omega) (by omega) (by omega) (by omega) (by omega) (by omega) (by first | exact s231 | (rw [show (first - first).toNat = 0 by omega]; rfl)) (by first | exact q197 | exact sac_0 (by omega)) (by first | exact N197 | rfl)) (by omega) (And.intro rfl (And.intro rfl (And.intro rfl (And.intro rfl (And.intro rfl (And.intro rfl (True.intro)))))))
      · refine y_iinc rfl rfl rfl rfl ?_
        refine y_goto rfl rfl ?_
        exact Pl_weak (ih2 (by omega) ((v2 + 1)) (by omega) (by omega)) (by omega) (And.intro rfl (And.intro rfl (And.intro rfl (True.intro))))
  refine y_iload_n rfl rfl ?_
  refine y_istore_n rfl rfl rfl ?_
  exact Pl_weak (C2 fu (by omega) (first) (by omega) (by omega)) (by omega) (And.intro rfl (And.intro rfl (And.intro rfl (True.intro))))
def md_mo_asked__20 : List rec := [(904, 905, 64, 65), (904, 905, 104, 105), (904, 905, 105, 106), (904, 905, 106, 107), (904, 905, 108, 109), (904, 905, 109, 110), (904, 905, 110, 111), (904, 905, 112, 113), (904, 905, 113, 114), (904, 905, 115, 116), (904, 905, 116, 117), (904, 905, 117, 118), (904, 905, 125, 126), (904, 905, 128, 129), (904, 905, 129, 130), (904, 905, 130, 131), (904, 905, 142, 143), (904, 905, 144, 145), (904, 905, 146, 147), (904, 905, 147, 148), (904, 905, 150, 151), (904, 905, 151, 152), (904, 905, 153, 154), (904, 905, 154, 155), (904, 905, 156, 157), (904, 905, 157, 158), (904, 905, 158, 159), (904, 905, 160, 161), (966, 967, 0, 100000), (967, 968, 0, 100000), (968, 969, 0, 100000), (969, 970, 0, 100000), (970, 971, 0, 100000), (971, 972, 0, 100000), (972, 973, 0, 100000), (973, 974, 0, 100000), (974, 975, 0, 100000), (975, 976, 0, 100000), (976, 977, 0, 100000), (977, 978, 0, 100000), (978, 979, 0, 100000), (979, 980, 0, 100000), (980, 981, 0, 100000), (981, 982, 0, 100000), (982, 983, 0, 100000), (983, 984, 0, 100000), (984, 985, 0, 100000), (985, 986, 0, 100000), (986, 987, 0, 100000), (987, 988, 0, 100000), (988, 989, 0, 100000), (989, 990, 0, 100000), (990, 991, 0, 100000), (991, 992, 0, 100000), (992, 993, 0, 100000), (993, 994, 0, 100000), (994, 995, 0, 100000)]
abbrev Q_mo_asked__20 (S : sS) (dd : Nat) (first : Int) : pst := fun r S1 => RI S1 ∧ FR md_mo_asked__20 S S1 ∧ (r = none ∧ (∃ P : sS, FR lA S P ∧ (Xi P 904 106 = 0 ∧ Xi P 904 108 = 0) ∧ RSY P S1 first dd))
set_option maxRecDepth 100000 in
theorem t_mo_asked__20 {S : sS} (hH : RI S) (dd : Nat) (first : Int) (hfirst : 0 ≤ first ∧ first ≤ 5001) (hLS : LSP S) (h15 : 0 ≤ Xi S 904 15) (hB : ABV S) (hko : Hid (∀ j : Nat, -1 ≤ Xi S 918 j ∧ Xi S 918 j ≤ 15)) (hd : first ≤ (dd : Int) ∧ (dd : Int) ≤ 5001) (he : Xi S 907 dd = 46) (hu : Hid (∀ j : Nat, first ≤ (j : Int) → j < dd → Xi S 907 j ≠ 46)) (hs : Xi S 904 70 = 20) (d : Nat) : Mp lay0 (d + 13) m_mo_asked [.ref 904, iv first] S (Q_mo_asked__20 S dd first) := by
  refine Mp_R rfl rfl (fun fu => ?_)
  have hF : FR md_mo_asked__20 S S := FR.rf
  have w1 : -2147483648 ≤ Xi S 904 104 ∧ Xi S 904 104 ≤ 2147483647 := Xi_rgI
  have w2 : -2147483648 ≤ Xi S 904 105 ∧ Xi S 904 105 ≤ 2147483647 := Xi_rgI
  have w3 : -2147483648 ≤ Xi S 904 106 ∧ Xi S 904 106 ≤ 2147483647 := Xi_rgI
  have w4 : -2147483648 ≤ Xi S 904 108 ∧ Xi S 904 108 ≤ 2147483647 := Xi_rgI
  have w5 : -2147483648 ≤ Xi S 904 15 ∧ Xi S 904 15 ≤ 2147483647 := Xi_rgI
  have w6 : -2147483648 ≤ Xi S 904 70 ∧ Xi S 904 70 ≤ 2147483647 := Xi_rgI
  refine y_aload_n rfl rfl ?_
  refine y_iconst rfl ?_
  refine y_pfi rfl rfl rfl rfl ?_
  obtain ⟨U1, eU1⟩ : ∃ T : sS, T = uI S 904 106 (Int32.ofInt 0) := ⟨_, rfl⟩
  rw [← eU1]
  have hHU1 : RI U1 := by rw [eU1]; exact RI_w hH
  have hFU1 : FR md_mo_asked__20 S U1 := by rw [eU1]; exact FR.wI hF (mdf_i (r := (904, 905, 106, 107)) (List.mem_of_getElem? (i := 3) rfl) (inR_i (by omega) (by omega) (by omega) (by omega)))
  have w7 : Xi U1 904 106 = 0 := by rw [eU1]; exact Xi_same (by unfold rg; omega)
  have FA2 : FR lA S U1 := by rw [eU1]; exact FR.wI FR.rf (mdf_i (r := (904, 905, 106, 107)) (List.mem_of_getElem? (i := 0) rfl) (inR_i (by omega) (by omega) (by omega) (by omega)))
  refine y_aload_n rfl rfl ?_
  refine y_iconst rfl ?_
  refine y_pfi rfl rfl rfl rfl ?_
  obtain ⟨U2, eU2⟩ : ∃ T : sS, T = uI U1 904 108 (Int32.ofInt 0) := ⟨_, rfl⟩
  rw [← eU2]
  have hHU2 : RI U2 := by rw [eU2]; exact RI_w hHU1
  have hFU2 : FR md_mo_asked__20 S U2 := by rw [eU2]; exact FR.wI hFU1 (mdf_i (r := (904, 905, 108, 109)) (List.mem_of_getElem? (i := 4) rfl) (inR_i (by omega) (by omega) (by omega) (by omega)))
  have w8 : Xi U2 904 108 = 0 := by rw [eU2]; exact Xi_same (by unfold rg; omega)
  have FA7 : FR lA S U2 := by rw [eU2]; exact FR.wI FA2 (mdf_i (r := (904, 905, 108, 109)) (List.mem_of_getElem? (i := 1) rfl) (inR_i (by omega) (by omega) (by omega) (by omega)))
  refine y_aload_n rfl rfl ?_
  refine y_iconst rfl ?_
  refine y_pfi rfl rfl rfl rfl ?_
  obtain ⟨U3, eU3⟩ : ∃ T : sS, T = uI U2 904 115 (Int32.ofInt (-1)) := ⟨_, rfl⟩
  rw [← eU3]
  have hHU3 : RI U3 := by rw [eU3]; exact RI_w hHU2
  have hFU3 : FR md_mo_asked__20 S U3 := by rw [eU3]; exact FR.wI hFU2 (mdf_i (r := (904, 905, 115, 116)) (List.mem_of_getElem? (i := 9) rfl) (inR_i (by omega) (by omega) (by omega) (by omega)))
  have w9 : Xi U3 904 115 = (-1) := by rw [eU3]; exact Xi_same (by unfold rg; omega)
  have FA12 : FR lA S U3 := by rw [eU3]; exact FR.wI FA7 (mdf_i (r := (904, 905, 115, 116)) (List.mem_of_getElem? (i := 2) rfl) (inR_i (by omega) (by omega) (by omega) (by omega)))
  refine y_aload_n rfl rfl ?_
  refine y_iconst rfl ?_
  refine y_pfi rfl rfl rfl rfl ?_
  obtain ⟨U4, eU4⟩ : ∃ T : sS, T = uI U3 904 116 (Int32.ofInt (-1)) := ⟨_, rfl⟩
  rw [← eU4]
  have hHU4 : RI U4 := by rw [eU4]; exact RI_w hHU3
  have hFU4 : FR md_mo_asked__20 S U4 := by rw [eU4]; exact FR.wI hFU3 (mdf_i (r := (904, 905, 116, 117)) (List.mem_of_getElem? (i := 10) rfl) (inR_i (by omega) (by omega) (by omega) (by omega)))
  have w10 : Xi U4 904 116 = (-1) := by rw [eU4]; exact Xi_same (by unfold rg; omega)
  have FA17 : FR lA S U4 := by rw [eU4]; exact FR.wI FA12 (mdf_i (r := (904, 905, 116, 117)) (List.mem_of_getElem? (i := 3) rfl) (inR_i (by omega) (by omega) (by omega) (by omega)))
  have m17 : SMR S U4 := SMR_FR FA17 rfl rfl
  refine y_aload_n rfl rfl ?_
  refine y_gfi rfl rfl rfl rfl rfl ?_
  have w11 : (Xi U4 904 70) = (Xi S 904 70) := (show Xi U4 904 70 = Xi U3 904 70 from by rw [eU4]; exact Xi_ne (by omega)).trans ( (show Xi U3 904 70 = Xi U2 904 70 from by rw [eU3]; exact Xi_ne (by omega)).trans ( (show Xi U2 904 70 = Xi U1 904 70 from by rw [eU2]; exact Xi_ne (by omega)).trans ((show Xi U1 904 70 = Xi S 904 70 from by rw [eU1]; exact Xi_ne (by omega)))))
  rw [w11]
  refine y_tsw rfl rfl rfl rfl (by unfold rg; omega) (fun w12 => ?_) (fun ii tt hii w12 => ?_)
  · exfalso; omega
  · match ii, hii with
    | 0, hii =>
      cases hii
      have w13 : (Xi S 904 70) = 0 := by simpa using w12
      exfalso; omega
    | 1, hii =>
      cases hii
      have w14 : (Xi S 904 70) = 1 := by simpa using w12
      exfalso; omega
    | 2, hii =>
      cases hii
      have w15 : (Xi S 904 70) = 2 := by simpa using w12
      exfalso; omega
    | 3, hii =>
      cases hii
      have w16 : (Xi S 904 70) = 3 := by simpa using w12
      exfalso; omega
    | 4, hii =>
      cases hii
      have w17 : (Xi S 904 70) = 4 := by simpa using w12
      exfalso; omega
    | 5, hii =>
      cases hii
      have w18 : (Xi S 904 70) = 5 := by simpa using w12
      exfalso; omega
    | 6, hii =>
      cases hii
      have w19 : (Xi S 904 70) = 6 := by simpa using w12
      exfalso; omega
    | 7, hii =>
      cases hii
      have w20 : (Xi S 904 70) = 7 := by simpa using w12
      exfalso; omega
    | 8, hii =>
      cases hii
      have w21 : (Xi S 904 70) = 8 := by simpa using w12
      exfalso; omega
    | 9, hii =>
      cases hii
      have w22 : (Xi S 904 70) = 9 := by simpa using w12
      exfalso; omega
    | 10, hii =>
      cases hii
      have w23 : (Xi S 904 70) = 10 := by simpa using w12
      exfalso; omega
    | 11, hii =>
      cases hii
      have w24 : (Xi S 904 70) = 11 := by simpa using w12
      exfalso; omega
    | 12, hii =>
      cases hii
      have w25 : (Xi S 904 70) = 12 := by simpa using w12
      exfalso; omega
    | 13, hii =>
      cases hii
      have w26 : (Xi S 904 70) = 13 := by simpa using w12
      exfalso; omega
    | 14, hii =>
      cases hii
      have w27 : (Xi S 904 70) = 14 := by simpa using w12
      exfalso; omega
    | 15, hii =>
      cases hii
      have w28 : (Xi S 904 70) = 15 := by simpa using w12
      exfalso; omega
    | 16, hii =>
      cases hii
      have w29 : (Xi S 904 70) = 16 := by simpa using w12
      exfalso; omega
    | 17, hii =>
      cases hii
      have w30 : (Xi S 904 70) = 17 := by simpa using w12
      exfalso; omega
    | 18, hii =>
      cases hii
      have w31 : (Xi S 904 70) = 18 := by simpa using w12
      exfalso; omega
    | 19, hii =>
      cases hii
      have w32 : (Xi S 904 70) = 19 := by simpa using w12
      exfalso; omega
    | 20, hii =>
      cases hii
      have w33 : (Xi S 904 70) = 20 := by simpa using w12
      refine y_aload_n rfl rfl ?_
      refine y_iload_n rfl rfl ?_
      have w36 : Xi U4 904 106 = Xi U1 904 106 := (show Xi U4 904 106 = Xi U3 904 106 from by rw [eU4]; exact Xi_ne (by omega)).trans ( (show Xi U3 904 106 = Xi U2 904 106 from by rw [eU3]; exact Xi_ne (by omega)).trans ((show Xi U2 904 106 = Xi U1 904 106 from by rw [eU2]; exact Xi_ne (by omega))))
      have w37 : Xi U4 904 108 = Xi U2 904 108 := (show Xi U4 904 108 = Xi U3 904 108 from by rw [eU4]; exact Xi_ne (by omega)).trans ((show Xi U3 904 108 = Xi U2 904 108 from by rw [eU3]; exact Xi_ne (by omega)))
      have w38 : Xi U4 904 15 = Xi S 904 15 := (show Xi U4 904 15 = Xi U3 904 15 from by rw [eU4]; exact Xi_ne (by omega)).trans ( (show Xi U3 904 15 = Xi U2 904 15 from by rw [eU3]; exact Xi_ne (by omega)).trans ( (show Xi U2 904 15 = Xi U1 904 15 from by rw [eU2]; exact Xi_ne (by omega)).trans ((show Xi U1 904 15 = Xi S 904 15 from by rw [eU1]; exact Xi_ne (by omega)))))
      refine y_callV rfl rfl rfl (t_mo_askSaying__p hHU4 dd first ⟨by omega, by omega⟩ (by first | assumption | exact (LSP_FR hFU4 rfl rfl (by assumption : LSP S))) (by first | assumption | omega) (by first | assumption | exact (ABV_FR hFU4 rfl (by assumption : ABV S))) (fun j => by rw [FA17.x 918 j rfl]; exact hko.o j) (by first | assumption | omega) (by rw [FA17.x 907 _ rfl]; exact he) (fun j a b => by rw [FA17.x 907 _ rfl]; exact hu.o j a b) _) ?_
      rintro _ T5 ⟨hHT5, w41, rfl, o520⟩
      have hFT5 : FR md_mo_asked__20 S T5 := FR.tr hFU4 w41 rfl
      show Pl _ _ _ _ _ _ [] _ _
      have K520 : True := trivial
      have z520 : Xi U4 904 106 = 0 ∧ Xi U4 904 108 = 0 := ⟨by omega, by omega⟩
      refine y_goto rfl rfl ?_
      refine y_return rfl rfl ?_
      have w42 : Xi T5 904 108 = Xi U2 904 108 := (show Xi T5 904 108 = Xi U4 904 108 from w41.x _ _ rfl).trans ( (show Xi U4 904 108 = Xi U3 904 108 from by rw [eU4]; exact Xi_ne (by omega)).trans ((show Xi U3 904 108 = Xi U2 904 108 from by rw [eU3]; exact Xi_ne (by omega))))
      exact ⟨hHT5, hFT5, rfl, (by first | (have t := K520; exact ⟨_, FA17, z520, o520⟩) | (exfalso; omega))⟩
    | n + 21, hii => exact absurd hii (by simp)
def md_mo_does__20 : List rec := [(904, 905, 15, 16), (904, 905, 16, 17), (904, 905, 18, 19), (904, 905, 19, 20), (904, 905, 23, 24), (904, 905, 30, 31), (904, 905, 32, 33), (904, 905, 41, 42), (904, 905, 47, 48), (904, 905, 49, 50), (904, 905, 51, 52), (904, 905, 55, 56), (904, 905, 60, 61), (904, 905, 64, 65), (904, 905, 73, 74), (904, 905, 105, 106), (904, 905, 106, 107), (904, 905, 113, 114), (904, 905, 117, 118), (912, 913, 0, 100000), (913, 914, 0, 100000), (914, 915, 0, 100000), (915, 916, 0, 100000), (916, 917, 0, 100000), (917, 918, 0, 100000), (918, 919, 0, 100000), (919, 920, 0, 100000), (920, 921, 0, 100000), (921, 922, 0, 100000), (922, 923, 0, 100000), (923, 924, 0, 100000), (924, 925, 0, 100000), (925, 926, 0, 100000), (926, 927, 0, 100000), (927, 928, 0, 100000), (928, 929, 0, 100000), (929, 930, 0, 100000), (930, 931, 0, 100000), (931, 932, 0, 100000), (932, 933, 0, 100000), (933, 934, 0, 100000), (934, 935, 0, 100000), (935, 936, 0, 100000), (936, 937, 0, 100000), (937, 938, 0, 100000), (938, 939, 0, 100000), (939, 940, 0, 100000), (940, 941, 0, 100000), (941, 942, 0, 100000), (942, 943, 0, 100000), (943, 944, 0, 100000), (944, 945, 0, 100000), (945, 946, 0, 100000), (946, 947, 0, 100000), (947, 948, 0, 100000), (948, 949, 0, 100000), (949, 950, 0, 100000)]
abbrev Q_mo_does__20 (S : sS) (first : Int) : pst := fun r S1 => RI S1 ∧ FR md_mo_does__20 S S1 ∧ (r = none ∧ (DSY S S1 first))
set_option maxRecDepth 100000 in
theorem t_mo_does__20 {S : sS} (hH : RI S) (first : Int) (hfirst : 0 ≤ first ∧ first ≤ 5001) (hob : 0 ≤ Xi S 904 19 ∧ Xi S 904 19 ≤ 24) (h0 : Xi S 904 106 = 0) (hrl : 0 ≤ Xi S 904 147 ∧ Xi S 904 147 ≤ 5) (h144 : 0 ≤ Xi S 904 144 ∧ Xi S 904 144 ≤ 5200) (h146 : 0 ≤ Xi S 904 146 ∧ Xi S 904 146 ≤ 5200) (ha : Hid (∀ i : Nat, (i : Int) < Xi S 904 144 → 0 ≤ Xi S 988 i ∧ Xi S 988 i ≤ 23)) (hb : Hid (∀ i : Nat, (i : Int) < Xi S 904 146 → 0 ≤ Xi S 989 i ∧ Xi S 989 i ≤ 23)) (hs : Xi S 904 70 = 20) (d : Nat) : Mp lay0 (d + 8) m_mo_does [.ref 904, iv first] S (Q_mo_does__20 S first) := by
  refine Mp_R rfl rfl (fun fu => ?_)
  have hF : FR md_mo_does__20 S S := FR.rf
  have w1 : -2147483648 ≤ Xi S 904 106 ∧ Xi S 904 106 ≤ 2147483647 := Xi_rgI
  have w2 : -2147483648 ≤ Xi S 904 144 ∧ Xi S 904 144 ≤ 2147483647 := Xi_rgI
  have w3 : -2147483648 ≤ Xi S 904 146 ∧ Xi S 904 146 ≤ 2147483647 := Xi_rgI
  have w4 : -2147483648 ≤ Xi S 904 147 ∧ Xi S 904 147 ≤ 2147483647 := Xi_rgI
  have w5 : -2147483648 ≤ Xi S 904 19 ∧ Xi S 904 19 ≤ 2147483647 := Xi_rgI
  have w6 : -2147483648 ≤ Xi S 904 70 ∧ Xi S 904 70 ≤ 2147483647 := Xi_rgI
  have C300 : ∀ (n300 : Nat) (_ : n300 ≤ fu) (T1 : sS) (_ : RI T1) (_ : FR md_mo_does__20 S T1) (v2 : Int), (-2147483648 ≤ v2 ∧ v2 ≤ 2147483647) → ((1 : Int) = 0) → Pl n300 lay0 (d + 7) m_mo_does 300 [(0, .ref 904), (2, iv v2)] [] T1 (Q_mo_does__20 S first) := by
    intro n300
    induction n300 with
    | zero => intros; exact Pl_0
    | succ n300 ih300 =>
      intro hm300 T1 hHT1 hFT1 v2 w7 w8
      have w9 : Xi T1 904 110 = Xi S 904 110 := hFT1.x _ _ rfl
      have w10 : Xi T1 904 112 = Xi S 904 112 := hFT1.x _ _ rfl
      have w11 : Xi T1 904 142 = Xi S 904 142 := hFT1.x _ _ rfl
      have w12 : Xi T1 904 144 = Xi S 904 144 := hFT1.x _ _ rfl
      have w13 : Xi T1 904 146 = Xi S 904 146 := hFT1.x _ _ rfl
      have w14 : Xi T1 904 147 = Xi S 904 147 := hFT1.x _ _ rfl
      have w15 : Xi T1 904 69 = Xi S 904 69 := hFT1.x _ _ rfl
      have w16 : Xi T1 904 70 = Xi S 904 70 := hFT1.x _ _ rfl
      have w17 : Xi T1 904 71 = Xi S 904 71 := hFT1.x _ _ rfl
      have w18 : Xi T1 904 72 = Xi S 904 72 := hFT1.x _ _ rfl
      have w19 : Xi T1 904 74 = Xi S 904 74 := hFT1.x _ _ rfl
      have w20 : Xi T1 904 78 = Xi S 904 78 := hFT1.x _ _ rfl
      have w21 : Xi T1 904 94 = Xi S 904 94 := hFT1.x _ _ rfl
      have w22 : Xi T1 951 1 = Xi S 951 1 := hFT1.x _ _ rfl
      have w23 : Xi T1 951 2 = Xi S 951 2 := hFT1.x _ _ rfl
      have w24 : Xi T1 967 0 = Xi S 967 0 := hFT1.x _ _ rfl
      have w25 : -2147483648 ≤ Xi T1 904 106 ∧ Xi T1 904 106 ≤ 2147483647 := Xi_rgI
      have w26 : -2147483648 ≤ Xi T1 904 144 ∧ Xi T1 904 144 ≤ 2147483647 := Xi_rgI
      have w27 : -2147483648 ≤ Xi T1 904 146 ∧ Xi T1 904 146 ≤ 2147483647 := Xi_rgI
      have w28 : -2147483648 ≤ Xi T1 904 147 ∧ Xi T1 904 147 ≤ 2147483647 := Xi_rgI
      have w29 : -2147483648 ≤ Xi T1 904 19 ∧ Xi T1 904 19 ≤ 2147483647 := Xi_rgI
      have w30 : -2147483648 ≤ Xi T1 904 70 ∧ Xi T1 904 70 ≤ 2147483647 := Xi_rgI
      exfalso; omega
  refine y_aload_n rfl rfl ?_
  refine y_gfi rfl rfl rfl rfl rfl ?_
  refine y_tsw rfl rfl rfl rfl (by unfold rg; omega) (fun w31 => ?_) (fun ii tt hii w31 => ?_)
  · refine y_return rfl rfl ?_
    exact ⟨hH, hF, rfl, (by first | (have t := K506; exact o506) | (exfalso; omega))⟩
  · match ii, hii with
    | 0, hii =>
      cases hii
      have w32 : (Xi S 904 70) = 0 := by simpa using w31
      exfalso; omega
    | 1, hii =>
      cases hii
      have w33 : (Xi S 904 70) = 1 := by simpa using w31
      exfalso; omega
    | 2, hii =>
      cases hii
      have w34 : (Xi S 904 70) = 2 := by simpa using w31
      exfalso; omega
    | 3, hii =>
      cases hii
      have w35 : (Xi S 904 70) = 3 := by simpa using w31
      refine y_return rfl rfl ?_
      exact ⟨hH, hF, rfl, (by first | (have t := K506; exact o506) | (exfalso; omega))⟩
    | 4, hii =>
      cases hii
      have w36 : (Xi S 904 70) = 4 := by simpa using w31
      refine y_return rfl rfl ?_
      exact ⟨hH, hF, rfl, (by first | (have t := K506; exact o506) | (exfalso; omega))⟩
    | 5, hii =>
      cases hii
      have w37 : (Xi S 904 70) = 5 := by simpa using w31
      refine y_return rfl rfl ?_
      exact ⟨hH, hF, rfl, (by first | (have t := K506; exact o506) | (exfalso; omega))⟩
    | 6, hii =>
      cases hii
      have w38 : (Xi S 904 70) = 6 := by simpa using w31
      refine y_return rfl rfl ?_
      exact ⟨hH, hF, rfl, (by first | (have t := K506; exact o506) | (exfalso; omega))⟩
    | 7, hii =>
      cases hii
      have w39 : (Xi S 904 70) = 7 := by simpa using w31
      exfalso; omega
    | 8, hii =>
      cases hii
      have w40 : (Xi S 904 70) = 8 := by simpa using w31
      exfalso; omega
    | 9, hii =>
      cases hii
      have w41 : (Xi S 904 70) = 9 := by simpa using w31
      exfalso; omega
    | 10, hii =>
      cases hii
      have w42 : (Xi S 904 70) = 10 := by simpa using w31
      exfalso; omega
    | 11, hii =>
      cases hii
      have w43 : (Xi S 904 70) = 11 := by simpa using w31
      exfalso; omega
    | 12, hii =>
      cases hii
      have w44 : (Xi S 904 70) = 12 := by simpa using w31
      exfalso; omega
    | 13, hii =>
      cases hii
      have w45 : (Xi S 904 70) = 13 := by simpa using w31
      exfalso; omega
    | 14, hii =>
      cases hii
      have w46 : (Xi S 904 70) = 14 := by simpa using w31
      exfalso; omega
    | 15, hii =>
      cases hii
      have w47 : (Xi S 904 70) = 15 := by simpa using w31
      exfalso; omega
    | 16, hii =>
      cases hii
      have w48 : (Xi S 904 70) = 16 := by simpa using w31
      exfalso; omega
    | 17, hii =>
      cases hii
      have w49 : (Xi S 904 70) = 17 := by simpa using w31
      exfalso; omega
    | 18, hii =>
      cases hii
      have w50 : (Xi S 904 70) = 18 := by simpa using w31
      exfalso; omega
    | 19, hii =>
      cases hii
      have w51 : (Xi S 904 70) = 19 := by simpa using w31
      exfalso; omega
    | 20, hii =>
      cases hii
      have w52 : (Xi S 904 70) = 20 := by simpa using w31
      refine y_aload_n rfl rfl ?_
      refine y_iload_n rfl rfl ?_
      refine y_callV rfl rfl rfl (t_mo_doSaying__p hH first ⟨by omega, by omega⟩ (by first | assumption | omega) (by first | assumption | omega) (by first | assumption | omega) (by first | assumption | omega) (by first | assumption | omega) (by first | assumption | omega) (by first | assumption | omega) _) ?_
      rintro _ T2 ⟨hHT2, w54, rfl, o506⟩
      have hFT2 : FR md_mo_does__20 S T2 := FR.tr hF w54 rfl
      show Pl _ _ _ _ _ _ [] _ _
      have K506 : True := trivial
      refine y_goto rfl rfl ?_
      refine y_return rfl rfl ?_
      exact ⟨hHT2, hFT2, rfl, (by first | (have t := K506; exact o506) | (exfalso; omega))⟩
    | n + 21, hii => exact absurd hii (by simp)
end
