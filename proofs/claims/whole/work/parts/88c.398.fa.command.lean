section
/-! COMMANDS: a word that is no word means nothing; what fits, said of one state -/
theorem cw_of {U S : sS} (v : VOC U S) : CW U := fun i hi => by
  obtain ⟨k, _, w⟩ := v.2.1 (i / 3) (by omega)
  have t := (w.2.2.2.1 (i % 3) (by omega)).1
  rw [show 3 * (i / 3) + i % 3 = i by omega] at t
  exact t
theorem mnf_no {U : sS} {a b c : Int} (cw : CW U) (h : a = -1 ∨ b = -1 ∨ c = -1) : mnF U a b c = -1 := by
  unfold mnF
  refine msc_n _ _ (fun j j0 j1 m => ?_)
  obtain ⟨m1, m2, m3⟩ := m
  have c0 := (cw (3 * j) (by omega)).1
  have c1 := (cw (3 * j + 1) (by omega)).1
  have c2 := (cw (3 * j + 2) (by omega)).1
  omega
theorem nof_f {U S : sS} {i k : Nat} (v : VOC U S) (c : CM1 U S i) (hk : (k : Int) < Xi U 882 12) (e : Xj U 889 k = -1) : ¬ FTR U i := fun f => by
  obtain ⟨g, g1, g2⟩ := nof_w c f hk e
  have e1 : ((i : Int)).toNat = i := Int.toNat_natCast i
  obtain ⟨fo, _, fg⟩ := f
  unfold FOK at fo
  rw [e1] at fo fg
  have o := fo.2 g
  have fg := fg g
  have c5 := c.2.2.2.1
  have m : mt7 U i = -1 := by
    unfold mt7 mnR
    rw [e1]
    refine mnf_no (cw_of v) ?_
    have q : k = (Xi U 885 i).toNat ∨ k = (Xi U 885 i).toNat + 1 ∨ k = (Xi U 885 i).toNat + 2 := by omega
    rcases q with q | q | q
    · left; rw [← q]; exact e
    · right; left; rw [if_pos (by omega), ← q]; exact e
    · right; right; rw [if_pos (by omega), ← q]; exact e
  rw [m] at fg
  by_cases kd : Xi U 886 i = -2
  · have := fg.1 kd; omega
  · have := (fg.2 kd).1; omega
/-- what fits the class fits the reference, with its noun -/
theorem fit_a {U S : sS} {i : Nat} (h : RLQ U S) (w : WAL U S) (c : CM1 U S i) (q : FTR U i) : FQC S i (Xi S 947 i).toNat (Xi S 904 164) (if Xi U 885 i = -1 then -1 else mt7 U i % 256) := by
  have e1 : ((i : Int)).toNat = i := Int.toNat_natCast i
  have c5 := c.2.2.2.1
  have c4 := c.2.1
  have w1 := w.1.1
  have sz : ((Xi S 947 i).toNat : Int) = Xi U 884 i := by omega
  have u := fit_1 h w c q (Xi S 947 i).toNat (by omega)
  have fo := q.1
  unfold FOK at fo
  rw [e1] at fo
  rw [sz] at u
  have a : fqa U i (Xi U 884 i) = Xi S 904 164 := by
    unfold fqa
    by_cases g : Xi U 885 i = -1
    · rw [if_pos (Or.inl g)]; have := fo.1 g; omega
    · rw [if_neg (by omega)]; omega
  have n : fqn U i (Xi U 884 i) = (if Xi U 885 i = -1 then -1 else mt7 U i % 256) := by
    unfold fqn
    by_cases g : Xi U 885 i = -1
    · rw [if_pos (Or.inl g), if_pos g]
    · rw [if_neg (by omega), if_neg g]
  rw [a, n] at u; exact u
theorem fit_b {U S : sS} {i : Nat} (h : RLQ U S) (w : WAL U S) (c : CM1 U S i) {n : Int} (q : FQC S i (Xi S 947 i).toNat (Xi S 904 164) n) : FTR U i := by
  have e1 : ((i : Int)).toNat = i := Int.toNat_natCast i
  have c5 := c.2.2.2.1
  have c4 := c.2.1
  have w1 := w.1.1
  have sz : ((Xi S 947 i).toNat : Int) = Xi U 884 i := by omega
  obtain ⟨b1, b2, b3⟩ := fit_2 w c _ _ _ (by omega) q
  rw [sz] at b1 b2 b3
  have fo : (Xi U 885 i = -1 → Xi U 882 12 = Xi U 884 i) ∧ (Xi U 885 i ≠ -1 → Xi U 884 i ≤ Xi U 882 12 ∧ Xi U 882 12 < Xi U 884 i + 3) :=
    ⟨fun g => by unfold fqa at b1; rw [if_pos (Or.inl g)] at b1; omega, fun g => (b3 g (by omega)).1⟩
  refine ⟨by unfold FOK; rw [e1]; exact fo, by rw [e1]; exact b2, fun g => ?_⟩
  rw [e1] at g ⊢
  exact (gap_q h w c g (fo.2 g)).1.2 (b3 g (by omega)).2
/-- looking whether commands fit changes nothing of that -/
theorem ftr_f {S T : sS} (F : FR [(882, 883, 13, 14)] S T) {i : Int} : FTR T i ↔ FTR S i := by
  have a4 : ∀ j, Xi T 884 j = Xi S 884 j := fun j => (F.cx 884 rfl j).1
  have a5 : ∀ j, Xi T 885 j = Xi S 885 j := fun j => (F.cx 885 rfl j).1
  have a6 : ∀ j, Xi T 886 j = Xi S 886 j := fun j => (F.cx 886 rfl j).1
  have a7 : ∀ j, Xj T 887 j = Xj S 887 j := fun j => (F.cx 887 rfl j).2
  have a9 : ∀ j, Xj T 889 j = Xj S 889 j := fun j => (F.cx 889 rfl j).2
  have a21 : ∀ j, Xi T 21 j = Xi S 21 j := fun j => (F.cx 21 rfl j).1
  have e12 : Xi T 882 12 = Xi S 882 12 := F.x 882 12 rfl
  have m : mt7 T i = mt7 S i := by
    unfold mt7
    rw [a5, a4, e12]
    exact mnR_9 (F.x 1 3 rfl) (fun k q j => by rcases q with q | q | q | q <;> subst q; exact F.cx 2 rfl j; exact F.cx 3 rfl j; exact F.cx 4 rfl j; exact F.cx 889 rfl j) _ _
  have kk : ∀ a b, isK T a b = isK S a b := fun a b => isK_F F rfl a b
  unfold FTR FOK FWD fst7 FGK
  simp only [a4, a5, a6, a7, a9, a21, e12, m, kk]
theorem fqs_f {S T : sS} (F : FR [(904, 905, 165, 166)] S T) {c : Int} {j : Nat} {a n a' n' : Int} : FQS T c j a n a' n' ↔ FQS S c j a n a' n' := by
  have x47 : ∀ j, Xi T 947 j = Xi S 947 j := fun j => (F.cx 947 rfl j).1
  have x49 : ∀ j, Xi T 949 j = Xi S 949 j := fun j => (F.cx 949 rfl j).1
  have x14 : ∀ j, Xi T 914 j = Xi S 914 j := fun j => (F.cx 914 rfl j).1
  have x15 : ∀ j, Xi T 915 j = Xi S 915 j := fun j => (F.cx 915 rfl j).1
  have x18 : ∀ j, Xi T 918 j = Xi S 918 j := fun j => (F.cx 918 rfl j).1
  have j48 : ∀ j, Xj T 948 j = Xj S 948 j := fun j => (F.cx 948 rfl j).2
  have j95 : ∀ j, Xj T 995 j = Xj S 995 j := fun j => (F.cx 995 rfl j).2
  have e64 : Xi T 904 164 = Xi S 904 164 := F.x 904 164 rfl
  have e15 : Xi T 904 15 = Xi S 904 15 := F.x 904 15 rfl
  have bl : ∀ a b, blR T a b = blR S a b := fun a b => blR_fr F rfl a b
  have fd : ∀ (x y z m : Int) (k : Nat), fdR T x y z m k = fdR S x y z m k := fun x y z m k => fdR_k _ (LXK_FR F rfl)
  unfold FQS FQE fqe fqm
  simp only [x47, x49, x14, x15, x18, j48, j95, e64, e15, bl, fd]
theorem fqc_f {S T : sS} (F : FR [(904, 905, 165, 166)] S T) {c : Int} : ∀ (j : Nat) (a n : Int), FQC T c j a n ↔ FQC S c j a n
  | 0, _, _ => Iff.rfl
  | j + 1, a', n' => by
    constructor
    · rintro ⟨a, n, p, q⟩
      exact ⟨a, n, (fqc_f F j a n).1 p, (fqs_f F).1 q⟩
    · rintro ⟨a, n, p, q⟩
      exact ⟨a, n, (fqc_f F j a n).2 p, (fqs_f F).2 q⟩
/-- a command of the reference that fits the words said, with the noun n -/
def FQN (S : sS) (i : Nat) (n : Int) : Prop := FQC S i (Xi S 947 i).toNat (Xi S 904 164) n
theorem fqn_f {S T : sS} (F : FR [(904, 905, 165, 166)] S T) {i : Nat} {n : Int} : FQN T i n ↔ FQN S i n := by
  unfold FQN
  rw [(F.cx 947 rfl i).1, F.x 904 164 rfl]
  exact fqc_f F _ _ _
/-- the first command that fits -/
def CMC (S T : sS) (ts : Nat) (z : Int) : Prop := ∃ (U : sS) (y : Int), (y = 0 ∨ y = 1) ∧ FR [(0, 1, 10, 11), (882, 883, 12, 13), (889, 890, 0, 100000)] S U ∧ TYO S U ts (Xi S 0 10) y ∧ ((y = 0 ∧ z = -2 ∧ T = U) ∨ (y = 1 ∧ z = -2 ∧ FR [(882, 883, 13, 14)] U T ∧ ∀ j : Nat, (j : Int) < Xi U 882 3 → ¬ FTR U j) ∨ (y = 1 ∧ ∃ (i : Nat) (V : sS), (i : Int) < Xi U 882 3 ∧ (∀ j : Nat, j < i → ¬ FTR U j) ∧ FTR U i ∧ FR [(882, 883, 13, 14)] U V ∧ Xi V 882 13 = (if Xi U 885 i = -1 then -1 else mt7 U i % 256) ∧ (T, z) = ttC V (Xi V 883 i) (Xi V 882 13)))
def CMI (S A : sS) (ts : Nat) (v : Int) : Prop := ∃ U : sS, FR [(0, 1, 10, 11), (882, 883, 12, 13), (889, 890, 0, 100000)] S U ∧ TYO S U ts (Xi S 0 10) 1 ∧ FR [(882, 883, 13, 14)] U A ∧ ∀ j : Nat, (j : Int) < v → ¬ FTR U j
theorem cmc_0 {S W U : sS} {ts : Nat} {n y : Int} (ht : tp ts) (F : FR [(0, 1, 10, 11)] S W) (G : FR [(882, 883, 12, 13), (889, 890, 0, 100000)] W U) (e : n = Xi S 0 10) (o : TYO W U ts n y) : FR [(0, 1, 10, 11), (882, 883, 12, 13), (889, 890, 0, 100000)] S U ∧ TYO S U ts (Xi S 0 10) y := by
  refine ⟨(FR.rf.tr F rfl).tr G rfl, ?_⟩
  have x : Xi W ts = Xi S ts := tp_F F rfl ht
  unfold TYO TYC at o ⊢
  simp only [x, e] at o
  have tw : ∀ q, tyW W ts q = tyW S ts q := fun q => by unfold tyW; rw [x]
  simp only [tw] at o
  exact o
theorem cmi_n {S A B : sS} {ts : Nat} {v z : Int} (h : CMI S A ts v) (h0 : 0 ≤ v) (F : FR [(882, 883, 13, 14)] A B) (f : FTC A B z v) (hz : z = 0) : CMI S B ts (v + 1) := by
  subst hz
  obtain ⟨U, h1, h2, h3, h4⟩ := h
  refine ⟨U, h1, h2, h3.tr F rfl, fun j hj => ?_⟩
  by_cases q : (j : Int) < v
  · exact h4 j q
  · rw [show (j : Int) = v by omega]
    exact fun x => f.2 rfl ((ftr_f h3).2 x)
theorem cmc_e {S A : sS} {ts : Nat} {v : Int} (h : CMI S A ts v) (e : Xi A 882 3 ≤ v) : CMC S A ts (-2) := by
  obtain ⟨U, h1, h2, h3, h4⟩ := h
  have e3 : Xi A 882 3 = Xi U 882 3 := h3.x 882 3 rfl
  exact ⟨U, 1, Or.inr rfl, h1, h2, Or.inr (Or.inl ⟨rfl, rfl, h3, fun j hj => h4 j (by omega)⟩)⟩
theorem cmc_y {S A B T : sS} {ts : Nat} {v z x : Int} (h : CMI S A ts v) (h0 : 0 ≤ v) (hv : v < Xi A 882 3) (F : FR [(882, 883, 13, 14)] A B) (f : FTC A B x v) (hx : x = 1) (t : (T, z) = ttC B (Xi B 883 v.toNat) (Xi B 882 13)) : CMC S T ts z := by
  subst hx
  obtain ⟨U, h1, h2, h3, h4⟩ := h
  have e3 : Xi A 882 3 = Xi U 882 3 := h3.x 882 3 rfl
  obtain ⟨i, rfl⟩ : ∃ i : Nat, (i : Int) = v := ⟨v.toNat, by omega⟩
  have e1 : ((i : Int)).toNat = i := Int.toNat_natCast i
  obtain ⟨g1, g2⟩ := f.1 rfl
  rw [e1] at t g2
  have m : mt7 A i = mt7 U i := by
    unfold mt7
    rw [(h3.cx 885 rfl _).1, (h3.cx 884 rfl _).1, h3.x 882 12 rfl]
    exact mnR_9 (h3.x 1 3 rfl) (fun k q j => by rcases q with q | q | q | q <;> subst q; exact h3.cx 2 rfl j; exact h3.cx 3 rfl j; exact h3.cx 4 rfl j; exact h3.cx 889 rfl j) _ _
  rw [(h3.cx 885 rfl _).1, m] at g2
  exact ⟨U, 1, Or.inr rfl, h1, h2, Or.inr (Or.inr ⟨rfl, i, B, by omega, fun j hj => h4 j (by omega), (ftr_f h3).1 g1, h3.tr F rfl, g2, t⟩)⟩
/-- the first command that fits, as the reference finds it -/
def MCM (S T : sS) (z : Int) : Prop := ∃ (B : sS) (y : Int), (y = 0 ∨ y = 1) ∧ FR [(904, 905, 1, 2), (904, 905, 164, 165), (995, 996, 0, 100000)] S B ∧ ISO7 S B (Xi S 904 1) y ∧ ((z = -2 ∧ FR [(904, 905, 165, 166)] B T ∧ (y = 0 ∨ ∀ j : Nat, (j : Int) < Xi B 904 55 → ∀ n, ¬ FQN B j n)) ∨ (y = 1 ∧ ∃ (i : Nat) (V : sS), (i : Int) < Xi B 904 55 ∧ (∀ j : Nat, j < i → ∀ n, ¬ FQN B j n) ∧ FR [(904, 905, 165, 166)] B V ∧ FQN B i (Xi V 904 165) ∧ ATX V T (Xi V 946 i) (Xi V 904 165) z))
def MMI (S A : sS) (y v : Int) : Prop := ∃ B : sS, FR [(904, 905, 1, 2), (904, 905, 164, 165), (995, 996, 0, 100000)] S B ∧ ISO7 S B (Xi S 904 1) y ∧ FR [(904, 905, 165, 166)] B A ∧ ∀ j : Nat, (j : Int) < v → ∀ n, ¬ FQN B j n
theorem mmi_0 {S A B : sS} {y n : Int} (F : FR [(904, 905, 164, 165), (995, 996, 0, 100000)] S A) (o : ISO7 S A n y) (hn : n = Xi S 904 1) (e : B = uI A 904 1 (Int32.ofInt 0)) : MMI S B y 0 := by
  have G : FR [(904, 905, 1, 2)] A B := by rw [e]; exact FR.wI FR.rf rfl
  refine ⟨B, (FR.rf.tr F rfl).tr G rfl, ?_, FR.rf, fun j hj => absurd hj (by omega)⟩
  subst hn
  have e4 : Xi B 904 164 = Xi A 904 164 := G.x 904 164 rfl
  have j5 : ∀ j, Xj B 995 j = Xj A 995 j := fun j => (G.cx 995 rfl j).2
  unfold ISO7 ISC at o ⊢
  simp only [e4, j5]
  exact o
theorem mmi_n {S A B : sS} {y v z : Int} (h : MMI S A y v) (h0 : 0 ≤ v) (F : FR [(904, 905, 165, 166)] A B) (f : FQO A B z v) (hz : z = 0) : MMI S B y (v + 1) := by
  subst hz
  obtain ⟨W, h1, h2, h3, h4⟩ := h
  refine ⟨W, h1, h2, h3.tr F rfl, fun j hj n => ?_⟩
  by_cases q : (j : Int) < v
  · exact h4 j q n
  · have u := f.2 rfl n
    rw [← (show (j : Int) = v by omega), show ((j : Int)).toNat = j from Int.toNat_natCast j] at u
    exact fun x => u ((fqn_f h3).2 x)
theorem mcm_e {S A : sS} {y v : Int} (h : MMI S A y v) (hy : y = 0 ∨ y = 1) (e : y = 0 ∨ Xi A 904 55 ≤ v) : MCM S A (-2) := by
  obtain ⟨W, h1, h2, h3, h4⟩ := h
  have e3 : Xi A 904 55 = Xi W 904 55 := h3.x 904 55 rfl
  exact ⟨W, y, hy, h1, h2, Or.inl ⟨rfl, h3, e.imp id (fun q j hj => h4 j (by omega))⟩⟩
theorem mcm_y {S A B T : sS} {y v z x : Int} (h : MMI S A y v) (hy : y = 1) (h0 : 0 ≤ v) (hv : v < Xi A 904 55) (F : FR [(904, 905, 165, 166)] A B) (f : FQO A B x v) (hx : x = 1) (t : ATX B T (Xi B 946 v.toNat) (Xi B 904 165) z) : MCM S T z := by
  subst hx
  obtain ⟨W, h1, h2, h3, h4⟩ := h
  have e3 : Xi A 904 55 = Xi W 904 55 := h3.x 904 55 rfl
  obtain ⟨i, rfl⟩ : ∃ i : Nat, (i : Int) = v := ⟨v.toNat, by omega⟩
  have e1 : ((i : Int)).toNat = i := Int.toNat_natCast i
  have u := f.1 rfl
  rw [e1] at u t
  exact ⟨W, y, Or.inr hy, h1, h2, Or.inr ⟨hy, i, B, by omega, fun j hj => h4 j (by omega), h3.tr F rfl, (fqn_f h3).1 u, t⟩⟩
/-- what the rows ask for -/
def FPC (S : sS) (i : Int) : Prop := (0 ≤ Xi S 1 3 ∧ Xi S 1 3 ≤ 200) ∧ CEN S ∧ (Xi S 885 i.toNat = -1 ∨ (0 ≤ Xi S 885 i.toNat ∧ Xi S 885 i.toNat < Xi S 884 i.toNat)) ∧ (0 ≤ Xi S 882 12 ∧ Xi S 882 12 ≤ 50) ∧ (0 ≤ Xi S 884 i.toNat ∧ Xi S 884 i.toNat ≤ 8)
def CPQ (S : sS) : Prop := (0 ≤ Xi S 1 3 ∧ Xi S 1 3 ≤ 200) ∧ CEN S ∧ ∀ i : Nat, (i : Int) < Xi S 882 3 → (Xi S 885 i = -1 ∨ (0 ≤ Xi S 885 i ∧ Xi S 885 i < Xi S 884 i)) ∧ (0 ≤ Xi S 884 i ∧ Xi S 884 i ≤ 8)
def FQP (S : sS) (c : Int) : Prop := (0 ≤ Xi S 904 164 ∧ Xi S 904 164 ≤ 50) ∧ (0 ≤ Xi S 947 c.toNat ∧ Xi S 947 c.toNat ≤ 8)
theorem cpq_f {l : List rec} {S T : sS} (F : FR l S T) (e : kepC l [(3, 5), (884, 886)] [(1, 3), (882, 3)] = true) (h : CPQ S) : CPQ T := by
  have k : KEP [(3, 5), (884, 886)] [(1, 3), (882, 3)] S T := F.kep e
  obtain ⟨h1, h2, h3⟩ := h
  unfold CPQ CEN
  rw [k.f 1 3 (by decide), k.f 882 3 (by decide)]
  refine ⟨h1, fun i hi => by rw [k.x 3 rfl, k.x 4 rfl]; exact h2 i hi, fun i hi => ?_⟩
  rw [k.x 884 rfl, k.x 885 rfl]
  exact h3 i hi
theorem cmi_r {S A : sS} {ts : Nat} {v : Int} (h : CMI S A ts v) : 0 ≤ Xi A 882 12 ∧ Xi A 882 12 ≤ 50 := by
  obtain ⟨U, _, h2, h3, _⟩ := h
  rw [h3.x 882 12 rfl]
  exact tyc_r (h2.1 rfl)
theorem fpc_of {A : sS} {v : Int} (c : CPQ A) (r : 0 ≤ Xi A 882 12 ∧ Xi A 882 12 ≤ 50) (h0 : 0 ≤ v) (h : v < Xi A 882 3) : FPC A v := by
  have t := c.2.2 v.toNat (by omega)
  exact ⟨c.1, c.2.1, t.1, r, t.2⟩
theorem cmi_0 {S U : sS} {ts : Nat} {y : Int} (o : FR [(0, 1, 10, 11), (882, 883, 12, 13), (889, 890, 0, 100000)] S U ∧ TYO S U ts (Xi S 0 10) y) (hy : y = 1) : CMI S U ts 0 := by
  subst hy
  exact ⟨U, o.1, o.2, FR.rf, fun j hj => absurd hj (by omega)⟩
theorem cmc_f {S U : sS} {ts : Nat} {y : Int} (o : FR [(0, 1, 10, 11), (882, 883, 12, 13), (889, 890, 0, 100000)] S U ∧ TYO S U ts (Xi S 0 10) y) (hy : y = 0) : CMC S U ts (-2) := by
  subst hy
  exact ⟨U, 0, Or.inl rfl, o.1, o.2, Or.inl ⟨rfl, rfl, rfl⟩⟩
theorem mmi_r {S A : sS} {y v : Int} (h : MMI S A y v) (hy : y = 1) : 0 ≤ Xi A 904 164 ∧ Xi A 904 164 ≤ 50 := by
  subst hy
  obtain ⟨B, _, h2, h3, _⟩ := h
  obtain ⟨L, _, l2, l3, _⟩ := h2.1 rfl
  rw [h3.x 904 164 rfl]
  omega
theorem hi_b5 {S : sS} (h : HI S) : BYT S 905 := fun j => h.c 905 j
theorem byt_tp {S : sS} {t : Nat} (h : HI S) (ht : tp t) : BYT S t := fun j => by
  rcases ht with e | e <;> subst e
  · exact h.c 902 j
  · exact h.c 903 j

def md_co_takeTyped__b : List rec := [(882, 883, 12, 13), (889, 890, 0, 100000)]
abbrev Q_co_takeTyped__b (S : sS) (t : Nat) (length : Int) : pst := fun r S1 => HI S1 ∧ FR md_co_takeTyped__b S S1 ∧ (∃ z : Int, r = some (iv z) ∧ (0 ≤ z ∧ z ≤ 1) ∧ (BYT S t → TYO S S1 t length z))
theorem t_co_takeTyped__b {S : sS} (hH : HI S) (t : Nat) (length : Int) (ht : tp t) (hlength : 0 ≤ length ∧ length ≤ 5000) (d : Nat) : Mt lay0 (d + 3) m_co_takeTyped [.ref 882, .ref t, iv length] S (Q_co_takeTyped__b S t length) := by
  refine Mt_m (Mt_i (P := BYT S t) (t_co_takeTyped hH t length ht hlength d) (fun hp => t_co_takeTyped__p hH.1 t length ht hlength hp d)) (fun r S1 h => ?_)
  obtain ⟨⟨h1, h2, z, e, rz⟩, g0⟩ := h
  have G0 : BYT S t → TYO S S1 t length z := fun hp => by
    obtain ⟨_, fr, z2, e2, rz2, q0⟩ := g0 hp
    have ez : z2 = z := iv_i (e2.symm.trans e) (by unfold rg; omega) (by unfold rg; omega)
    subst ez
    exact q0
  exact ⟨h1, h2, z, e, rz, G0⟩

def md_co_fits__b : List rec := [(882, 883, 13, 14)]
abbrev Q_co_fits__b (S : sS) (i : Int) : pst := fun r S1 => HI S1 ∧ FR md_co_fits__b S S1 ∧ (∃ z : Int, r = some (iv z) ∧ (0 ≤ z ∧ z ≤ 1) ∧ (z = 1 → (Xi S 885 i.toNat = -1 → Xi S1 882 13 = -1) ∧ (Xi S 885 i.toNat ≠ -1 → 0 ≤ Xi S1 882 13 ∧ Xi S1 882 13 ≤ 23 ∧ (Xi S 886 i.toNat = -2 → Xi S1 882 13 ≤ 5))) ∧ (FPC S i → FTC S S1 z i))
theorem t_co_fits__b {S : sS} (hH : HI S) (i : Int) (hi : 0 ≤ i ∧ i ≤ 19) (hL : LEX S) (d : Nat) : Mt lay0 (d + 4) m_co_fits [.ref 882, iv i] S (Q_co_fits__b S i) := by
  refine Mt_m (Mt_i (P := FPC S i) (t_co_fits hH i hi hL d) (fun hp => t_co_fits__p hH.1 i hi hp.1 hp.2.1 hp.2.2.1 hp.2.2.2.1 hp.2.2.2.2 d)) (fun r S1 h => ?_)
  obtain ⟨⟨h1, h2, z, e, rz, p0⟩, g0⟩ := h
  have G0 : FPC S i → FTC S S1 z i := fun hp => by
    obtain ⟨_, fr, z2, e2, rz2, q0⟩ := g0 hp
    have ez : z2 = z := iv_i (e2.symm.trans e) (by unfold rg; omega) (by unfold rg; omega)
    subst ez
    exact q0
  exact ⟨h1, h2, z, e, rz, p0, G0⟩

def md_mo_isSaid__b : List rec := [(904, 905, 164, 165), (995, 996, 0, 100000)]
abbrev Q_mo_isSaid__b (S : sS) : pst := fun r S1 => HI S1 ∧ FR md_mo_isSaid__b S S1 ∧ (∃ z : Int, r = some (iv z) ∧ (0 ≤ z ∧ z ≤ 1) ∧ (True → ISO7 S S1 (Xi S 904 1) z))
theorem t_mo_isSaid__b {S : sS} (hH : HI S) (d : Nat) : Mt lay0 (d + 4) m_mo_isSaid [.ref 904] S (Q_mo_isSaid__b S) := by
  refine Mt_m (Mt_i (P := True) (t_mo_isSaid hH d) (fun hp => t_mo_isSaid__p hH.1 (hi_b5 hH) (hH.c 904 1) d)) (fun r S1 h => ?_)
  obtain ⟨⟨h1, h2, z, e, rz⟩, g0⟩ := h
  have G0 : True → ISO7 S S1 (Xi S 904 1) z := fun hp => by
    obtain ⟨_, fr, z2, e2, rz2, q0⟩ := g0 hp
    have ez : z2 = z := iv_i (e2.symm.trans e) (by unfold rg; omega) (by unfold rg; omega)
    subst ez
    exact q0
  exact ⟨h1, h2, z, e, rz, G0⟩

def md_mo_fitsCommand__b : List rec := [(904, 905, 165, 166)]
abbrev Q_mo_fitsCommand__b (S : sS) (c : Int) : pst := fun r S1 => HI S1 ∧ FR md_mo_fitsCommand__b S S1 ∧ (∃ z : Int, r = some (iv z) ∧ (0 ≤ z ∧ z ≤ 1) ∧ (FQP S c → FQO S S1 z c))
theorem t_mo_fitsCommand__b {S : sS} (hH : HI S) (c : Int) (hc : 0 ≤ c ∧ c ≤ 19) (hM : LXM S) (hB : ABV S) (d : Nat) : Mt lay0 (d + 2) m_mo_fitsCommand [.ref 904, iv c] S (Q_mo_fitsCommand__b S c) := by
  refine Mt_m (Mt_i (P := FQP S c) (t_mo_fitsCommand hH c hc hM hB d) (fun hp => t_mo_fitsCommand__p hH.1 c hc (by have t := hH.c 904 15; exact t.1) (hi_ls hH) hB (hi_kx hH) hp.1 hp.2 d)) (fun r S1 h => ?_)
  obtain ⟨⟨h1, h2, z, e, rz⟩, g0⟩ := h
  have G0 : FQP S c → FQO S S1 z c := fun hp => by
    obtain ⟨_, fr, z2, e2, rz2, q0⟩ := g0 hp
    have ez : z2 = z := iv_i (e2.symm.trans e) (by unfold rg; omega) (by unfold rg; omega)
    subst ez
    exact q0
  exact ⟨h1, h2, z, e, rz, G0⟩

def md_rs_command__q : List rec := [(0, 1, 10, 11), (22, 23, 0, 100000), (23, 24, 0, 100000), (25, 65, 0, 100000), (66, 106, 0, 100000), (107, 147, 0, 100000), (148, 188, 0, 100000), (189, 195, 0, 100000), (882, 883, 12, 13), (882, 883, 13, 14), (889, 890, 0, 100000), (900, 901, 4, 5), (900, 901, 5, 6), (900, 901, 6, 7), (901, 902, 0, 100000), (997, 1005, 0, 100000), (1006, 1014, 0, 100000)]
abbrev Q_rs_command__q (S : sS) (ts : Nat) : pst := fun r S1 => HI S1 ∧ FR md_rs_command__q S S1 ∧ (∃ z : Int, r = some (iv z) ∧ (-2 ≤ z ∧ z ≤ 5) ∧ (TX S1) ∧ (Xi S1 0 10 = 0) ∧ (CMC S S1 ts z))
set_option maxRecDepth 100000 in
theorem t_rs_command__q {S : sS} (hH : HI S) (ts : Nat) (hX : TX S) (hD : DEF S) (hR : RUL S) (hO : ORD S) (hA : AK S) (hL : LEX S) (hC : CMD S) (cw : CW S) (h8 : S.2.2 0 8 = some ts) (htp : tp ts) (hcq : CPQ S) (d : Nat) : Mt lay0 (d + 58) m_rs_command [.ref 0] S (Q_rs_command__q S ts) := by
  refine Mt_R rfl rfl ?_
  have hF : FR md_rs_command__q S S := FR.rf
  have w1 : 0 ≤ Xi S 0 10 ∧ Xi S 0 10 ≤ 5000 := hH.c _ _
  have C25 : ∀ (n25 : Nat) (T1 : sS) (_ : HI T1) (_ : FR md_rs_command__q S T1) (v2 : Int), (0 ≤ v2 ∧ v2 ≤ 20) → (TX T1) → (DEF T1) → (RUL T1) → (ORD T1) → (AK T1) → (LEX T1) → (CMD T1) → (Xi T1 0 10 = 0) → (Hid (CMI S T1 ts v2)) → n25 = (21 - v2).toNat → Rl lay0 (d + 57) m_rs_command 25 [(0, .ref 0), (2, iv v2)] [] T1 (Q_rs_command__q S ts) := by
    intro n25
    induction n25 using Nat.strongRecOn with
    | ind n25 ih25 =>
      intro T1 hHT1 hFT1 v2 w2 hX25 hD25 hR25 hO25 hA25 hL25 hC25 w3 Q25 hm25
      have w4 : 0 ≤ Xi T1 0 10 ∧ Xi T1 0 10 ≤ 5000 := hHT1.c _ _
      refine l_iload_n rfl rfl ?_
      refine l_aload_n rfl rfl ?_
      refine l_gfr rfl rfl rfl rfl rfl (hHT1.r 0 3 882 rfl) ?_
      refine l_gfi rfl rfl rfl rfl rfl ?_
      have w5 : 0 ≤ (Xi T1 882 3) ∧ (Xi T1 882 3) ≤ 20 := hHT1.c _ _
      refine l_icmp_ge rfl rfl (by unfold rg; omega) (by unfold rg; omega) (fun w6 => ?_) (fun w7 => ?_)
      · refine l_bipush rfl rfl ?_
        have K77 : True := trivial
        refine l_ireturn rfl rfl ?_
        exact ⟨hHT1, hFT1, _, rfl, ⟨by omega, by omega⟩, (by first | assumption | exact (by first | assumption | exact (by assumption : WI T1).2.1 : TX T1)), (by omega), (by first | (have u := K67; exact cmc_y Q25.o (by omega) (by omega) G41 F41 (by omega) e67) | (have u := K77; exact cmc_e Q25.o (by omega)) | exact cmc_f O14 (by omega))⟩
      · refine l_aload_n rfl rfl ?_
        refine l_gfr rfl rfl rfl rfl rfl (hHT1.r 0 3 882 rfl) ?_
        refine l_iload_n rfl rfl ?_
        refine l_callV rfl rfl rfl (t_co_fits__b hHT1 v2 ⟨by omega, by omega⟩ (by first | assumption | exact (LEX_FR hFT1 rfl rfl (by assumption : LEX S))) _) ?_
        rintro _ T2 ⟨hHT2, w12, z11, rfl, w11, w10, f41⟩
        have hFT2 : FR md_rs_command__q S T2 := FR.tr hFT1 w12 rfl
        show Rl _ _ _ _ _ [iv z11] _ _
        have hcm := (by assumption : CMD T1) v2.toNat (by omega)
        have h19 : ∀ j, Xi T2 19 j = Xi T1 19 j := fun j => ((by assumption : FR md_co_fits T1 T2).cx 19 rfl j).1
        have h883 : ∀ j, Xi T2 883 j = Xi T1 883 j := fun j => ((by assumption : FR md_co_fits T1 T2).cx 883 rfl j).1
        rw [← h883, ← h19] at hcm
        have G41 : FR [(882, 883, 13, 14)] T1 T2 := by assumption
        have F41 : FTC T1 T2 z11 v2 := f41 (fpc_of (cpq_f hFT1 rfl hcq) (cmi_r Q25.o) (by omega) (by omega))
        refine l_if_eq rfl rfl (by unfold rg; omega) (fun w13 => ?_) (fun w14 => ?_)
        · refine l_iinc rfl rfl rfl rfl ?_
          have Q71 : Hid (CMI S T2 ts (v2 + 1)) := cmi_n Q25.o (by omega) G41 F41 (by omega)
          refine l_goto rfl rfl ?_
          have w15 : Xi T2 0 10 = Xi T1 0 10 := (show Xi T2 0 10 = Xi T1 0 10 from w12.x _ _ rfl)
          exact Rl_weak (ih25 _ (by omega) T2 hHT2 hFT2 ((v2 + 1)) (by omega) (by first | assumption | exact (TX_FR w12 rfl (by first | assumption | exact (by assumption : WI T1).2.1 : TX T1))) (by first | assumption | exact (DEF_FR hH hFT2 rfl rfl (by assumption : DEF S))) (by first | assumption | exact (RUL_FR hH hFT2 rfl rfl (by assumption : RUL S))) (by first | assumption | exact (ORD_FR hFT2 rfl (by assumption : ORD S))) (by first | assumption | exact (AK_FR hFT2 rfl (by assumption : AK S))) (by first | assumption | exact (LEX_FR hFT2 rfl rfl (by assumption : LEX S))) (by first | assumption | exact (CMD_FR hFT2 rfl (by assumption : CMD S))) (by omega) (by first | exact Q71 | exact Q23) rfl) (And.intro rfl (And.intro rfl (True.intro)))
        · refine l_aload_n rfl rfl ?_
          refine l_gfr rfl rfl rfl rfl rfl (hHT2.r 0 7 900 rfl) ?_
          refine l_aload_n rfl rfl ?_
          refine l_gfr rfl rfl rfl rfl rfl (hHT2.r 0 3 882 rfl) ?_
          refine l_gfr rfl rfl rfl rfl rfl (hHT2.r 882 4 883 rfl) ?_
          refine l_iload_n rfl rfl ?_
          refine l_iaload (n := 20) rfl rfl (by omega) (by omega) (by unfold rg; omega) ?_
          have w17 : 0 ≤ (Xi T2 883 ((v2).toNat)) ∧ (Xi T2 883 ((v2).toNat)) ≤ 11 := hHT2.c _ _
          refine l_aload_n rfl rfl ?_
          refine l_gfr rfl rfl rfl rfl rfl (hHT2.r 0 3 882 rfl) ?_
          refine l_gfi rfl rfl rfl rfl rfl ?_
          have w18 : -1 ≤ (Xi T2 882 13) ∧ (Xi T2 882 13) ≤ 255 := hHT2.c _ _
          refine l_callV rfl rfl rfl (t_tu_takeTurn__w hHT2 (Xi T2 883 ((v2).toNat)) (Xi T2 882 13) ⟨by omega, by omega⟩ ⟨by omega, by omega⟩ (by first | assumption | omega) (by first | assumption | omega) (by first | assumption | exact (TX_FR w12 rfl (by first | assumption | exact (by assumption : WI T1).2.1 : TX T1))) (by first | assumption | exact (DEF_FR hH hFT2 rfl rfl (by assumption : DEF S))) (by first | assumption | exact (RUL_FR hH hFT2 rfl rfl (by assumption : RUL S))) (by first | assumption | exact (ORD_FR hFT2 rfl (by assumption : ORD S))) (by first | assumption | exact (AK_FR hFT2 rfl (by assumption : AK S))) (CW_FR hFT2 rfl rfl cw) _) ?_
          rintro _ T3 ⟨hHT3, w23, z22, rfl, w22, w21, e67⟩
          have hFT3 : FR md_rs_command__q S T3 := FR.tr hFT2 w23 rfl
          show Rl _ _ _ _ _ [iv z22] _ _
          have K67 : True := trivial
          refine l_ireturn rfl rfl ?_
          have w24 : Xi T3 0 10 = Xi T1 0 10 := (show Xi T3 0 10 = Xi T2 0 10 from w23.x _ _ rfl).trans ((show Xi T2 0 10 = Xi T1 0 10 from w12.x _ _ rfl))
          exact ⟨hHT3, hFT3, _, rfl, ⟨by omega, by omega⟩, (by first | assumption | exact (by first | assumption | exact (by assumption : WI T3).2.1 : TX T3)), (by omega), (by first | (have u := K67; exact cmc_y Q25.o (by omega) (by omega) G41 F41 (by omega) e67) | (have u := K77; exact cmc_e Q25.o (by omega)) | exact cmc_f O14 (by omega))⟩
  refine l_aload_n rfl rfl ?_
  refine l_callV rfl rfl rfl (t_rs_wipe hH _) ?_
  rintro _ T4 ⟨hHT4, w29, z28, rfl, w28, w27⟩
  have hFT4 : FR md_rs_command__q S T4 := FR.tr hF w29 rfl
  show Rl _ _ _ _ _ [iv z28] _ _
  refine l_istore_n rfl rfl rfl ?_
  refine l_aload_n rfl rfl ?_
  refine l_gfr rfl rfl rfl rfl rfl (hHT4.r 0 3 882 rfl) ?_
  refine l_aload_n rfl rfl ?_
  refine l_gfr rfl rfl rfl rfl rfl ((w29 0 8 rfl).2.2.trans h8) ?_
  refine l_iload_n rfl rfl ?_
  have w31 : 0 ≤ Xi T4 0 10 ∧ Xi T4 0 10 ≤ 5000 := hHT4.c _ _
  refine l_callV rfl rfl rfl (t_co_takeTyped__b hHT4 ts z28 htp ⟨by omega, by omega⟩ _) ?_
  rintro _ T5 ⟨hHT5, w33, z32, rfl, w32, f14⟩
  have hFT5 : FR md_rs_command__q S T5 := FR.tr hFT4 w33 rfl
  show Rl _ _ _ _ _ [iv z32] _ _
  have O14 := cmc_0 (S := S) (W := T4) (U := T5) (y := z32) htp (by assumption) (by assumption) (by omega) (f14 (byt_tp hHT4 htp))
  refine l_if_ne rfl rfl (by unfold rg; omega) (fun w34 => ?_) (fun w35 => ?_)
  · refine l_iconst rfl ?_
    have Q23 : Hid (CMI S T5 ts 0) := cmi_0 O14 (by omega)
    refine l_istore_n rfl rfl rfl ?_
    have w36 : Xi T5 0 10 = Xi T4 0 10 := (show Xi T5 0 10 = Xi T4 0 10 from w33.x _ _ rfl)
    exact Rl_weak (C25 _ T5 hHT5 hFT5 (0) (by omega) (by first | assumption | exact (TX_FR w33 rfl (TX_FR w29 rfl (by first | assumption | exact (by assumption : WI S).2.1 : TX S)))) (by first | assumption | exact (DEF_FR hH hFT5 rfl rfl (by assumption : DEF S))) (by first | assumption | exact (RUL_FR hH hFT5 rfl rfl (by assumption : RUL S))) (by first | assumption | exact (ORD_FR hFT5 rfl (by assumption : ORD S))) (by first | assumption | exact (AK_FR hFT5 rfl (by assumption : AK S))) (by first | assumption | exact (LEX_FR hFT5 rfl rfl (by assumption : LEX S))) (by first | assumption | exact (CMD_FR hFT5 rfl (by assumption : CMD S))) (by omega) (by first | exact Q71 | exact Q23) rfl) (And.intro rfl (And.intro rfl (True.intro)))
  · refine l_bipush rfl rfl ?_
    refine l_ireturn rfl rfl ?_
    have w38 : Xi T5 0 10 = Xi T4 0 10 := (show Xi T5 0 10 = Xi T4 0 10 from w33.x _ _ rfl)
    exact ⟨hHT5, hFT5, _, rfl, ⟨by omega, by omega⟩, (by first | assumption | exact (TX_FR w33 rfl (TX_FR w29 rfl (by first | assumption | exact (by assumption : WI S).2.1 : TX S)))), (by omega), (by first | (have u := K67; exact cmc_y Q25.o (by omega) (by omega) G41 F41 (by omega) e67) | (have u := K77; exact cmc_e Q25.o (by omega)) | exact cmc_f O14 (by omega))⟩
def md_mo_command__q : List rec := [(904, 905, 1, 2), (904, 905, 154, 155), (904, 905, 156, 157), (904, 905, 158, 159), (904, 905, 160, 161), (904, 905, 161, 162), (904, 905, 162, 163), (904, 905, 164, 165), (904, 905, 165, 166), (919, 920, 0, 100000), (920, 921, 0, 100000), (925, 926, 0, 100000), (930, 931, 0, 100000), (931, 932, 0, 100000), (932, 933, 0, 100000), (940, 941, 0, 100000), (993, 994, 0, 100000), (994, 995, 0, 100000), (995, 996, 0, 100000)]
abbrev Q_mo_command__q (S : sS) : pst := fun r S1 => HI S1 ∧ FR md_mo_command__q S S1 ∧ (∃ z : Int, r = some (iv z) ∧ (-2 ≤ z ∧ z ≤ 5) ∧ (TXM S1) ∧ (WYM S1) ∧ (Xi S1 904 1 = 0) ∧ (MCM S S1 z))
set_option maxRecDepth 100000 in
theorem t_mo_command__q {S : sS} (hH : HI S) (hX : TXM S) (hD : DEFM S) (hR : RULM S) (hB : ABV S) (hM : LXM S) (hW : WYM S) (hA : AKR S) (hnw : NMWD S) (hdy : DR0 S) (h7 : ∀ c : Nat, (c : Int) < Xi S 904 55 → 0 ≤ Xi S 947 c ∧ Xi S 947 c ≤ 8) (d : Nat) : Mt lay0 (d + 58) m_mo_command [.ref 904] S (Q_mo_command__q S) := by
  refine Mt_R rfl rfl ?_
  have hF : FR md_mo_command__q S S := FR.rf
  have w1 : 0 ≤ Xi S 904 1 ∧ Xi S 904 1 ≤ 5000 := hH.c _ _
  have w2 : 0 ≤ Xi S 904 55 ∧ Xi S 904 55 ≤ 20 := hH.c _ _
  have C12 : ∀ (n12 : Nat) (T1 : sS) (_ : HI T1) (_ : FR md_mo_command__q S T1) (v1 : Int) (v2 : Int), (0 ≤ v1 ∧ v1 ≤ 1) → (0 ≤ v2 ∧ v2 ≤ 20) → (TXM T1) → (WYM T1) → (Xi T1 904 1 = 0) → (Hid (MMI S T1 v1 v2)) → n12 = (21 - v2).toNat → Rl lay0 (d + 57) m_mo_command 12 [(0, .ref 904), (1, iv v1), (2, iv v2)] [] T1 (Q_mo_command__q S) := by
    intro n12
    induction n12 using Nat.strongRecOn with
    | ind n12 ih12 =>
      intro T1 hHT1 hFT1 v1 v2 w3 w4 hX12 hW12 w5 M12 hm12
      have w6 : Xi T1 904 55 = Xi S 904 55 := hFT1.x _ _ rfl
      have w7 : 0 ≤ Xi T1 904 1 ∧ Xi T1 904 1 ≤ 5000 := hHT1.c _ _
      refine l_iload_n rfl rfl ?_
      refine l_aload_n rfl rfl ?_
      refine l_gfi rfl rfl rfl rfl rfl ?_
      refine l_icmp_ge rfl rfl (by unfold rg; omega) (by unfold rg; omega) (fun w8 => ?_) (fun w9 => ?_)
      · refine l_bipush rfl rfl ?_
        refine l_ireturn rfl rfl ?_
        exact ⟨hHT1, hFT1, _, rfl, ⟨by omega, by omega⟩, (by first | assumption | exact (by assumption : TXM T1)), (by first | assumption | exact (by assumption : WYM T1)), (by omega), (by first | (have u := K43; exact mcm_y M12.o (by omega) (by omega) (by omega) G26 F26 (by omega) e43) | exact mcm_e M12.o (by omega) (by omega))⟩
      · refine l_iload_n rfl rfl ?_
        refine l_if_eq rfl rfl (by unfold rg; omega) (fun w11 => ?_) (fun w12 => ?_)
        · refine l_bipush rfl rfl ?_
          refine l_ireturn rfl rfl ?_
          exact ⟨hHT1, hFT1, _, rfl, ⟨by omega, by omega⟩, (by first | assumption | exact (by assumption : TXM T1)), (by first | assumption | exact (by assumption : WYM T1)), (by omega), (by first | (have u := K43; exact mcm_y M12.o (by omega) (by omega) (by omega) G26 F26 (by omega) e43) | exact mcm_e M12.o (by omega) (by omega))⟩
        · refine l_aload_n rfl rfl ?_
          refine l_iload_n rfl rfl ?_
          refine l_callV rfl rfl rfl (t_mo_fitsCommand__b hHT1 v2 ⟨by omega, by omega⟩ (by first | assumption | exact (LXM_FR hFT1 rfl (by assumption : LXM S))) (by first | assumption | exact (ABV_FR hFT1 rfl (by assumption : ABV S))) _) ?_
          rintro _ T2 ⟨hHT2, w16, z15, rfl, w15, f26⟩
          have hFT2 : FR md_mo_command__q S T2 := FR.tr hFT1 w16 rfl
          show Rl _ _ _ _ _ [iv z15] _ _
          have G26 : FR [(904, 905, 165, 166)] T1 T2 := by assumption
          have e55 : Xi T1 904 55 = Xi S 904 55 := hFT1.x 904 55 rfl
          have e47 : Xi T1 947 (v2).toNat = Xi S 947 (v2).toNat := (hFT1.cx 947 rfl _).1
          have F26 : FQO T1 T2 z15 v2 := f26 ⟨mmi_r M12.o (by omega), by rw [e47]; exact h7 (v2).toNat (by omega)⟩
          refine l_if_eq rfl rfl (by unfold rg; omega) (fun w17 => ?_) (fun w18 => ?_)
          · refine l_iinc rfl rfl rfl rfl ?_
            have M47 : Hid (MMI S T2 v1 (v2 + 1)) := mmi_n M12.o (by omega) G26 F26 (by omega)
            refine l_goto rfl rfl ?_
            have w19 : Xi T2 904 1 = Xi T1 904 1 := (show Xi T2 904 1 = Xi T1 904 1 from w16.x _ _ rfl)
            exact Rl_weak (ih12 _ (by omega) T2 hHT2 hFT2 (v1) ((v2 + 1)) (by omega) (by omega) (by first | assumption | exact (TXM_FR w16 rfl (by assumption : TXM T1))) (by first | assumption | exact (WYM_FR w16 rfl (by assumption : WYM T1))) (by omega) (by first | exact M47 | exact M7) rfl) (And.intro rfl (And.intro rfl (And.intro rfl (True.intro))))
          · refine l_aload_n rfl rfl ?_
            refine l_aload_n rfl rfl ?_
            refine l_gfr rfl rfl rfl rfl rfl (hHT2.r 904 56 946 rfl) ?_
            refine l_iload_n rfl rfl ?_
            refine l_iaload (n := 20) rfl rfl (by omega) (by omega) (by unfold rg; omega) ?_
            have w21 : 0 ≤ (Xi T2 946 ((v2).toNat)) ∧ (Xi T2 946 ((v2).toNat)) ≤ 11 := hHT2.c _ _
            refine l_aload_n rfl rfl ?_
            refine l_gfi rfl rfl rfl rfl rfl ?_
            have w22 : -1 ≤ (Xi T2 904 165) ∧ (Xi T2 904 165) ≤ 23 := hHT2.c _ _
            refine l_callV rfl rfl rfl (t_mo_act__s hHT2 (Xi T2 946 ((v2).toNat)) (Xi T2 904 165) ⟨by omega, by omega⟩ ⟨by omega, by omega⟩ (by first | assumption | exact (TXM_FR w16 rfl (by assumption : TXM T1))) (by first | assumption | exact (DEFM_FR hFT2 rfl (by assumption : DEFM S))) (by first | assumption | exact (RULM_FR hFT2 rfl (by assumption : RULM S))) (by first | assumption | exact (ABV_FR hFT2 rfl (by assumption : ABV S))) (by first | assumption | exact (LXM_FR hFT2 rfl (by assumption : LXM S))) (by first | assumption | exact (WYM_FR w16 rfl (by assumption : WYM T1))) (by first | assumption | exact (AKR_FR hFT2 rfl (by assumption : AKR S))) (by first | assumption | exact (NMWD_FR hFT2 rfl (by assumption : NMWD S))) (by first | assumption | exact (DR0_FR hFT2 rfl (by assumption : DR0 S))) _) ?_
            rintro _ T3 ⟨hHT3, w28, z27, rfl, w27, w25, w26, e43⟩
            have hFT3 : FR md_mo_command__q S T3 := FR.tr hFT2 w28 rfl
            show Rl _ _ _ _ _ [iv z27] _ _
            have K43 : True := trivial
            refine l_ireturn rfl rfl ?_
            have w29 : Xi T3 904 1 = Xi T1 904 1 := (show Xi T3 904 1 = Xi T2 904 1 from w28.x _ _ rfl).trans ((show Xi T2 904 1 = Xi T1 904 1 from w16.x _ _ rfl))
            exact ⟨hHT3, hFT3, _, rfl, ⟨by omega, by omega⟩, (by first | assumption | exact (by assumption : TXM T3)), (by first | assumption | exact (by assumption : WYM T3)), (by omega), (by first | (have u := K43; exact mcm_y M12.o (by omega) (by omega) (by omega) G26 F26 (by omega) e43) | exact mcm_e M12.o (by omega) (by omega))⟩
  refine l_aload_n rfl rfl ?_
  refine l_callV rfl rfl rfl (t_mo_isSaid__b hH _) ?_
  rintro _ T4 ⟨hHT4, w33, z32, rfl, w32, f1⟩
  have hFT4 : FR md_mo_command__q S T4 := FR.tr hF w33 rfl
  show Rl _ _ _ _ _ [iv z32] _ _
  have O1 := f1 trivial
  have G1 : FR [(904, 905, 164, 165), (995, 996, 0, 100000)] S T4 := by assumption
  refine l_istore_n rfl rfl rfl ?_
  refine l_aload_n rfl rfl ?_
  refine l_iconst rfl ?_
  refine l_pfi rfl rfl rfl rfl ?_
  obtain ⟨U5, eU5⟩ : ∃ T : sS, T = uI T4 904 1 (Int32.ofInt 0) := ⟨_, rfl⟩
  rw [← eU5]
  have hHU5 : HI U5 := by rw [eU5]; exact HI_w hHT4 (show 0 ≤ 0 by omega) (show 0 ≤ 5000 by omega)
  have hFU5 : FR md_mo_command__q S U5 := by rw [eU5]; exact FR.wI hFT4 (mdf_i (r := (904, 905, 1, 2)) (List.mem_of_getElem? (i := 0) rfl) (inR_i (by omega) (by omega) (by omega) (by omega)))
  have w34 : Xi U5 904 1 = 0 := by rw [eU5]; exact Xi_same (by unfold rg; omega)
  have M7 : Hid (MMI S U5 z32 0) := mmi_0 G1 O1 rfl eU5
  refine l_iconst rfl ?_
  refine l_istore_n rfl rfl rfl ?_
  have w35 : 0 ≤ Xi U5 904 1 ∧ Xi U5 904 1 ≤ 5000 := hHU5.c _ _
  exact Rl_weak (C12 _ U5 hHU5 hFU5 (z32) (0) (by omega) (by omega) (by first | assumption | exact (TXM_FR (FR_e eU5) rfl (TXM_FR w33 rfl (by assumption : TXM S)))) (by first | assumption | exact (WYM_FR (FR_e eU5) rfl (WYM_FR w33 rfl (by assumption : WYM S)))) (by omega) (by first | exact M47 | exact M7) rfl) (And.intro rfl (And.intro rfl (And.intro rfl (True.intro))))
/-! COMMANDS: alike in both -/
theorem rtb_k {U V S T : sS} (h : RTB U S) (k : KEP [(2, 20), (21, 24), (25, 65), (66, 106), (107, 147), (148, 188), (189, 195), (196, 220), (221, 876), (883, 888), (901, 904)] [(1, 3), (20, 1), (20, 12), (882, 3), (900, 4)] U V) (q : KEP [(906, 907), (911, 950), (969, 988), (993, 994)] [(904, 15), (904, 16), (904, 18), (904, 19), (904, 23), (904, 30), (904, 32), (904, 41), (904, 47), (904, 49), (904, 51), (904, 55), (904, 117), (904, 125), (904, 130), (904, 156), (904, 157)] S T) : RTB V T := by
  obtain ⟨h1, h2, h3, h4⟩ := h
  have u4 : Xi V 900 4 = Xi U 900 4 := k.f 900 4 (by decide)
  have s6 : Xi T 904 156 = Xi S 904 156 := q.f 904 156 (by decide)
  refine ⟨rlb_z h1 (k.le rfl (by decide)) (q.le rfl (by decide)), ⟨by rw [u4, s6]; exact h2.1, fun j hj => ?_⟩, by rw [q.f 904 157 (by decide)]; exact h3, h4.k (k.le rfl (by decide)) (q.le rfl (by decide))⟩
  rw [u4] at hj
  rw [k.x 901 rfl, q.x 993 rfl]; exact h2.2 j hj
/-- what fits is a turn that is taken -/
theorem good_fit {U S : sS} {i : Nat} (h : RLB U S) (hB : ABV S) (h19 : ∀ j : Nat, -2 ≤ Xi U 19 j) (hi : (i : Int) < Xi U 882 3) (f : FTR U i) : GOODC U (Xi U 883 i) (if Xi U 885 i = -1 then -1 else mt7 U i % 256) := by
  obtain ⟨⟨⟨_, _, ce, _, _⟩, wc, ct, kn, _, _, _, _, _, ob, _⟩, _, ⟨_, cm⟩, _⟩ := h
  obtain ⟨c1, _, c3, _, ⟨c5, c6, c7, c8⟩, _⟩ := cm i hi
  have e1 : ((i : Int)).toNat = i := Int.toNat_natCast i
  obtain ⟨_, _, fg⟩ := f
  rw [e1] at fg
  refine ⟨c1.2, ?_⟩
  by_cases g : Xi U 885 i = -1
  · rw [if_pos g]
    exact Or.inl ⟨c6.2 (c5.1 g), rfl⟩
  · rw [if_neg g]
    obtain ⟨g1, g2⟩ := fg g
    by_cases d : Xi U 886 i = -2
    · have m := g1 d
      unfold mt7 mnR at m ⊢
      have r := mnf_d ce wc m
      exact Or.inr (Or.inl ⟨c7.2 d, r⟩)
    · obtain ⟨m, k⟩ := g2 d
      have r : 0 ≤ mt7 U i % 256 ∧ mt7 U i % 256 < Xi U 5 2 := by
        unfold mt7 mnR at m ⊢
        exact mnf_o ce wc m
      have n1 : Xi U 886 i ≠ -1 := fun q => g (c5.2 q)
      have n2 : Xi U 19 (Xi U 883 i).toNat ≠ -1 := fun q => n1 (c6.1 q)
      have n3 : Xi U 19 (Xi U 883 i).toNat ≠ -2 := fun q => d (c7.1 q)
      have n4 := h19 (Xi U 883 i).toNat
      have a0 : 0 ≤ Xi U 19 (Xi U 883 i).toNat := by omega
      refine Or.inr (Or.inr ⟨a0, r, ?_⟩)
      have o := ob.1.2 (mt7 U i % 256).toNat (by omega)
      rw [o.1] at k ⊢
      have k2 := c8 a0
      have k0 := kn.1
      rw [isK_bl kn o.2.2] at k ⊢
      rw [isK_bl kn c3.2.2] at k2
      exact bl_tr hB k2 15 _ (by omega) (by omega) (by rw [k]; decide)
/-- the words that are typed, what they mean -/
theorem command_sm {U T S R : sS} {ts : Nat} {z y : Int} (h : RTB U S) (hB : ABV S) (h19 : ∀ j : Nat, -2 ≤ Xi U 19 j) (e1 : Xi U 0 10 = Xi S 904 1) (n0 : 0 ≤ Xi U 0 10) (be : BE (Xi U ts) (Xi S 905) (Xi U 0 10)) (c : CMC U T ts z) (r : MCM S R y) : z = y ∧ RTB T R := by
  obtain ⟨V, yc, vy, FV, tc, c⟩ := c
  obtain ⟨B, yr, by_, FB, tr, r⟩ := r
  rw [← e1] at tr
  have hVB : RTB V B := rtb_k h (FV.kep rfl) (FB.kep rfl)
  have bq : RLQ V B := hVB.1.1
  have bB : ABV B := ABV_FR FB rfl hB
  have v19 : ∀ j : Nat, -2 ≤ Xi V 19 j := fun j => by rw [(FV.cx 19 rfl j).1]; exact h19 j
  obtain ⟨t1, t0⟩ := typ_s be n0 vy by_ tc tr
  obtain ⟨⟨cn, cn0, cn1⟩, cm⟩ := hVB.1.2.2.1
  rcases by_ with y0 | y1
  · -- a word that is no word
    have rr : y = -2 ∧ FR [(904, 905, 165, 166)] B R := by
      rcases r with ⟨r1, r2, _⟩ | ⟨r1, _⟩
      · exact ⟨r1, r2⟩
      · omega
    rcases c with ⟨c0, c1, c2⟩ | ⟨c0, c1, c2, _⟩ | ⟨c0, i, W, i1, i2, i3, _⟩
    · subst c2
      exact ⟨by rw [c1, rr.1], rtb_k hVB KEP.rf (rr.2.kep rfl)⟩
    · exact ⟨by rw [c1, rr.1], rtb_k hVB (c2.kep rfl) (rr.2.kep rfl)⟩
    · obtain ⟨k, k1, k2⟩ := t0 y0 c0
      exact absurd i3 (nof_f bq.1.1 (cm i i1) k1 k2)
  · obtain ⟨yc1, w1, w2⟩ := t1 y1
    have wal : WAL V B := ⟨w1, w2⟩
    have both : ∀ i : Nat, (i : Int) < Xi V 882 3 → (FTR V i ↔ ∃ n, FQN B i n) := fun i hi => ⟨fun f => ⟨_, fit_a bq wal (cm i hi) f⟩, fun ⟨n, q⟩ => fit_b bq wal (cm i hi) q⟩
    rcases c with ⟨c0, _⟩ | ⟨_, c1, c2, c3⟩ | ⟨_, i, W, i1, i2, i3, i4, i5, i6⟩
    · omega
    · rcases r with ⟨r1, r2, _⟩ | ⟨_, j, X, j1, _, _, j4, _⟩
      · exact ⟨by rw [c1, r1], rtb_k hVB (c2.kep rfl) (r2.kep rfl)⟩
      · exfalso
        have j1 : (j : Int) < Xi V 882 3 := by omega
        exact c3 j j1 ((both j j1).2 ⟨Xi X 904 165, j4⟩)
    · rcases r with ⟨_, _, r3⟩ | ⟨_, j, X, j1, j2, j3, j4, j5⟩
      · exfalso
        rcases r3 with r3 | r3
        · omega
        · obtain ⟨n, q⟩ := (both i i1).1 i3
          exact r3 i (by omega) n q
      · have ij : i = j := by
          by_cases a : i < j
          · obtain ⟨n, q⟩ := (both i i1).1 i3
            exact absurd q (j2 i a n)
          · by_cases b : j < i
            · exact absurd ((both j (by omega)).2 ⟨Xi X 904 165, j4⟩) (i2 j b)
            · omega
        subst ij
        have q := fit_a bq wal (cm i i1) i3
        have nn : Xi W 882 13 = Xi X 904 165 := i5.trans (fqc_det _ q j4).2
        have aa : Xi W 883 i = Xi X 946 i := by rw [(i4.cx 883 rfl i).1, (j3.cx 946 rfl i).1]; exact (cm i i1).1.1
        have hWX : RTB W X := rtb_k hVB (i4.kep rfl) (j3.kep rfl)
        have g := good_fit hVB.1 bB v19 i1 i3
        rw [← i5, ← (i4.cx 883 rfl i).1] at g
        have gW : GOODC W (Xi W 883 i) (Xi W 882 13) := by
          obtain ⟨ga, gb⟩ := g
          unfold GOODC
          rw [(i4.cx 5 rfl _).1, (i4.cx 5 rfl _).1, (i4.cx 19 rfl _).1, (i4.cx 21 rfl _).1, isK_F i4 rfl]
          exact ⟨ga, gb⟩
        have gX := (gooda_c hWX.1).1 gW
        rw [nn, aa] at gX i6
        obtain ⟨Y, a1, a2, _⟩ := j5.1 gX W hWX
        rw [a1] at i6
        have e1 : T = Y := congrArg Prod.fst i6
        have e2 : z = y := congrArg Prod.snd i6
        rw [e1]
        exact ⟨e2, a2⟩
end
section
/-! BETWEEN CALLS: what a feed changes besides; what stands behind a read, or at the start -/
/-- as cBU, but of the tapes only the texts -/
def cB2 : List (Nat × Nat) := [(2, 20), (21, 22), (196, 220), (221, 876), (883, 888)]
theorem tx3_hi {S : sS} (h : HI S) : TX3 S := by
  obtain ⟨t, e, q⟩ := h.1.2.2.2.2.1
  have et : txr S = t := by unfold txr; rw [e]; rfl
  unfold TX3
  rw [et]
  rcases q with q | q | q
  · exact Or.inl q
  · exact Or.inr (Or.inl q)
  · exact Or.inr (Or.inr q)
theorem ixc_k2 {U V X Y : sS} (a0 : RLB U X) (txs : ∀ j, Xi V (txr V) j = Xi U (txr U) j) (a : KEP [(19, 20), (21, 22), (248, 272), (274, 876)] [(20, 1), (246, 2), (246, 8)] U V) (b : KEP [(906, 907), (911, 919), (929, 930)] [(904, 15), (904, 19), (904, 32)] X Y) (h : IXC U X) : IXC V Y := fun r c hr h1 h2 h3 => by
  have e2 := a.f 246 2 (by decide)
  have hr0 : (r : Int) < Xi U 246 2 := by omega
  have r24 : r < 24 := by have := a0.2.2.2.1.2.2.2.1; omega
  have rr : ∀ j, Xi V (248 + r) j = Xi U (248 + r) j := fun j => a.x _ (inK_i (a := 248) (b := 272) (by simp) (by omega) (by omega)) j
  have e0 : rl0 V r = rl0 U r := by unfold rl0; rw [rr, rr, rr]
  have ru := a0.2.2.2.2.2 r hr0
  have u4 := ru.2.2.2.2.1
  have u5 := ru.2.2.1
  rw [e0] at h1 h2
  rw [rr] at h2
  have c6 : c < 600 := by
    have k1 := a0.2.2.2.1.1
    have k2 := a0.2.2.2.1.2.2.2.1
    have k3 := a0.1.2.2.1.2.2.2.1
    have u6 := ru.2.2.2.1
    unfold rl0 at h1 h2
    omega
  have ce : ∀ j, Xi V (276 + c) j = Xi U (276 + c) j := fun j => a.x _ (inK_i (a := 274) (b := 876) (by simp) (by omega) (by omega)) j
  rw [ce] at h3
  obtain ⟨y1, y2, y3, L, y4, y5, y6⟩ := h r c hr0 h1 h2 h3
  have eb : Xi Y 906 = Xi X 906 := funext (fun j => b.x 906 rfl j)
  have okk : ∀ t p : Int, OKC U X r t p → OKC V Y r t p := fun t p k => by
    obtain ⟨k1, k2, k3, k4⟩ := k
    have hk : ∀ x z : Int, hsR Y x z = hsR X x z := fun x z => hsN_k (fun j => b.x 917 rfl j) (fun j => b.x 929 rfl j) 17 x
    unfold OKC nMU nkU
    rw [rr, rr, rr, a.x 19 rfl, a.x 21 rfl, b.f 904 19 (by decide), b.f 904 32 (by decide), hk, b.x 918 rfl]
    exact ⟨k1, k2, k3, k4⟩
  unfold IXC1
  rw [ce, ce, ce, eb, a.f 246 8 (by decide)]
  exact ⟨y1, y2, fun i i0 i1 => by rw [txs]; exact y3 i i0 i1, L, y4, y5, icx_g (fun o q t p z => inx_k (b.le rfl (by decide)) z) okk (fun j _ => ⟨a.x 274 rfl j, a.x 275 rfl j⟩) y2 L y5 y6⟩
theorem RPR.k2 {U U1 S S1 : sS} (h : RPR U S) (c : RCT U S) (ta : ∀ j, Xi U1 (txr U) j = Xi U (txr U) j) (c2 : Xi U1 5 2 = Xi U 5 2) (c0 : Xi U1 5 0 = Xi U 5 0) (c5 : Xi U 5 5 ≤ Xi U1 5 5) (a : KEP [(66, 106), (107, 147), (148, 188)] [(20, 1)] U U1) (b : KEP [(906, 907), (930, 936)] [] S S1) (b8 : ∀ p : Nat, (p : Int) < Xi U 5 5 → Xi S1 928 p = Xi S 928 p) : RPR U1 S1 := by
  have t := txr_k a (by decide)
  have u1 : ∀ k j : Nat, k < 40 → Xi U1 (66 + k) j = Xi U (66 + k) j := fun k j hk => a.x (66 + k) (by unfold inK; simp; omega) j
  have u2 : ∀ k j : Nat, k < 40 → Xi U1 (107 + k) j = Xi U (107 + k) j := fun k j hk => a.x (107 + k) (by unfold inK; simp; omega) j
  have u3 : ∀ k j : Nat, k < 40 → Xi U1 (148 + k) j = Xi U (148 + k) j := fun k j hk => a.x (148 + k) (by unfold inK; simp; omega) j
  obtain ⟨h1, h2, h3, h4⟩ := h
  have d0 := c.1
  have d2 := c.2.2.1
  refine ⟨fun o p ho hp => ?_, fun k p hk hp => ?_, fun o h0 ho x hx => ?_, fun k h0 hk x hx => ?_⟩
  · rw [c2] at ho
    rw [b.x 930 rfl]
    exact ⟨(h1 o p ho hp).1.k t ta (fun j => u1 _ j (by omega)) (fun j => u2 _ j (by omega)) (fun j => u3 _ j (by omega)) (b.x 906 rfl) (fun q => b8 _ ((h1 o p ho hp).2 q)) (b.x 930 rfl) (b.x 931 rfl) (b.x 932 rfl), fun q => by have w := (h1 o p ho hp).2 q; omega⟩
  · rw [c0] at hk
    rw [b.x 933 rfl]
    exact ⟨(h2 k p hk hp).1.k t ta (fun j => u1 _ j (by omega)) (fun j => u2 _ j (by omega)) (fun j => u3 _ j (by omega)) (b.x 906 rfl) (fun q => b8 _ ((h2 k p hk hp).2 q)) (b.x 933 rfl) (b.x 934 rfl) (b.x 935 rfl), fun q => by have w := (h2 k p hk hp).2 q; omega⟩
  · rw [c2] at ho
    rw [u1 o x (by omega)]; exact h3 o h0 ho x hx
  · rw [c0] at hk
    have w := u1 (24 + k) x (by omega)
    rw [show 66 + (24 + k) = 90 + k by omega] at w
    rw [w]; exact h4 k h0 hk x hx
theorem rlb_k2 {U U1 S : sS} (a : RLB U S) (ta : ∀ j, Xi U1 (txr U) j = Xi U (txr U) j) (k : KEP cB2 cBv U U1) (h8 : RBT U1 S) (h10 : ROB U1 S) (h12 : RAQ U1 S) (h13 : RPR U1 S) : RLB U1 S := by
  have q : KEP cBS cBw S S := KEP.rf
  obtain ⟨⟨b1, b2, b3, b4, b5, b6, b7, b8, b9, b10, _, b12, b13, b14, _⟩, t3, cm, bk, df, ru⟩ := a
  have c : ∀ j, Xi U1 5 j = Xi U 5 j := k.x 5 rfl
  have d : ∀ j, Xi U 5 j ≤ Xi U1 5 j := fun j => by rw [c]; exact Int.le_refl _
  have c9 : ∀ j, Xi U1 9 j = Xi U 9 j := k.x 9 rfl
  have c19 : ∀ j, Xi U1 19 j = Xi U 19 j := k.x 19 rfl
  have kl : ∀ c j : Nat, 221 ≤ c → c < 876 → Xi U1 c j = Xi U c j := fun c j x y => k.x c (inK_i (a := 221) (b := 876) (by decide) x y) j
  have e2 : Xi U1 246 2 = Xi U 246 2 := kl 246 2 (by omega) (by omega)
  have e5 : Xi U1 246 5 = Xi U 246 5 := kl 246 5 (by omega) (by omega)
  have e8 : Xi U1 246 8 = Xi U 246 8 := kl 246 8 (by omega) (by omega)
  have s117 : Xi S 904 117 = Xi S 904 117 := q.f 904 117 (by decide)
  have s125 : Xi S 904 125 = Xi S 904 125 := q.f 904 125 (by decide)
  have s130 : Xi S 904 130 = Xi S 904 130 := q.f 904 130 (by decide)
  have qs : ∀ c j : Nat, 969 ≤ c → c < 988 → Xi S c j = Xi S c j := fun c j x y => q.x c (inK_i (a := 969) (b := 988) (by decide) x y) j
  have tt : txr U1 = txr U := txr_k k (by decide)
  have tx : ∀ j, Xi U1 (txr U1) j = Xi U (txr U) j := fun j => by
    rw [tt]; exact ta j
  refine ⟨⟨b1.k (k.le rfl (by decide)) (q.le rfl (by decide)), b2.k (k.le rfl (by decide)), b3.k (k.le rfl (by decide)) (q.le rfl (by decide)), b4.k (c 0) (k.le rfl (by decide)) (q.le rfl (by decide)), b5.k (c 0) (c 4) (c 5) (d 1) (k.le rfl (by decide)) (q.le rfl (by decide)), b6.k (c 3) (d 0) (k.le rfl (by decide)) (q.le rfl (by decide)), b7.k (c 6) (d 0) (k.le rfl (by decide)) (q.le rfl (by decide)), h8, b9.k (c 7) (c 8) (d 6) (d 0) (k.le rfl (by decide)) (q.le rfl (by decide)), h10, trivial, h12, h13, b14.k b3 (d 2) (k.le rfl (by decide)) (q.le rfl (by decide)), trivial⟩, ?_, ?_, ?_, ?_, ?_⟩
  · unfold TX3; rw [tt]; exact t3
  · exact cm.k (k.le rfl (by decide)) (q.le rfl (by decide)) (d 8) (d 0) (fun i _ => c19 i) (fun _ _ _ => isKn_s7 (k.x 6 rfl))
  · unfold BKC; rw [e2, e5, e8, s117, s125, s130, c 3]; exact bk
  · intro a ha h11
    rw [c 3] at ha
    rw [k.x 11 rfl] at h11
    exact df1_w (df a ha h11) (k.x 12 rfl a) (k.x 13 rfl a) (q.x 923 rfl a) (by rw [e5]; exact Int.le_refl _) (by rw [s117]; exact Int.le_refl _) (fun c j hc => kl (276 + c) j (by omega) (by have := bk.1; have := bk.2.2.2.1; have := b3.2.2.2.1; omega)) (fun i _ k x y => qs k i (by omega) (by omega)) (q.x 906 rfl) (fun j _ => d j) (fun p _ => c9 p) tx
  · intro r hr
    rw [e2] at hr
    have b24 := bk.2.2.2.1
    exact ruq_w (fun j => kl (248 + r) j (by omega) (by omega)) (fun c j hc => kl (276 + c) j (by omega) (by have := bk.1; have := b3.2.2.2.1; omega)) (by rw [e5]; exact Int.le_refl _) (fun c x y _ => qs c r (by omega) (by omega)) (fun i _ => qs 983 _ (by omega) (by omega)) (fun k j x y _ => qs k j (by omega) (by omega)) (fun k j x _ => by rcases x with e | e <;> rw [e] <;> exact qs _ j (by omega) (by omega)) (q.x 906 rfl) (by rw [s117]; exact Int.le_refl _) (by rw [s125]; exact Int.le_refl _) (fun j _ => d j) (fun p _ => c9 p) (fun a _ => c19 a) tx (ru r hr)
/-- what no turn changes, whatever is fed -/
def STX (U S : sS) : Prop := ∀ U1 S1 : sS, KEP cB2 cBv U U1 → (∀ j, Xi U1 (txr U) j = Xi U (txr U) j) → KEP cBS2 cBw S S1 → ST0 U1 S1
theorem STX.k {U U1 S S1 : sS} (h : STX U S) (k : KEP cB2 cBv U U1) (t : ∀ j, Xi U1 (txr U) j = Xi U (txr U) j) (q : KEP cBS2 cBw S S1) : STX U1 S1 := fun U2 S2 a t2 b => by
  have tt : txr U1 = txr U := txr_k k (by decide)
  exact h _ _ (k.tr a) (fun j => by rw [← t j, ← tt]; exact t2 j) (q.tr b)
theorem STX.c {U S : sS} (h : STX U S) (t3 : TX3 U) : STC U S := fun U1 S1 k q => h U1 S1 (k.le rfl (by decide)) (fun j => by
  rcases t3 with e | e | e <;> rw [e]
  · exact k.x 245 rfl j
  · exact k.x 902 rfl j
  · exact k.x 903 rfl j) q
theorem stx_i {S1 Q1 : sS} (rS : RLB S1 Q1) (srt1 : SRT S1 S1 (Xi S1 246 2)) (plm : PLM Q1) (x1 : IXC S1 Q1) (x4 : Xi Q1 922 0 ≠ -1 ∧ Xi Q1 928 0 = 1) (bQ : ABV Q1) (h8 : ∀ j : Nat, Xi Q1 918 j ≤ 15) : STX S1 Q1 := fun U2 S2 kU tU kS => by
  have l24 : Xi S1 246 2 ≤ 24 := by have := rS.2.2.2.1.2.2.2.1; omega
  have nm : NMWD Q1 := nmwd_of rS.1.1
  have e246' : Xi U2 246 2 = Xi S1 246 2 := kU.x 246 rfl 2
  have tt : txr U2 = txr S1 := txr_k kU (by decide)
  refine ⟨?_, fun r hr k hk h4 h5 => ?_, fun k hk hs => ?_, trivial, trivial, ⟨?_, ?_⟩, fun rb => ?_⟩
  · rw [e246']
    exact srt_q (by omega) srt1 (kU.x 6 rfl) (fun r j hr => kU.x _ (inK_i (a := 221) (b := 876) (by decide) (by omega) (by omega)) j) (kU.x 272 rfl)
  · have qs : ∀ c j : Nat, 969 ≤ c → c < 988 → Xi S2 c j = Xi Q1 c j := fun c j x y => kS.x c (inK_i (a := 969) (b := 988) (by decide) x y) j
    rw [kS.f 904 130 (by decide)] at hr
    rw [qs 985 _ (by omega) (by omega)] at hk
    rw [qs 984 _ (by omega) (by omega), qs 969 _ (by omega) (by omega)] at h4
    rw [qs 984 _ (by omega) (by omega), qs 975 _ (by omega) (by omega)] at h5
    have z := plm r hr k hk h4 h5
    unfold nM at z ⊢
    rw [qs 979 _ (by omega) (by omega), kS.x 942 rfl]
    exact z
  · rw [kS.f 904 15 (by decide)] at hk
    rw [kS.x 914 rfl] at hs
    exact wdx_f (kS.x 912 rfl) (kS.j 913 rfl) (kS.x 916 rfl) (nm k hk hs)
  · rw [kS.x 922 rfl]; exact x4.1
  · rw [kS.x 928 rfl]; exact x4.2
  · have kU3 : KEP [(19, 20), (21, 22), (248, 272), (274, 876)] [(20, 1), (246, 2), (246, 8)] S1 U2 := by
      refine ⟨(kU.le (gs := []) rfl (by simp)).1, fun f hf => ?_⟩
      have : f = (20, 1) ∨ f = (246, 2) ∨ f = (246, 8) := by simpa using hf
      rcases this with e | e | e <;> subst e
      · exact kU.2 (20, 1) (by decide)
      · exact kU.1 246 2 rfl
      · exact kU.1 246 8 rfl
    have ix : IXC U2 S2 := ixc_k2 rS (fun j => by rw [tt]; exact tU j) kU3 (kS.le rfl (by decide)) x1
    have bS : ABV S2 := fun k hk => by rw [kS.x 917 rfl]; exact bQ k hk
    exact inw_s rb bS (fun j => by rw [kS.x 918 rfl]; exact h8 j) (ixs_of rb ix)
/-- behind a read without a fault -/
theorem aft_x {U R X Y S1 Q1 : sS} {a : Int} (r : RLA U R) (x : EXI U R a) (kX : KEP [(2, 904)] [(1, 3), (20, 1), (20, 12), (882, 3), (246, 2), (246, 8)] U X) (p : PCI X Y (Xi X 5 2)) (srt : SRT Y S1 (Xi Y 246 2)) (F : FR [(272, 273, 0, 100000)] Y S1) (q : PLD R Q1) (bQ : ABV Q1) (h8 : ∀ j : Nat, Xi Q1 918 j ≤ 15) : RLB S1 Q1 ∧ STX S1 Q1 := by
  have rX : RLB X R := rlb_z (rlb_of r) (kX.le rfl (by decide)) KEP.rf
  obtain ⟨rY, kXY, kRQ⟩ := ply_s rX p q
  have kYS : KEP [(2, 20), (21, 24), (25, 65), (66, 106), (107, 147), (148, 188), (189, 195), (196, 220), (221, 272), (273, 876), (883, 888), (902, 904)] cBv Y S1 := F.kep rfl
  have rS : RLB S1 Q1 := rlb_rz rY kYS
  obtain ⟨x1, x2, _, x4⟩ := x
  have l24 : Xi Y 246 2 ≤ 24 := by have := rY.2.2.2.1.2.2.2.1; omega
  have e246 : Xi S1 246 2 = Xi Y 246 2 := F.x 246 2 rfl
  have srt1 : SRT S1 S1 (Xi S1 246 2) := by
    rw [e246]
    exact srt_q l24 srt (kYS.x 6 rfl) (fun r j hr => kYS.x _ (inK_i (a := 221) (b := 272) (by simp) (by omega) (by omega)) j) (fun j => rfl)
  have plm : PLM R := plm_of (rlb_of r) x2
  have kUS : KEP [(19, 20), (21, 22), (245, 246), (248, 272), (274, 876), (902, 904)] [(20, 1), (246, 2), (246, 8)] U S1 := KEP.tr (kX.le rfl (by decide)) (KEP.tr (kXY.le rfl (by decide)) (F.kep rfl))
  refine ⟨rS, stx_i rS srt1 (fun r hr k hk h4 h5 => ?_) (ixc_k r r.2.1 kUS (kRQ.le rfl (by decide)) x1) ⟨?_, ?_⟩ bQ h8⟩
  · have qs : ∀ c j : Nat, 969 ≤ c → c < 988 → Xi Q1 c j = Xi R c j := fun c j x y => kRQ.x c (inK_i (a := 921) (b := 993) (by decide) (by omega) (by omega)) j
    rw [kRQ.f 904 130 (by decide)] at hr
    rw [qs 985 _ (by omega) (by omega)] at hk
    rw [qs 984 _ (by omega) (by omega), qs 969 _ (by omega) (by omega)] at h4
    rw [qs 984 _ (by omega) (by omega), qs 975 _ (by omega) (by omega)] at h5
    have z := plm r hr k hk h4 h5
    unfold nM at z ⊢
    rw [qs 979 _ (by omega) (by omega), kRQ.x 942 rfl]
    exact z
  · rw [kRQ.x 922 rfl]; exact x4.1
  · rw [kRQ.x 928 rfl]; exact x4.2
/-- at the start, and behind a fault -/
theorem fresh_x {U S : sS} (h : KCF U) (g : KRF S) (hS : HI S) (t3 : TX3 U) (bQ : ABV S) : RLB U S ∧ STX U S := by
  have r : RLB U S := rlb_of (rla_0 h g hS t3)
  have e2 := fc246_2 h
  have e130 := fr904_130 g
  refine ⟨r, stx_i r ?_ (fun r hr => absurd hr (by omega)) (fun r c hr => absurd hr (by omega)) ⟨?_, ?_⟩ bQ (fun j => (hi_kx hS j).2)⟩
  · rw [e2]
    exact ⟨fun j hj => absurd hj (by omega), fun j k _ hk => absurd hk (by omega), fun P => rfl⟩
  · rw [fr922 g 0 (by decide)]; decide
  · rw [fr928 g 0 (by decide)]; rfl
/-- feed: of the class's world nothing is changed -/
theorem rlb_fd {U T S : sS} (h : RLB U S) (F : FR [(0, 1, 10, 11), (902, 904, 0, 100000)] U T) (ta : ∀ j, Xi T (txr U) j = Xi U (txr U) j) : RLB T S := by
  have ct := h.1.2.2.1
  have c : ∀ j, Xi T 5 j = Xi U 5 j := fun j => (F.cx 5 rfl j).1
  have d : ∀ j, Xi U 5 j ≤ Xi T 5 j := fun j => by rw [c]; exact Int.le_refl _
  exact rlb_k2 h ta (F.kep rfl) (h.1.2.2.2.2.2.2.2.1.k (d 2) (F.kep rfl) KEP.rf) (h.1.2.2.2.2.2.2.2.2.2.1.k (c 2) (d 0) (F.kep rfl) KEP.rf) (h.1.2.2.2.2.2.2.2.2.2.2.2.1.k ct (c 2) (c 0) (F.kep rfl) KEP.rf) (h.1.2.2.2.2.2.2.2.2.2.2.2.2.1.k2 ct ta (c 2) (c 0) (d 5) (F.kep rfl) KEP.rf (fun p _ => rfl))
end
section
/-! READING writes nothing: the page, and whether it is dry -/
def OQ (A B : sS) : Prop := Xi B 904 156 = Xi A 904 156 ∧ (Xi A 904 157 = 0 → Xi B 904 157 = 0)
theorem OQ.rf {A : sS} : OQ A A := ⟨rfl, id⟩
theorem OQ.tr {A B C : sS} (h : OQ A B) (g : OQ B C) : OQ A C := ⟨g.1.trans h.1, fun q => g.2 (h.2 q)⟩
theorem oq_f {l : List rec} {A B : sS} (F : FR l A B) (e : mdf l 904 156 = false) (e2 : mdf l 904 157 = false) : OQ A B := ⟨F.x _ _ e, fun q => (F.x _ _ e2).trans q⟩
theorem oq_w {A : sS} {k j : Nat} {v : Int32} (h : k ≠ 904 ∨ (j ≠ 156 ∧ j ≠ 157)) : OQ A (uI A k j v) := ⟨Xi_ne (by omega), fun q => (Xi_ne (by omega)).trans q⟩
theorem oq_pha {S : sS} {i q p : Int} : OQ S (phA S i q p) := by
  unfold phA
  exact (oq_w (Or.inl (by decide))).tr (oq_w (Or.inl (by decide)))
theorem oq_say {B C : sS} {f n o z : Int} (h : SAYD B C f n o z) : OQ B C := by
  obtain ⟨D, T, e1, _, F, e2⟩ := h
  have t := F.x 904 156 rfl
  rw [e1, Xi_ne (by omega), Xi_ne (by omega)] at t
  rw [e2]
  exact ⟨(Xi_ne (by omega)).trans t, fun _ => Xi_same (by unfold rg; omega)⟩
/-- one phrase that is meant -/
theorem oq_pm {S T : sS} {i q p : Int} (h : PMX S T i q p) (h6 : 0 ≤ Xi S 963 i.toNat ∧ Xi S 963 i.toNat ≤ 6) (h5 : Xi S 963 i.toNat = 5 → Xi S 953 (pTS S i).toNat = 0 ∨ Xi S 953 (pTS S i).toNat = 1) : OQ S T := by
  obtain ⟨a0, a1, a2, a3, a5, b5, a6⟩ := h
  have c : Xi S 963 i.toNat = 0 ∨ Xi S 963 i.toNat = 1 ∨ Xi S 963 i.toNat = 2 ∨ (Xi S 963 i.toNat = 3 ∨ Xi S 963 i.toNat = 4) ∨ Xi S 963 i.toNat = 5 ∨ Xi S 963 i.toNat = 6 := by omega
  rcases c with c | c | c | c | c | c
  · obtain ⟨B, C, z, e, s, _, F, _⟩ := a0 c
    have o1 : OQ S B := by rw [e]; exact (oq_pha.tr (oq_w (Or.inl (by decide)))).tr (oq_w (Or.inl (by decide)))
    exact (o1.tr (oq_say s)).tr (oq_f F rfl rfl)
  · exact oq_pha.tr (oq_f (a1 c).2 rfl rfl)
  · obtain ⟨B, C, D, E, z, w, g, _, F1, e1, _, _, _, F2, _, F3, e2⟩ := a2 c
    have o1 : OQ S B := oq_pha.tr (oq_f F1 rfl rfl)
    have o2 : OQ B C := by rw [e1]; exact oq_w (Or.inl (by decide))
    have o3 : OQ E T := by rw [e2]; exact oq_w (Or.inl (by decide))
    exact (((o1.tr o2).tr (oq_f F2 rfl rfl)).tr (oq_f F3 rfl rfl)).tr o3
  · obtain ⟨B, C, D, E, G, z, w, _, F1, e1, _, F2, e2, _, F3, e3⟩ := a3 c
    have o1 : OQ S B := oq_pha.tr (oq_f F1 rfl rfl)
    have o2 : OQ B C := by rw [e1]; exact oq_w (Or.inl (by decide))
    have o3 : OQ D E := by rw [e2]; exact oq_w (Or.inl (by decide))
    have o4 : OQ G T := by rw [e3]; exact oq_w (Or.inl (by decide))
    exact ((((o1.tr o2).tr (oq_f F2 rfl rfl)).tr o3).tr (oq_f F3 rfl rfl)).tr o4
  · rcases h5 c with d | d
    · obtain ⟨B, C, D, E, G, n, t, o, _, F1, _, F2, _, F3, _, _, e1, e2, e3⟩ := b5 c d
      have o1 : OQ S B := oq_pha.tr (oq_f F1 rfl rfl)
      have o2 : OQ D E := by rw [e1]; exact oq_w (Or.inl (by decide))
      have o3 : OQ E G := by rw [e2]; exact oq_w (Or.inl (by decide))
      have o4 : OQ G T := by rw [e3]; exact oq_w (Or.inl (by decide))
      exact ((((o1.tr (oq_f F2 rfl rfl)).tr (oq_f F3 rfl rfl)).tr o2).tr o3).tr o4
    · obtain ⟨B, C, D, E, g, a, z, _, _, _, _, F1, e1, _, F2, e2, e3⟩ := a5 c d
      have o1 : OQ S B := oq_pha.tr (oq_f F1 rfl rfl)
      have o2 : OQ B C := by rw [e1]; exact oq_w (Or.inl (by decide))
      have o3 : OQ D E := by rw [e2]; exact oq_w (Or.inl (by decide))
      have o4 : OQ E T := by rw [e3]; exact oq_w (Or.inl (by decide))
      exact (((o1.tr o2).tr (oq_f F2 rfl rfl)).tr o3).tr o4
  · rw [a6 c]; exact oq_pha
/-- where phrases lie -/
def PK6 (S : sS) (N : Int) : Prop := ∀ k : Nat, (k : Int) < N → (0 ≤ Xi S 963 k ∧ Xi S 963 k ≤ 6) ∧ (Xi S 963 k = 5 → Xi S 953 (Xi S 964 k).toNat = 0 ∨ Xi S 953 (Xi S 964 k).toNat = 1)
theorem pk6_k {S T : sS} {N : Int} (k : KEP [(953, 954), (963, 965)] [] S T) (h : PK6 S N) : PK6 T N := fun i hi => by
  rw [k.x 963 rfl, k.x 964 rfl, k.x 953 rfl]
  exact h i hi
theorem oq_rph {S D : sS} {q0 p0 N : Int} (h : PK6 D N) : ∀ (n : Nat) (W : sS), (n : Int) ≤ N → RPH md_mo_need__p md_mo_phraseMeant__p S D q0 p0 n W → OQ D W ∧ KEP [(953, 954), (963, 965)] [] D W
  | 0, W, _, r => by
    have r : W = D := r
    rw [r]
    exact ⟨OQ.rf, KEP.rf⟩
  | n + 1, T, hn, r => by
    obtain ⟨W, A, r0, F, _, G, x⟩ := r
    obtain ⟨o, k⟩ := oq_rph h n W (by omega) r0
    have kA : KEP [(953, 954), (963, 965)] [] D A := k.tr (F.kep rfl)
    have p := pk6_k kA h n (by omega)
    have e1 : ((n : Int)).toNat = n := Int.toNat_natCast n
    exact ⟨(o.tr (oq_f F rfl rfl)).tr (oq_pm x (by rw [e1]; exact p.1) (by unfold pTS; rw [e1]; exact p.2)), kA.tr (G.kep rfl)⟩
theorem oq_rl {E : sS} {l q : Int} : OQ E (rlW E l q) := by
  unfold rlW
  exact (((((((oq_w (Or.inl (by decide))).tr (oq_w (Or.inl (by decide)))).tr (oq_w (Or.inl (by decide)))).tr (oq_w (Or.inl (by decide)))).tr (oq_w (Or.inl (by decide)))).tr (oq_w (Or.inr (by decide)))).tr (oq_w (Or.inr (by decide)))).tr (oq_w (Or.inr (by decide)))
theorem oq_ru {S T : sS} {f : Int} (p : PX_mo_asked_3 S f) (q : QX_mo_asked_3 S T f) : OQ S T := by
  obtain ⟨_, _, _, _, _, _, _, _, _, _, _, _, _, h98, _, _, _, _, pk, _⟩ := p
  obtain ⟨⟨P, F, _, E, ⟨A, B, C, D, F1, _, _, F2, e1, _, F3, r⟩, n1, n2⟩, _⟩ := q
  have pS : PK6 S (Xi S 904 98) := fun k hk => by
    have t := pk.o k hk
    rw [PKB, show ((k : Nat) : Int).toNat = k from Int.toNat_natCast k] at t
    obtain ⟨t1, _, _, _, _, _, _, t7⟩ := t
    refine ⟨t1, fun c => ?_⟩
    have u := (t7 c).1
    unfold pTS at u
    rw [show ((k : Nat) : Int).toNat = k from Int.toNat_natCast k] at u
    exact u
  have kP : KEP [(953, 954), (963, 965)] [] S P := F.kep rfl
  have e98 : Xi P 904 98 = Xi S 904 98 := F.x 904 98 rfl
  have oC : OQ B C := by rw [e1]; exact oq_w (Or.inr (by decide))
  have kC : KEP [(953, 954), (963, 965)] [] B C := by rw [e1]; exact (FR.wI (m := [(904, 905, 115, 116)]) FR.rf rfl).kep rfl
  have kD : KEP [(953, 954), (963, 965)] [] S D := (((kP.tr (F1.kep rfl)).tr (F2.kep rfl)).tr kC).tr (F3.kep rfl)
  have o := (oq_rph (pk6_k kD pS) _ E (by omega) r).1
  have o1 : OQ S E := (((((oq_f F rfl rfl).tr (oq_f F1 rfl rfl)).tr (oq_f F2 rfl rfl)).tr oC).tr (oq_f F3 rfl rfl)).tr o
  by_cases c : Xi E 904 106 = 0
  · rw [n2 c]; exact o1.tr oq_rl
  · rw [n1 c]; exact o1
section
variable {V V' T W' U1 : sS} {ts f n m : Nat} {x z : Int}

theorem oq_0 (t : TLE V V' T W' ts f n) (h70 : Xi V' 904 70 = 0) (ty0 : ty7 V 0 = 102) (e81 : Xi V' 904 81 = f) (zf : z = 0 → Xi U1 876 8 ≠ 0) (tc : (TDE V U1 z) ∧ FR md_re_describe__p V U1) : OQ V' T := by
  have s := (tle_70 t).trans h70
  have aq := akq_0 (tle_a t 0 (akp_0 h70 (ak_0 h70))) h70
  exact oq_f aq.2.2 rfl rfl

theorem oq_1 (t : TLE V V' T W' ts f n) (s : SNT V V' f m n x) (t0 : ty7 V 0 = 33) (h70 : Xi V' 904 70 = 1) (e81 : Xi V' 904 81 = f + 1) (zf : z = 0 → Xi U1 876 8 ≠ 0) (tc : (TUN md_co_takeText__p md_co_suits__p V U1 ts z (fnd V 8 3 (re7 (ty7 V) 3)) (pc7 V 1 + 1) (pc7 V 1 + 1 + Xj V 879 1)) ∧ (KOC V U1) ∧ FR md_re_understand__a V U1) : OQ V' T := by
  have s7 := (tle_70 t).trans h70
  have c := t.1
  have t1 := ty_102 (inv_1 s.2.2.2.1 t0).1
  have px := tok_px c (inv_1 s.2.2.2.1 t0).1
  have aq := akq_1 (tle_a t 0 (akp_1 h70 (ak_1 t.2.2.1 h70 c.2.2.2.1 c.2.2.1.1 (cev_5 c) (cev_pl c) (inv_1 s.2.2.2.1 t0).1 e81))) h70
  exact oq_f aq.2.2 rfl rfl

theorem oq_2 (t : TLE V V' T W' ts f n) (h70 : Xi V' 904 70 = 2) (de : DFE (tkR V') V' 0 0 f (f + (Xi V 876 7 - 1))) (dot : ty7 V (Xi V 876 7 - 1) = 103) (zf : z = 0 → Xi U1 876 8 ≠ 0) (tc : BG2 V U1 z) : OQ V' T := by
  have s7 := (tle_70 t).trans h70
  have c := t.1
  have aq := akq_2 (tle_a t 0 (akp_2 h70 (ak_2 t.2.2.1 h70 c.2.2.2.1 t.2.1.2.2.1 c.2.2.1.2.2.2 de))) h70
  exact oq_f aq.2.2 rfl rfl

theorem oq_3 (t : TLE V V' T W' ts f n) {s : Int} (hs : s = 3 ∨ s = 4 ∨ s = 5 ∨ s = 6) (e89 : Xi V 890 2 = s) (h70 : Xi V' 904 70 = s) (rue : RUE (tkR V') V' 0 0 0 s f (f + (Xi V 876 7 - 1))) (dot : ty7 V (Xi V 876 7 - 1) = 103) (zf : z = 0 → Xi U1 876 8 ≠ 0) (tc : BG3 V U1 ts z) : OQ V' T := by
  have s7 := (tle_70 t).trans h70
  have c := t.1
  have h7 := c.2.2.2.2.1
  have r3 : 3 ≤ Xi V' 904 70 ∧ Xi V' 904 70 ≤ 6 := by omega
  have r3' : 3 ≤ Xi T 904 70 ∧ Xi T 904 70 ≤ 6 := by omega
  have aq := akq_3 (tle_a t 0 (akp_3 r3 (ak_3 t.2.2.1 hs h70 c.2.2.2.1 t.2.1.2.2.1 c.2.2.1.2.2.2 rue))) r3
  exact oq_ru (ak_3 t.2.2.1 hs h70 c.2.2.2.1 t.2.1.2.2.1 c.2.2.1.2.2.2 rue) aq

theorem oq_7 (t : TLE V V' T W' ts f n) (s : SNT V V' f m n x) (t0 : ty7 V 0 = 2) (t1 : ty7 V 1 = 25) (h70 : Xi V' 904 70 = 7) (zf : z = 0 → Xi U1 876 8 ≠ 0) (tc : (TVB V U1 z (re7 (ty7 V) 3) ((re7 (ty7 V) 3) + 2) (re7 (ty7 V) ((re7 (ty7 V) 3) + 2))) ∧ FR md_re_tellVerb__p V U1) : OQ V' T := by
  have s7 := (tle_70 t).trans h70
  have aq := akq_7 (tle_a t 0 (akp_7 h70 (ak_7 t.2.2.1 (snt_pro s) h70))) h70
  exact oq_f aq.2.2 rfl rfl

theorem oq_8 (t : TLE V V' T W' ts f n) (s : SNT V V' f m n x) (t0 : ty7 V 0 = 2) (t1 : ty7 V 1 = 19) (h70 : Xi V' 904 70 = 8) (zf : z = 0 → Xi U1 876 8 ≠ 0) (tc : (TPL V U1 z (bA (ty7 V) 3) (re7 (ty7 V) (bA (ty7 V) 3)) ((re7 (ty7 V) (bA (ty7 V) 3)) + 1) (re7 (ty7 V) ((re7 (ty7 V) (bA (ty7 V) 3)) + 1))) ∧ FR md_re_tellPlural__p V U1) : OQ V' T := by
  have s7 := (tle_70 t).trans h70
  have aq := akq_8 (tle_a t 0 (akp_8 h70 (ak_8 t.2.2.1 (snt_pro s) h70))) h70
  exact oq_f aq.2.2 rfl rfl

theorem oq_17 (t : TLE V V' T W' ts f n) (s : SNT V V' f m n x) (g : NBG (ty7 V)) (k : kt7 (ty7 V) = 12) (h70 : Xi V' 904 70 = 17) (tel : Xi V 890 3 = tk7 (ty7 V)) (zf : z = 0 → Xi U1 876 8 ≠ 0) (tc : (THAS V U1 z (bA (ty7 V) 0) (re7 (ty7 V) (bA (ty7 V) 0)) (Xi V 890 3 + 2) (re7 (ty7 V) (Xi V 890 3 + 2)) ((re7 (ty7 V) (Xi V 890 3 + 2)) + 1) (re7 (ty7 V) ((re7 (ty7 V) (Xi V 890 3 + 2)) + 1))) ∧ FR md_re_tellHas__p V U1) : OQ V' T := by
  have s7 := (tle_70 t).trans h70
  have aq := akq_17 (tle_a t 0 (akp_17 h70 (ak_17 t.2.2.1 (snt_pro s) h70))) h70
  exact oq_f aq.2.2 rfl rfl

theorem oq_18 (t : TLE V V' T W' ts f n) (s : SNT V V' f m n x) (g : NBG (ty7 V)) (k : kt7 (ty7 V) = 13) (h70 : Xi V' 904 70 = 18) (tel : Xi V 890 3 = tk7 (ty7 V)) (zf : z = 0 → Xi U1 876 8 ≠ 0) (tc : (TCAN V U1 z (bA (ty7 V) 0) (re7 (ty7 V) (bA (ty7 V) 0)) (Xi V 890 3 + 2) (re7 (ty7 V) (Xi V 890 3 + 2)) (re7 (ty7 V) ((re7 (ty7 V) (Xi V 890 3 + 2)) + 1))) ∧ FR md_re_tellCan__p V U1) : OQ V' T := by
  have s7 := (tle_70 t).trans h70
  have aq := akq_18 (tle_a t 0 (akp_18 h70 (ak_18 t.2.2.1 (snt_pro s) h70))) h70
  exact oq_f aq.2.2 rfl rfl

theorem oq_19 (t : TLE V V' T W' ts f n) (s : SNT V V' f m n x) (g : NBG (ty7 V)) (k : kt7 (ty7 V) = 21) (h70 : Xi V' 904 70 = 19) (tel : Xi V 890 3 = tk7 (ty7 V)) (on : ONR V' (ty7 V)) (zf : z = 0 → Xi U1 876 8 ≠ 0) (tc : (TREL V U1 z (bA (ty7 V) 0) (re7 (ty7 V) (bA (ty7 V) 0)) (Xi V 890 3 + 2) (re7 (ty7 V) (Xi V 890 3 + 2)) ((re7 (ty7 V) (Xi V 890 3 + 2)) + 2) (re7 (ty7 V) ((re7 (ty7 V) (Xi V 890 3 + 2)) + 2)) (ty7 V ((Xi V 890 3 + 2) - 1)) (ty7 V (((re7 (ty7 V) (Xi V 890 3 + 2)) + 2) - 1))) ∧ FR md_re_tellRelation__p V U1) : OQ V' T := by
  have s7 := (tle_70 t).trans h70
  have aq := akq_19 (tle_a t 0 (akp_19 h70 (ak_19 t.2.2.1 (snt_pro s) h70))) h70
  exact oq_f aq.2.2 rfl rfl

theorem oq_20 (t : TLE V V' T W' ts f n) (h70 : Xi V' 904 70 = 20) (dot : ty7 V (Xi V 876 7 - 1) = 103) (nd : ∀ i : Int, 0 ≤ i → i < Xi V 876 7 - 1 → ty7 V i ≠ 103) (zf : z = 0 → Xi U1 876 8 ≠ 0) (tc : (TLQ V U1 z) ∧ FR md_re_tellLoose__p V U1) : OQ V' T := by
  have s7 := (tle_70 t).trans h70
  have c := t.1
  have e := t.2.1
  have h7 := c.2.2.2.2.1
  have aq := akq_20 (tle_a t (f + (Xi V 876 7 - 1).toNat) (akp_20 h70 (ak_20 t.2.2.1 h70 c.2.2.2.1 e.2.2.1 e.2.2.2.2.1 h7.1 dot nd rfl))) h70
  exact oq_f aq.2.2 rfl rfl

theorem oq_9 (t : TLE V V' T W' ts f n) (s : SNT V V' f m n x) (g : NBG (ty7 V)) (k : kt7 (ty7 V) = 4 ∨ kt7 (ty7 V) = 5) (nb : bp7 (ty7 V) 0) (tel : Xi V 890 3 = tk7 (ty7 V)) (be : BES V (ty7 V)) (cr : C9S V' (ty7 V) f) (zf : z = 0 → Xi U1 876 8 ≠ 0) (tc : (TPY md_me_readWhat__p V U1 z (re7 (ty7 V) 1) (bA (ty7 V) (re7 (ty7 V) 1 + 1)) (re7 (ty7 V) (bA (ty7 V) (re7 (ty7 V) 1 + 1))) (Xi V 890 3 + 1)) ∧ FR md_re_tellProperty__p V U1) : OQ V' T := by
  have c := t.1
  have e := t.2.1
  obtain ⟨⟨_, h70⟩, k0, k1, e3, i3, w3, k2, e78⟩ := po_9 s.2.2.1 s.2.2.2.1 g.2.1 g.2.2 k nb tel be cr s.2.2.2.2.1.2 (fun i i0 i1 => tkw_t s.2.1.1 i0 i1)
  have s7 := (tle_70 t).trans h70
  have sr := scx_s s.2.1 s.1.1.1
  have aq := akq_9 (tle_a t 0 (akp_9 h70 (ak_9 t.2.2.1 (snt_pro s) h70 c.2.2.2.1 sr e.2.2.1 c.2.2.1.2.2.2 e.2.2.2.2.2 k1 (by omega) i3 e78))) h70
  exact oq_f aq.2.2.2.1 rfl rfl

theorem oq_10 (t : TLE V V' T W' ts f n) (s : SNT V V' f m n x) (b : BEX V V' f m x) (tt : ty7 V (Xi V 890 3 + 1) = 0 ∧ ty7 V (Xi V 890 3 + 1 + 1) = 18) (hz : z = 0 ∨ z = 1) (zf : z = 0 → Xi U1 876 8 ≠ 0) (tc : (TKN V U1 z) ∧ FR md_re_tellKinds__p V U1) : OQ V' T := by
  have h70 := (po_10 b s.2.2.2.2.1.2 tt).2.1
  have s7 := (tle_70 t).trans h70
  have aq := akq_10 (tle_a t 0 (akp_10 h70 (ak_10 t.2.2.1 (snt_pro s) (rps_i b) h70))) h70
  exact oq_f aq.2.2 rfl rfl

theorem oq_11 (t : TLE V V' T W' ts f n) (s : SNT V V' f m n x) (b : BEX V V' f m x) (tt : ty7 V (Xi V 890 3 + 1) = 1 ∧ ty7 V (Xi V 890 3 + 1 + 1) = 27) (zf : z = 0 → Xi U1 876 8 ≠ 0) (tc : (TACT V U1 z) ∧ FR md_re_tellActions__p V U1) : OQ V' T := by
  have h70 := (po_11 b s.2.2.2.2.1.2 tt).2.1
  have s7 := (tle_70 t).trans h70
  have w : -1 ≤ Xi T 904 78 := by
    rw [t.2.2.2.2.1.2.1.x 904 78 rfl]
    exact t.2.2.1.2.2.2.1.2.2.2.2.2.1 h70
  have aq := akq_11 (tle_a t 0 (akp_11 h70 (ak_11 t.2.2.1 (snt_pro s) (rps_i b) h70))) h70
  exact oq_f aq.2.2 rfl rfl

theorem oq_12 (t : TLE V V' T W' ts f n) (s : SNT V V' f m n x) (b : BEX V V' f m x) (t0 : ¬ (ty7 V (Xi V 890 3 + 1) = 0 ∧ ty7 V (Xi V 890 3 + 1 + 1) = 18)) (t1 : ¬ (ty7 V (Xi V 890 3 + 1) = 1 ∧ ty7 V (Xi V 890 3 + 1 + 1) = 27)) (tt : art7 (ty7 V (Xi V 890 3 + 1))) (hz : z = 0 ∨ z = 1) (zf : z = 0 → Xi U1 876 8 ≠ 0) (tc : (TOJ V U1 z) ∧ FR md_re_tellObjects__p V U1) : OQ V' T := by
  have h70 := (po_12 b s.2.2.2.2.1.2 t0 t1 tt).1.2
  have s7 := (tle_70 t).trans h70
  have aq := akq_12 (tle_a t 0 (akp_12 h70 (ak_12 t.2.2.1 (snt_pro s) (rps_i b) h70))) h70
  exact oq_f aq.2.2 rfl rfl

theorem oq_13 (t : TLE V V' T W' ts f n) (s : SNT V V' f m n x) (b : BEX V V' f m x) (tt : ¬ art7 (ty7 V (Xi V 890 3 + 1))) (p : pl7 (ty7 V (Xi V 890 3 + 1))) (hz : z = 0 ∨ z = 1) (zf : z = 0 → Xi U1 876 8 ≠ 0) (tc : (TOJ V U1 z) ∧ FR md_re_tellObjects__p V U1) : OQ V' T := by
  have h70 := (po_13 b s.2.2.2.2.1.2 tt p).1.2
  have s7 := (tle_70 t).trans h70
  have aq := akq_13 (tle_a t 0 (akp_13 h70 (ak_13 t.2.2.1 (snt_pro s) (rps_i b) h70))) h70
  exact oq_f aq.2.2 rfl rfl

theorem oq_14 (t : TLE V V' T W' ts f n) (s : SNT V V' f m n x) (b : BEX V V' f m x) (tt : ty7 V (Xi V 890 3 + 1) = 100) (w : ty7 V (re7 (ty7 V) (Xi V 890 3 + 1)) = 7) (zf : z = 0 → Xi U1 876 8 ≠ 0) (tc : (TW14 V U1 z) ∧ FR md_re_tellWay__p V U1) : OQ V' T := by
  have h70 := (po_14 b s.2.2.2.2.1.2 tt w).1.2
  have s7 := (tle_70 t).trans h70
  have wy := s.1.1.2.2.2.2.2.2.2.2.2.2.2.2.2.1.1
  have w51 : Xi T 904 51 ≤ 144 := by rw [t.2.2.2.2.1.2.1.x 904 51 rfl, ← wy.1]; exact wy.2.2
  have aq := akq_14 (tle_a t 0 (akp_14 h70 (ak_14 t.2.2.1 (snt_pro s) (rps_i b) h70))) h70
  exact oq_f aq.2.2 rfl rfl

theorem oq_15u (t : TLE V V' T W' ts f n) (s : SNT V V' f m n x) (b : BEX V V' f m x) (tt : ty7 V (Xi V 890 3 + 1) = 32) (zf : z = 0 → Xi U1 876 8 ≠ 0) (tc : (TUS md_me_readAdjective__p V U1 z (bA (ty7 V) 0) (re7 (ty7 V) (bA (ty7 V) 0)) (Xi V 890 3 + 2) (re7 (ty7 V) (Xi V 890 3 + 2))) ∧ FR md_re_tellUsually__p V U1) : OQ V' T := by
  obtain ⟨⟨_, h70⟩, _, _, h6⟩ := po_15 b s.2.2.2.2.1.2 (Or.inr tt)
  have h76 := (h6 tt).2
  have s7 := (tle_70 t).trans h70
  have cc : Xi V' 904 70 = 15 ∧ Xi V' 904 76 ≠ 0 := ⟨h70, by omega⟩
  have aq := akq_15a (tle_a t 0 (akp_15a cc (ak_15a t.2.2.1 (snt_pro s) (rps_i b) h70 cc.2))) cc
  exact oq_f aq.2.2 rfl rfl

theorem oq_15v (t : TLE V V' T W' ts f n) (s : SNT V V' f m n x) (b : BEX V V' f m x) (hd : ty7 V (Xi V 876 7 - 1) = 103) (kc : kr7 (ty7 V) (Xi V' 904 69).toNat = nf7 (ty7 V) (Xi V 876 7 - 1)) (tt : ty7 V (Xi V 890 3 + 1) = 100) (w : ty7 V (re7 (ty7 V) (Xi V 890 3 + 1)) ≠ 7) (h70 : Xi V' 904 70 = 15) (vc : Xi V' 904 72 = 1 ∧ 1 < r2R V' (Xi V' 904 71) 2 3) (zf : z = 0 → Xi U1 876 8 ≠ 0) (tc : (TVL V U1 z) ∧ FR md_re_tellValues__p V U1) : OQ V' T := by
  have no := b.2.2.2.2.2.2.2.2.1 (Or.inl h70) tt
  have s7 := (tle_70 t).trans h70
  have cc : Xi V' 904 70 = 15 ∧ Xi V' 904 76 = 0 ∧ (Xi V' 904 72 = 1 ∧ 1 < r2R V' (Xi V' 904 71) 2 3 ∧ Xi V' 904 75 = 0) := ⟨h70, no.2, vc.1, vc.2, no.1⟩
  have aq := akq_15b (tle_a t 0 (akp_15b cc (ak_15b t.2.2.1 (rps_i b) h70 no.2 cc.2.2))) cc
  exact oq_f aq.2.2 rfl rfl

theorem oq_16 (t : TLE V V' T W' ts f n) (s : SNT V V' f m n x) (b : BEX V V' f m x) (hd : ty7 V (Xi V 876 7 - 1) = 103) (kc : kr7 (ty7 V) (Xi V' 904 69).toNat = nf7 (ty7 V) (Xi V 876 7 - 1)) (tt : ty7 V (Xi V 890 3 + 1) = 100) (w : ty7 V (re7 (ty7 V) (Xi V 890 3 + 1)) ≠ 7) (h70 : Xi V' 904 70 = 16) (zf : z = 0 → Xi U1 876 8 ≠ 0) (tc : (TVL V U1 z) ∧ FR md_re_tellValues__p V U1) : OQ V' T := by
  have no := b.2.2.2.2.2.2.2.2.1 (Or.inr h70) tt
  have s7 := (tle_70 t).trans h70
  have aq := akq_16 (tle_a t 0 (akp_16 h70 (ak_16 t.2.2.1 no.2 h70))) h70
  exact oq_f aq.2.2 rfl rfl

theorem oq_15p (t : TLE V V' T W' ts f n) (s : SNT V V' f m n x) (b : BEX V V' f m x) (h70 : Xi V' 904 70 = 15) (tt : ty7 V (Xi V 890 3 + 1) = 6 ∨ (ty7 V (Xi V 890 3 + 1) = 100 ∧ ty7 V (re7 (ty7 V) (Xi V 890 3 + 1)) ≠ 7)) (nv : ¬ (ty7 V (Xi V 890 3 + 1) ≠ 6 ∧ Xi V' 904 72 = 1 ∧ 1 < r2R V' (Xi V' 904 71) 2 3)) (w11 : Xi V 891 11 = 0) (hz : z = 0 ∨ z = 1) (zf : z = 0 → Xi U1 876 8 ≠ 0) (tc : (TPN md_me_countReadings__p md_me_readAdjective__p V U1 z) ∧ FR md_re_tellPlain__p V U1) : OQ V' T := by
  have s7 := (tle_70 t).trans h70
  have h77 : 0 ≤ Xi V' 904 77 ∧ Xi V' 904 77 ≤ 1 := t.2.2.1.1.c 904 77
  have h75 : Xi V' 904 76 = 0 ∧ (ty7 V (Xi V 890 3 + 1) = 6 → Xi V' 904 75 = 1) := by
    rcases tt with tt | ⟨tt, w⟩
    · obtain ⟨_, _, h6, _⟩ := po_15 b s.2.2.2.2.1.2 (Or.inl tt)
      exact ⟨(h6 tt).2, fun _ => (h6 tt).1⟩
    · exact ⟨(b.2.2.2.2.2.2.2.2.1 (Or.inl h70) tt).2, fun q => by omega⟩
  have cc : Xi V' 904 70 = 15 ∧ Xi V' 904 76 = 0 ∧ ¬ (Xi V' 904 72 = 1 ∧ 1 < r2R V' (Xi V' 904 71) 2 3 ∧ Xi V' 904 75 = 0) := by
    refine ⟨h70, h75.1, fun y => nv ⟨fun q => ?_, y.1, y.2.1⟩⟩
    have := h75.2 q
    have := y.2.2
    omega
  have aq := akq_15c (tle_a t 0 (akp_15c cc (ak_15c t.2.2.1 (snt_pro s) h70 h75.1 cc.2.2))) cc
  exact oq_f aq.2.2 rfl rfl

end

theorem oq_t9 {V V1 X V' T W' U1 : sS} {ts f n : Nat} {x z : Int} (t : TLE V1 V' T W' ts f n) (ty : ty7 V1 = ty7 V) (e7 : Xi V1 876 7 = Xi V 876 7) (ck : chk (ty7 V) = (1, x)) (so : CKS V1 (ty7 V)) (s9 : 9 ≤ Xi V1 890 2) (w11 : Xi V1 891 11 = 0) (sn : SNB n X V') (ok : Xi V' 904 65 = 0) (e8 : Xi V' 904 8 = f + Xi V 876 7) (tr : tR X f (Xi V 876 7 - 1).toNat = ty7 V) (sp : SPO X V' f (Xi V 876 7 - 1).toNat) (dot : ty7 V (Xi V 876 7 - 1) = 103) (nd : ∀ i : Int, 0 ≤ i → i < Xi V 876 7 - 1 → ty7 V i ≠ 103) (hz : z = 0 ∨ z = 1) (zf : z = 0 → Xi U1 876 8 ≠ 0) (tc : TSP V1 → TSV V1 U1 z) : OQ V' T := by
  have c := t.1
  have tv := tc (tsp_all c (by rw [ty]; exact ck) (by rw [ty]; exact so) s9 w11)
  obtain ⟨g, o⟩ := cks_9 so s9
  obtain ⟨tel, be, s17, s18, s19, s20⟩ := o.2.2 g.2.1 g.2.2
  have h0 : ty7 V 0 ≠ 102 := g.1.1
  have h93 := st_93 tr sp ⟨h0, g.1.2.2.1, g.1.2.2.2.1, g.1.2.2.2.2.1, g.1.2.2.2.2.2.1, g.1.2.2.2.2.2.2⟩
  have cm : CMR V' (ty7 V) f := by
    have u := sp.2.2.2.2.1
    rw [tr] at u
    exact u h0 ok ⟨⟨g.1.2.1, g.1.2.2.1, g.1.2.2.2.1, g.1.2.2.2.2.1, g.1.2.2.2.2.2.1, g.1.2.2.2.2.2.2⟩, g.2.1, g.2.2⟩
  have snt : Xi V' 904 70 ≠ 20 → SNT V1 V' f (Xi V 876 7 - 1).toNat n x := fun q => st_snt t ty e7 ck sn ok tr sp h0 h93 q
  have kc : Xi V' 904 70 ≠ 20 → kr7 (ty7 V1) (Xi V' 904 69).toNat = nf7 (ty7 V1) (Xi V1 876 7 - 1) := fun q => by
    have u := sp.2.2.2.2.2.2.2.2
    rw [tr] at u
    have u := u h0 ok q h93
    rw [e8, show (f : Int) + Xi V 876 7 - 1 - f = Xi V 876 7 - 1 by omega] at u
    rw [ty, e7]
    exact u
  rw [← ty] at g o tel be s17 s18 s19 s20 cm so
  have dot1 : ty7 V1 (Xi V1 876 7 - 1) = 103 := by rw [ty, e7]; exact dot
  by_cases B : kt7 (ty7 V1) = 4 ∨ kt7 (ty7 V1) = 5
  · by_cases nb : bp7 (ty7 V1) 0
    · have cr := cm.2.1 B nb
      exact oq_9 t (snt (by rw [cr.1]; decide)) g B nb tel (be B) cr zf (tv.1 ((be B).1 nb))
    · have cr := cm.1 B nb
      have h70 : 10 ≤ Xi V' 904 70 ∧ Xi V' 904 70 ≤ 16 := by
        obtain ⟨_, a, _, ⟨r10, r11, r12, r15, rf, r13⟩, _⟩ := cr
        generalize ty7 V1 = Q at *
        by_cases c10 : Q a = 0 ∧ Q (a + 1) = 18
        · have := (r10 c10).1; omega
        by_cases c11 : Q a = 1 ∧ Q (a + 1) = 27
        · have := (r11 c11).1; omega
        by_cases c12 : art7 (Q a)
        · have := (r12 c12 c10 c11).1; omega
        by_cases c15 : Q a = 6 ∨ Q a = 32
        · have := (r15 c15).1; omega
        by_cases cf : Q a = 100
        · obtain ⟨_, h2, h3, h4⟩ := rf cf
          by_cases u : Q (re7 Q a) = 7
          · have := (h2 u).1; omega
          · by_cases w : Q (re7 Q a) = 16 ∨ Q (re7 Q a) = 104
            · have := h3 w; omega
            · have := h4 u (by omega) (by omega); omega
        · have := (r13 cf (by omega) (by omega) c12).1; omega
      have s := snt (by omega)
      have lq := rpv_10 t.2.2.1 h70
      have b : BEX V1 V' f (Xi V 876 7 - 1).toNat x := bex_i s.2.2.1 s.2.2.2.1 g.1 g.2.1 g.2.2 B nb tel (be B) cr s.2.2.2.2.1.1 lq.2 lq.1
      have bs := b.2.2.2.2.2.2.2.2.2.2
      have bv := bes_v (T := ty7 V1) (a := Xi V1 890 3 + 1)
      rw [← bs] at bv
      obtain ⟨b10, b11, b12, b13, b15, bf⟩ := bv
      have ckT := b.2.2.1
      by_cases c10 : ty7 V1 (Xi V1 890 3 + 1) = 0 ∧ ty7 V1 (Xi V1 890 3 + 1 + 1) = 18
      · exact oq_10 t s b c10 hz zf (tv.2.1 (b10 c10))
      by_cases c11 : ty7 V1 (Xi V1 890 3 + 1) = 1 ∧ ty7 V1 (Xi V1 890 3 + 1 + 1) = 27
      · exact oq_11 t s b c11 zf (tv.2.2.1 (b11 c11))
      by_cases c12 : art7 (ty7 V1 (Xi V1 890 3 + 1))
      · exact oq_12 t s b c10 c11 c12 hz zf (tv.2.2.2.1 (Or.inl (b12 c10 c11 c12)))
      by_cases c13 : pl7 (ty7 V1 (Xi V1 890 3 + 1))
      · exact oq_13 t s b c12 c13 hz zf (tv.2.2.2.1 (Or.inr (b13 c12 c13)))
      obtain ⟨q1, q2⟩ := ckT_R c12 c13 ckT
      by_cases c32 : ty7 V1 (Xi V1 890 3 + 1) = 32
      · exact oq_15u t s b c32 zf ((tv.2.2.2.2.2.1 (b15 (Or.inr c32))).1 c32)
      by_cases c6 : ty7 V1 (Xi V1 890 3 + 1) = 6
      · have h15 := (po_15 b s.2.2.2.2.1.2 (Or.inl c6)).1.2
        refine oq_15p t s b h15 (Or.inl c6) (fun y => y.1 c6) w11 hz zf (((tv.2.2.2.2.2.1 (b15 (Or.inl c6))).2 c32).2 (fun y => y.1 c6))
      have cf := (q2 c6 c32).1
      obtain ⟨f7, f16, f15⟩ := bf cf
      by_cases c7 : ty7 V1 (re7 (ty7 V1) (Xi V1 890 3 + 1)) = 7
      · exact oq_14 t s b cf c7 zf (tv.2.2.2.2.1 (f7 c7))
      by_cases c16 : ty7 V1 (re7 (ty7 V1) (Xi V1 890 3 + 1)) = 16 ∨ ty7 V1 (re7 (ty7 V1) (Xi V1 890 3 + 1)) = 104
      · have u := f16 c16
        have h16 : Xi V' 904 70 = 16 := by
          rcases (po_16 b s.2.2.2.2.1.2 cf c7).1 with y | y
          · omega
          · exact y.2
        exact oq_16 t s b dot1 (kc (by omega)) cf c7 h16 zf (tv.2.2.2.2.2.2.1 u)
      · have u := f15 c7 (by omega) (by omega)
        have h15 : Xi V' 904 70 = 15 := by
          rcases (po_16 b s.2.2.2.2.1.2 cf c7).1 with y | y
          · exact y.2.1
          · omega
        have tv15 := (tv.2.2.2.2.2.1 u).2 c32
        have vc := val_c s b
        by_cases v : sn2 V1 = -1 ∧ tv5 V1 (bA (ty7 V1) 0) (re7 (ty7 V1) (bA (ty7 V1) 0)) ≠ -1
        · exact oq_15v t s b dot1 (kc (by omega)) cf c7 h15 (vc.1 v) zf (tv15.1 ⟨c6, v⟩)
        · exact oq_15p t s b h15 (Or.inr ⟨cf, c7⟩) (fun y => v (vc.2 y.2)) w11 hz zf (tv15.2 (fun y => v y.2))
  obtain ⟨r17, r18, r19, r20⟩ := cm.2.2 B
  by_cases H : kt7 (ty7 V1) = 12
  · exact oq_17 t (snt (by rw [r17 H]; decide)) g H (r17 H) tel zf (tv.2.2.2.2.2.2.2.1 (s17 H))
  by_cases C : kt7 (ty7 V1) = 13
  · exact oq_18 t (snt (by rw [r18 C]; decide)) g C (r18 C) tel zf (tv.2.2.2.2.2.2.2.2.1 (s18 C))
  by_cases R : kt7 (ty7 V1) = 21
  · have on : ONR V' (ty7 V1) := by
      have u := sp.2.2.2.2.2.2.1
      rw [tr] at u
      rw [ty] at R g ⊢
      exact u h0 ok ⟨⟨g.1.2.1, g.1.2.2.1, g.1.2.2.2.1, g.1.2.2.2.2.1, g.1.2.2.2.2.2.1, g.1.2.2.2.2.2.2⟩, g.2.1, g.2.2⟩ R
    exact oq_19 t (snt (by rw [r19 R]; decide)) g R (r19 R) tel on zf (tv.2.2.2.2.2.2.2.2.2.1 (s19 R))
  · refine oq_20 t (r20 H C R) dot1 (fun i i0 i1 => ?_) zf (tv.2.2.2.2.2.2.2.2.2.2 (s20 B H C R))
    rw [ty]
    exact nd i i0 (by omega)

/-! one sentence of both: those that are told by how they begin -/

theorem oq_t0 {V V1 X V' T W' U1 : sS} {ts f n : Nat} {x z : Int} (t : TLE V1 V' T W' ts f n) (ty : ty7 V1 = ty7 V) (e7 : Xi V1 876 7 = Xi V 876 7) (ck : chk (ty7 V) = (1, x)) (so : CKS V1 (ty7 V)) (s9 : Xi V1 890 2 < 9) (sn : SNB n X V') (ok : Xi V' 904 65 = 0) (eX : Xi X 904 8 = f) (e8 : Xi V' 904 8 = f + Xi V 876 7) (hN : ty7 V 0 ≠ 102 → (VLR X f (Xi V 876 7 - 1).toNat ∧ tR X f (Xi V 876 7 - 1).toNat = ty7 V ∧ SPO X V' f (Xi V 876 7 - 1).toNat) ∧ ty7 V (Xi V 876 7 - 1) = 103 ∧ ∀ i : Int, 0 ≤ i → i < Xi V 876 7 - 1 → ty7 V i ≠ 103) (h102 : ty7 V 0 = 102 → Xi V' 904 70 = 0 ∧ Xi V' 904 81 = f) (zf : z = 0 → Xi U1 876 8 ≠ 0) (tc : BGP V1 ts → BGV V1 U1 ts z) : OQ V' T := by
  have c := t.1
  have e := t.2.1
  have ck1 : chk (ty7 V1) = (1, x) := by rw [ty]; exact ck
  have so1 : CKS V1 (ty7 V1) := by rw [ty]; exact so
  have dot1 : ty7 V 0 ≠ 102 → ty7 V1 (Xi V1 876 7 - 1) = 103 := fun q => by rw [ty, e7]; exact (hN q).2.1
  have sor : ty7 V 0 ≠ 102 → SOR V' (ty7 V) := fun q => by
    have u := (hN q).1.2.2.2.2.1
    rw [(hN q).1.2.1] at u
    exact u q
  have p2 : ty7 V1 0 = 35 → BP2 V1 := fun q => by
    have q' : ty7 V 0 = 35 := by rw [← ty]; exact q
    exact bp2_i c e q (st_de t ty e7 sn ok eX e8 q') (dot1 (by omega))
  have p3 : (ty7 V1 0 = 38 ∨ ty7 V1 0 = 40 ∨ ty7 V1 0 = 39 ∨ ty7 V1 0 = 41) → BP3 V1 ts := fun q => by
    have cl := cks_lt so1 s9 (fun o g => ots_9 c ck1 o g)
    have q2 : (ty7 V 0 = 38 ∧ Xi V1 890 2 = 3) ∨ (ty7 V 0 = 40 ∧ Xi V1 890 2 = 4) ∨ (ty7 V 0 = 39 ∧ Xi V1 890 2 = 5) ∨ (ty7 V 0 = 41 ∧ Xi V1 890 2 = 6) := by
      rw [← ty]
      omega
    exact bp3_i c e (s := Xi V1 890 2) (by omega) rfl (by omega) (st_ru t ty e7 sn ok eX e8 q2) (dot1 (by omega))
  have bv := tc (bgp_all c ck1 so1 s9 p2 p3)
  have snt : ty7 V 0 ≠ 102 → (ty7 V 0 = 33 ∨ ty7 V 0 = 2) → Xi V' 904 70 ≠ 20 → SNT V1 V' f (Xi V 876 7 - 1).toNat n x := fun a b q => st_snt t ty e7 ck sn ok (hN a).1.2.1 (hN a).1.2.2 a (st_93 (hN a).1.2.1 (hN a).1.2.2 (by omega)) q
  rcases cks_lt so1 s9 (fun o g => ots_9 c ck1 o g) with ⟨a, q⟩ | ⟨a, q⟩ | ⟨a, q⟩ | h | ⟨a, q⟩ | ⟨a, q⟩
  · have a' : ty7 V 0 = 102 := by rw [← ty]; exact a
    exact oq_0 t (h102 a').1 a (h102 a').2 zf (bv.1 q)
  · have a' : ty7 V 0 = 33 := by rw [← ty]; exact a
    have h70 := (sor (by omega)).1 a'
    have e81 : Xi V' 904 81 = f + 1 := by
      have u := (hN (by omega)).1.2.2.2.2.2.2.2.1
      rw [(hN (by omega)).1.2.1] at u
      exact u a' ok
    exact oq_1 t (snt (by omega) (Or.inl a') (by omega)) a h70 e81 zf (bv.2.1 q)
  · have a' : ty7 V 0 = 35 := by rw [← ty]; exact a
    have h70 := (sor (by omega)).2.1 a'
    exact oq_2 t h70 (st_de t ty e7 sn ok eX e8 a') (dot1 (by omega)) zf (bv.2.2.1 q)
  · have h' : (ty7 V 0 = 38 ∧ Xi V1 890 2 = 3) ∨ (ty7 V 0 = 40 ∧ Xi V1 890 2 = 4) ∨ (ty7 V 0 = 39 ∧ Xi V1 890 2 = 5) ∨ (ty7 V 0 = 41 ∧ Xi V1 890 2 = 6) := by rw [← ty]; exact h
    have so' := sor (by omega)
    have h70 : Xi V' 904 70 = Xi V1 890 2 := by
      rcases h' with ⟨y, w⟩ | ⟨y, w⟩ | ⟨y, w⟩ | ⟨y, w⟩
      · rw [so'.2.2.1 y, w]
      · rw [so'.2.2.2.1 y, w]
      · rw [so'.2.2.2.2.1 y, w]
      · rw [so'.2.2.2.2.2.1 y, w]
    exact oq_3 t (s := Xi V1 890 2) (by omega) rfl h70 (st_ru t ty e7 sn ok eX e8 h') (dot1 (by omega)) zf (bv.2.2.2.2.2 (by omega) (by omega))
  · have a' : ty7 V 0 = 2 ∧ ty7 V 1 = 25 := by rw [← ty]; exact a
    have h70 := (sor (by omega)).2.2.2.2.2.2.1 a'.1 a'.2
    exact oq_7 t (snt (by omega) (Or.inr a'.1) (by omega)) a.1 a.2 h70 zf (bv.2.2.2.1 q)
  · have a' : ty7 V 0 = 2 ∧ ty7 V 1 = 19 := by rw [← ty]; exact a
    have h70 := (sor (by omega)).2.2.2.2.2.2.2 a'.1 a'.2
    exact oq_8 t (snt (by omega) (Or.inr a'.1) (by omega)) a.1 a.2 h70 zf (bv.2.2.2.2.1 q)

/-! READING: no sentence writes (reference) -/
theorem oq_fl {n : Nat} {X V S1 : sS} {c p : Int} (sn : SNB n X V) (fl : FLD V S1 c p) : OQ X S1 := (oq_f sn.2.1 rfl rfl).tr (oq_f fl.1 rfl rfl)
theorem oq_a {U V U1 X S1 : sS} {ts f n : Nat} {e a z a1 : Int} (x : TXB U X ts n e) (ht : tp ts) (hf : f < n) (e8 : Xi X 904 8 = f) (hp : Xi X 908 f = a) (c : CS0 ts U a V z a1) (t : ty7 V (Xi V 876 6 - 1) = 108) (w : WRG V U1 1 (Xi V 876 7 - 1)) (r : RSS n X S1) : OQ X S1 := by
  obtain ⟨x', k, f0, r1⟩ := st_pre x ht hf hp c
  have e6 : Xi V 876 6 = Xi V 876 7 := c.2.1.2.2.2.2.1.1
  rw [e6, ty7_i (by omega) (by omega)] at t
  obtain ⟨rp, od, V', o, sn, r⟩ := r
  rw [e8] at o
  have od' := (odd_r x' k r1 hf o).1 t
  obtain ⟨u1, u2⟩ := w.2.2.1 f0
  have pl := st_pl k (i := Xi V 876 7 - 1) (by omega) (by omega)
  rcases r with ⟨q, fl⟩ | ⟨q, _⟩ | ⟨q, _⟩
  · exact oq_fl sn fl
  · omega
  · omega

theorem oq_g0 {U V W U1 X S1 : sS} {ts f n : Nat} {e a z a1 : Int} (x : TXB U X ts n e) (ht : tp ts) (hf : f < n) (e8 : Xi X 904 8 = f) (hp : Xi X 908 f = a) (c : CS1 ts U a V W z a1 0) (w : WRG W U1 2 (Xi W 890 1)) (r : RSS n X S1) : OQ X S1 := by
  obtain ⟨c0, t8, hW, F, _, ck, _, _, _, _, _⟩ := c
  obtain ⟨x', k, f0, r1⟩ := st_pre x ht hf hp c0
  have e6 : Xi V 876 6 = Xi V 876 7 := c0.2.1.2.2.2.2.1.1
  rw [e6, ty7_i (by omega) (by omega)] at t8
  obtain ⟨ck, rg, _⟩ := ck (st_ln x' k r1)
  have h0 := chk_b0 ck
  have t0 : Xi V 877 0 ≠ 102 := fun q => h0 (by rw [ty7_i (Int.le_refl _) (by omega)]; exact q)
  obtain ⟨vl, tr, _, _, en, _⟩ := snk_v x' k r1 hf t8 t0
  have n5 := x'.2.2.2.2.2.1
  have l := (k.1 (Xi V 876 7 - 1).toNat (by omega)).1
  have ub := ub_chk en (by omega) ck
  have nb : Xi V 876 7 - 1 ≤ 5000 := by omega
  obtain ⟨rp, od, V', o, sn, r⟩ := r
  rw [e8] at o
  have od' := (odd_r x' k r1 hf o).2 t8
  have ef : (Xi X 904 8).toNat = f := by omega
  have sp := (sn.2.2.2.2.2.2.2.2.2.1 (Xi V 876 7 - 1).toNat (by rw [ef]; exact vl)).1
  rw [ef, tr] at sp
  have cu' := sp h0
  rw [chk_e (N := Xi V 876 7 - 1) en.2 nb h0, ck] at cu'
  have bad : Xi V' 904 65 ≠ 0 := fun q => by
    rw [cu_ok q] at cu'
    exact absurd (show (0 : Int) = 1 from congrArg Prod.fst cu') (by decide)
  rw [cu_bad bad] at cu'
  have eb : Xi W 890 1 = Xi V' 904 66 - f := congrArg Prod.snd cu'
  have fW : Xi W 876 8 = 0 := by rw [F.x 876 8 rfl]; exact f0
  obtain ⟨u1, u2⟩ := w.2.2.1 fW
  have pl := st_pl k (i := Xi W 890 1) (by omega) (by omega)
  have pW : pc7 W (Xi W 890 1) = pc7 V (Xi W 890 1) := by
    unfold pc7
    rw [F.x 876 7 rfl, F.x 878 _ rfl, F.x 876 5 rfl]
  rcases r with ⟨q, fl⟩ | ⟨q, _, fl⟩ | ⟨q, q2, _⟩
  · omega
  · exact oq_fl sn fl
  · exact absurd q2 bad

theorem oq_st {U U1 X S1 : sS} {ts n : Nat} {e a a1 k : Int} (j : JOK ts n e U X a k) (ht : tp ts) (c : CST ts U a U1 a1) (r : RSS n X S1) : OQ X S1 := by
  obtain ⟨⟨f0, g0, hk⟩, x, a0, ob, f, e8, fn, p1, p2⟩ := j
  obtain ⟨V, z, h⟩ := c
  have lt : ∀ {V : sS} {z a1 : Int}, CS0 ts U a V z a1 → f < n := fun c0 => by
    by_cases q : f < n
    · exact q
    · have u := p2 (by omega)
      have v := c0.1.2.2.2.2.2.1
      rw [x.2.2.2.1] at v
      omega
  rcases h with ⟨c0, t, w⟩ | ⟨W, c, c1, w0, wb, wt⟩
  · have hf := lt c0
    exact (oq_a x ht hf e8 (p1 hf).1 c0 t w r)
  have hf := lt c1.1
  have hp := (p1 hf).1
  have hc := c1.2.2.2.2.1
  rcases hc with hc | hc
  · subst hc
    exact (oq_g0 x ht hf e8 hp c1 (w0 rfl) r)
  subst hc
  obtain ⟨x', kk, _, r1⟩ := st_pre x ht hf hp c1.1
  have t8 := c1.2.1
  have e6 : Xi V 876 6 = Xi V 876 7 := c1.1.2.1.2.2.2.2.1.1
  rw [e6, ty7_i (by omega) (by omega)] at t8
  have hW : HI W := c1.2.2.1
  obtain ⟨rp, od, V', o, sn, r⟩ := r
  rw [e8] at o
  have od' := (odd_r x' kk r1 hf o).2 t8
  obtain ⟨⟨ck, so⟩, ⟨ok, e8'⟩, ⟨ps0, ps1, ps2⟩, hN, h102⟩ := st_g1 x ht hf e8 hp c1 sn
  rcases r with ⟨q, _⟩ | ⟨_, q, _⟩ | ⟨_, _, T, W', Y, as, wt', ds, fy, ey, es⟩
  · exact absurd od' q
  · exact absurd ok q
  rw [e8] at as ds
  -- what the class tells
  have key : OQ V' T := by
    by_cases s9 : 9 ≤ Xi W 890 2
    · obtain ⟨z', F, h1, hz, _, zf, imp⟩ := wt rfl s9
      have F1 : FR [(891, 892, 9, 10), (891, 892, 11, 12)] W (uI (uI W 891 9 (Int32.ofInt 0)) 891 11 (Int32.ofInt 0)) := FR.wI (FR.wI FR.rf rfl) rfl
      have hV1 : HI (uI (uI W 891 9 (Int32.ofInt 0)) 891 11 (Int32.ofInt 0)) := HI_w (HI_w hW (by decide) (by decide)) (by decide) (by decide)
      have n9 : Xi (uI (uI W 891 9 (Int32.ofInt 0)) 891 11 (Int32.ofInt 0)) 891 9 = 0 := by rw [Xi_ne (by omega)]; exact Xi_same (by unfold rg; omega)
      have n11 : Xi (uI (uI W 891 9 (Int32.ofInt 0)) 891 11 (Int32.ofInt 0)) 891 11 = 0 := Xi_same (by unfold rg; omega)
      obtain ⟨t, ty, e7, q2, q3⟩ := st_tle x ht hf hp a0 ob rp c1 sn ok F1 hV1 n9 as ds
      have so1 := cks_k q2 q3 so
      have h0 : ty7 V 0 ≠ 102 := (cks_9 so1 (by omega)).1.1.1
      obtain ⟨⟨_, tr, sp⟩, dot, nd⟩ := hN h0
      exact oq_t9 t ty e7 ck so1 (by omega) n11 sn ok e8' tr sp dot nd hz zf imp
    · obtain ⟨z', F, h1, hz, _, zf, imp⟩ := wb rfl (by omega)
      have F1 : FR [(891, 892, 9, 10), (891, 892, 11, 12)] W (uI W 891 9 (Int32.ofInt 0)) := FR.wI FR.rf rfl
      have hV1 : HI (uI W 891 9 (Int32.ofInt 0)) := HI_w hW (by decide) (by decide)
      have n9 : Xi (uI W 891 9 (Int32.ofInt 0)) 891 9 = 0 := Xi_same (by unfold rg; omega)
      obtain ⟨t, ty, e7, q2, q3⟩ := st_tle x ht hf hp a0 ob rp c1 sn ok F1 hV1 n9 as ds
      exact oq_t0 t ty e7 ck (cks_k q2 q3 so) (by omega) sn ok e8 e8' hN h102 zf imp
  have o1 : OQ X T := (oq_f sn.2.1 rfl rfl).tr key
  have o2 : OQ X W' := by
    by_cases q : Xi T 904 106 = 0
    · exact o1.tr (oq_f (ds q).2.1 rfl rfl)
    · rw [wt' q]; exact o1
  have o3 : OQ X Y := by
    by_cases q : Xi W' 904 106 = 0
    · rw [ey q]; exact o2
    · exact o2.tr (oq_f (fy q).1 rfl rfl)
  rw [es]
  exact (o3.tr (oq_w (Or.inr (by decide)))).tr (oq_w (Or.inr (by decide)))

/-- the page of the reference is empty, and it isn't dry -/
def OZ7 (X : sS) : Prop := Xi X 904 156 = 0 ∧ Xi X 904 157 = 0
theorem OZ7.s {X S : sS} (h : OZ7 X) (o : OQ X S) : OZ7 S := ⟨o.1.trans h.1, o.2 h.2⟩
theorem oz_all {ts n : Nat} {e : Int} (ht : tp ts) : ∀ (N K : Nat) {U X U' R : sS} {a a' k : Int}, JO2 ts n e U X a k → OZ7 X → k ≤ a → PCS ts N U a U' a' → RCS n K X R → ¬ (a' < Xi U' 876 5 ∧ k + N < Xi U' 876 5 ∧ Xi U' 876 8 = 0) → OZ7 R
  | _, 0, U, X, U', R, a, a', k, j, oz, ka, pc, rc, st => by
    have rc : R = X := rc
    rw [rc]; exact oz
  | 0, K + 1, U, X, U', R, a, a', k, j, oz, ka, pc, rc, st => by
    obtain ⟨rfl, rfl⟩ := pc
    obtain ⟨⟨f0, g0, hk⟩, x, a0, ob, f, e8, fn, p1, p2⟩ := j.1
    have he := x.2.2.2.1
    have tk1 := x.2.2.2.2.2.2.1
    have ef : f = n := by
      by_cases q : f < n
      · have u := (p1 q).2
        exact absurd ⟨by omega, by omega, f0⟩ st
      · omega
    have o1 : Xi X 907 (Xi X 904 8).toNat = 1 := by rw [e8, ef, show ((n : Nat) : Int).toNat = n by omega]; exact tk1
    obtain ⟨Y, s, _⟩ := rc
    exact absurd o1 s.1.2.2.2.2.2.2.2.2.1
  | N + 1, K + 1, U, X, U', R, a, a', k, j, oz, ka, pc, rc, st => by
    obtain ⟨X1, c, cs, pc⟩ := pc
    obtain ⟨Y, s, rc⟩ := rc
    have oy : OZ7 Y := oz.s (oq_st j.1 ht cs s)
    rcases st_step2 j ht cs s with m | ⟨m, lt⟩
    · cases K with
      | zero =>
        have rc : R = Y := rc
        rw [rc]; exact oy
      | succ K =>
        obtain ⟨_, s2, _⟩ := rc
        have w := s2.1.2.2.2.2.2.2.2.2.2
        rw [m.2.1] at w
        exact absurd w m.1
    · exact oz_all ht N K m oy (by omega) pc rc (by rw [show k + 1 + (N : Int) = k + ((N + 1 : Nat) : Int) by omega]; exact st)

theorem oz_two {S Q U R : sS} {ts : Nat} {N : Int} (ht : tp ts) (e1 : Xi S 0 10 = Xi Q 904 1) (ky : KEYR (Xj S 880) (Xj Q 911)) (yt : ∀ j : Nat, (j : Int) < Xi S 0 10 → Xi S ts j = Xi Q 905 j) (kS : (∀ j : Nat, Xj U 880 j = Xj S 880 j) ∧ (∀ j : Nat, Xi U 902 j = Xi S 902 j) ∧ ∀ j : Nat, Xi U 903 j = Xi S 903 j) (r : RTX S ts N U) (d0 : Xi Q 904 157 = 0) (s : SRY Q R) : OZ7 R := by
  obtain ⟨a, ⟨U0, a0, n0, ⟨hU, _, s20⟩, op, u5, u8, ea, pc⟩, st⟩ := r
  obtain ⟨n, B, hB, bg, _, _, ry, sr⟩ := s
  have kU := pch_f _ pc
  have k0 : Xj U0 880 = Xj S 880 := funext fun j => (kU.j 880 rfl j).symm.trans (kS.1 j)
  have kt : Xi U0 ts = Xi S ts := by
    funext j
    rcases ht with q | q <;> rw [q]
    · exact (kU.x 902 rfl j).symm.trans (kS.2.1 j)
    · exact (kU.x 903 rfl j).symm.trans (kS.2.2 j)
  have j0 : JO2 ts n (Xi S 0 10) U0 (rs0 B) (sk7 (Xi U0 ts) (Xi S 0 10) 0) 0 := ⟨jok_0 ht hU op u5 u8 s20 hB bg e1.symm (fun j hj => by rw [kt]; exact yt j hj) (by rw [k0]; exact ky), exi_0 op bg (sk_ge _ 0 (Int.le_refl 0) (Int.self_le_toNat _))⟩
  rw [u5] at ea
  rw [← ea] at j0
  have tkn := j0.1.2.1.2.2.2.2.2
  have rb : Xi (rs0 B) 907 0 = Xi B 907 0 := rs0_x (fun w => absurd w (by decide))
  have n1 : Xi B 907 0 = 1 ↔ n = 0 := by
    rw [← rb]
    constructor
    · intro q
      by_cases w : n = 0
      · exact w
      · exact absurd q (tkn.2.2.1 0 (by omega))
    · intro q
      have t := tkn.2.1
      rw [q] at t
      exact t
  have h10 : Xi U 876 5 = Xi S 0 10 := by rw [kU.f 876 5 (by decide)]; exact u5
  have zB : OZ7 B := by
    obtain ⟨C, hC, ⟨_, _, _, _, _, kk⟩, ev, FB⟩ := bg
    refine ⟨fr904_156 (kn_r hC ev), ?_⟩
    rw [FB.x 904 157 rfl, kk.f 904 157 (by decide)]
    exact d0
  have z0 : OZ7 (rs0 B) := by
    have FR0 : FR [(904, 905, 62, 63), (904, 905, 61, 62), (904, 905, 8, 9)] B (rs0 B) := FR.wI (FR.wI (FR.wI FR.rf rfl) rfl) rfl
    exact zB.s (oq_f FR0 rfl rfl)
  rcases ry with ⟨w, K, rc⟩ | ⟨w, fl⟩
  · have nn : n ≠ 0 := fun q => w (n1.2 q)
    exact oz_all ht N.toNat K j0 z0 (by
      obtain ⟨_, _, _, _, f, e8, fn, p1, p2⟩ := j0.1
      have z8 : Xi (rs0 B) 904 8 = 0 := Xi_same (by unfold rg; omega)
      have f0 : f = 0 := by omega
      have u := (p1 (by omega)).1
      have v := (hB.c 908 0).1
      rw [f0, rs0_x (fun w => absurd w (by decide))] at u
      have v : 0 ≤ Xi B 908 0 := v
      omega) (pch_s _ pc) (rc7_s _ rc) (by rw [show (0 : Int) + ((N.toNat : Nat) : Int) = N by omega]; exact st)
  · exact z0.s (oq_f fl.1 rfl rfl)

theorem oz_read {S Q S1 Q1 : sS} {ts : Nat} {z w : Int} (ht : tp ts) (e1 : Xi S 0 10 = Xi Q 904 1) (ky : KEYR (Xj S 880) (Xj Q 911)) (yt : ∀ j : Nat, (j : Int) < Xi S 0 10 → Xi S ts j = Xi Q 905 j) (d0 : Xi Q 904 157 = 0) (FS : FR md_rs_read__t S S1) (r : RFN S ts S1 z) (m : MRN Q Q1 w) : OZ7 Q1 := by
  have kA : KEP [(880, 881), (902, 904)] [] S S1 := FS.kep rfl
  have back : ∀ {U : sS}, KEP [(880, 881), (902, 904)] [] U S1 → (∀ j : Nat, Xj U 880 j = Xj S 880 j) ∧ (∀ j : Nat, Xi U 902 j = Xi S 902 j) ∧ ∀ j : Nat, Xi U 903 j = Xi S 903 j := fun k => ⟨fun j => (k.j 880 rfl j).symm.trans (kA.j 880 rfl j), fun j => (k.x 902 rfl j).symm.trans (kA.x 902 rfl j), fun j => (k.x 903 rfl j).symm.trans (kA.x 903 rfl j)⟩
  have key : ∀ R : sS, SRY Q R → OZ7 R := fun R sR => by
    rcases r with ⟨n, X, ⟨U, W, rt, w0, w1, eX⟩, f8, ez, hX, ev, FX⟩ | ⟨Y, ⟨X, ⟨U, W, rt, w0, w1, eX⟩, f8, hX, evp, FP⟩, hY, evo, FO⟩
    · have kW : KEP [(880, 881), (902, 904)] [] U W := by
        by_cases q : n = 0
        · exact (w0 q).1.kep rfl
        · rw [w1 q]; exact KEP.rf
      have kX : KEP [(880, 881), (902, 904)] [] W X := by rw [eX]; exact (FR.wI (m := [(0, 1, 11, 12)]) FR.rf rfl).kep rfl
      exact oz_two ht e1 ky yt (back (KEP.tr kW (KEP.tr kX (FX.kep rfl)))) rt d0 sR
    · have kW : KEP [(880, 881), (902, 904)] [] U W := by
        by_cases q : z = 0
        · exact (w0 q).1.kep rfl
        · rw [w1 q]; exact KEP.rf
      have kX : KEP [(880, 881), (902, 904)] [] W X := by rw [eX]; exact (FR.wI (m := [(0, 1, 11, 12)]) FR.rf rfl).kep rfl
      exact oz_two ht e1 ky yt (back (KEP.tr kW (KEP.tr kX (KEP.tr (FP.kep rfl) (FO.kep rfl))))) rt d0 sR
  rcases m with ⟨R, sR, _, _, evr, FB⟩ | ⟨R, sR, _, _, pl⟩
  · have o := key R sR
    obtain ⟨_, _, _, _, _, hR, _⟩ := sR
    exact ⟨fr904_156 (kn_r hR evr), by rw [FB.x 904 157 rfl]; exact o.2⟩
  · have o := key R sR
    rcases pl with ⟨e, _⟩ | ⟨_, o', _, _, _, e⟩
    · rw [e]; exact o
    · rw [e]
      exact o.s ((oq_w (Or.inl (by decide))).tr (oq_w (Or.inl (by decide))))
end
