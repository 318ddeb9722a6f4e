/-! SAFETY of methods: printed by wip/safe (vc.py, decl.py) -/
/-! SAFETY of the reference: reading on; what is noted of tests and phrases -/
theorem at_fr {S P : sS} {n c : Nat} (hA : AT S n c) (f7 : ∀ j, Xi P 907 j = Xi S 907 j) (f9 : ∀ j, Xi P 908 j = Xi S 908 j) (x8 : Xi P 904 8 = Xi S 904 8) (x65 : Xi P 904 65 = Xi S 904 65) (x69 : Xi P 904 69 = Xi S 904 69) (x93 : Xi P 904 93 = Xi S 904 93) : AT P n c := by
  unfold AT
  rw [x8, x65, x69, x93, f7, f9]
  exact hA
theorem tk_fr {S P : sS} {n : Nat} (hT : TK S n) (f7 : ∀ j, Xi P 907 j = Xi S 907 j) (f9 : ∀ j, Xi P 908 j = Xi S 908 j) : TK P n := by
  unfold TK
  simp only [f7, f9]
  exact hT
/-- one token further -/
theorem at_mv {S P U : sS} {n c c2 : Nat} {v : Int} (hT : TK S n) (hA : AT S n c) (f7 : ∀ j, Xi P 907 j = Xi S 907 j) (f9 : ∀ j, Xi P 908 j = Xi S 908 j) (x8 : Xi P 904 8 = Xi S 904 8) (x65 : Xi P 904 65 = Xi S 904 65) (x69 : Xi P 904 69 = Xi S 904 69) (x93 : Xi P 904 93 = Xi S 904 93) (e : U = uI P 904 8 (Int32.ofInt v)) (hv : v = Xi S 904 8 + 1) (h0 : 0 ≤ Xi S 904 8) (hb : Xi S 904 65 = 0) (h1 : Xi S 907 (Xi S 904 8).toNat ≠ 1) (hc : c2 = c ∨ (c2 = c + 1 ∧ K3 (Xi S 907 (Xi S 904 8).toNat))) : AT U n c2 ∧ Xi U 904 8 = Xi S 904 8 + 1 ∧ Xi S 904 8 + 1 ≤ n := by
  have lt := tk_lt hT h0 (hA hb).1 h1
  have hn := hT.1
  refine ⟨at_up (tk_fr hT f7 f9) (at_fr hA f7 f9 x8 x65 x69 x93) e (by omega) (by omega) (by omega) (by rw [x8, f7]; exact h1) (by rw [x8, f7]; exact hc), ?_, by omega⟩
  rw [e, hv]; exact Xi_same ⟨by omega, by omega⟩
/-- two tokens further -/
theorem at_mv2 {S P U : sS} {n c : Nat} {v : Int} (hT : TK S n) (hA : AT S n c) (f7 : ∀ j, Xi P 907 j = Xi S 907 j) (f9 : ∀ j, Xi P 908 j = Xi S 908 j) (x8 : Xi P 904 8 = Xi S 904 8) (x65 : Xi P 904 65 = Xi S 904 65) (x69 : Xi P 904 69 = Xi S 904 69) (x93 : Xi P 904 93 = Xi S 904 93) (e : U = uI P 904 8 (Int32.ofInt v)) (hv : v = Xi S 904 8 + 2) (h0 : 0 ≤ Xi S 904 8) (hb : Xi S 904 65 = 0) (h1 : Xi S 907 (Xi S 904 8).toNat ≠ 1) (h2 : Xi S 907 (Xi S 904 8 + 1).toNat ≠ 1) : AT U n c ∧ Xi U 904 8 = Xi S 904 8 + 2 ∧ Xi S 904 8 + 2 ≤ n := by
  have lt := tk_lt hT h0 (hA hb).1 h1
  have lt2 := tk_lt hT (a := Xi S 904 8 + 1) (by omega) (by omega) h2
  have hn := hT.1
  refine ⟨(at_up2 (tk_fr hT f7 f9) (at_fr hA f7 f9 x8 x65 x69 x93) e (by omega) (by omega) (by omega) (by rw [x8, f7]; exact h1) (by rw [x8, f7]; exact h2)).1, ?_, by omega⟩
  rw [e, hv]; exact Xi_same ⟨by omega, by omega⟩
/-- entries below m stay -/
def KT (T S : sS) (m : Int) : Prop := ∀ i : Nat, (i : Int) < m → ∀ k : Nat, 952 ≤ k → k ≤ 962 → Xi T k i = Xi S k i
theorem KT.rf {S : sS} {m : Int} : KT S S m := fun _ _ _ _ _ => rfl
theorem KT.tr {S T U : sS} {m m2 : Int} (h : KT T S m) (g : KT U T m2) (e : m ≤ m2) : KT U S m := fun i hi k a b => (g i (by omega) k a b).trans (h i hi k a b)
theorem kdis_x {l : List rec} {S T : sS} (f : FR l S T) (e : kdis l [(952, 963)] = true) (k : Nat) (a : 952 ≤ k) (b : k ≤ 962) (i : Nat) : Xi T k i = Xi S k i := by
  have q := f.smk e
  rcases (by omega : k = 952 ∨ k = 953 ∨ k = 954 ∨ k = 955 ∨ k = 956 ∨ k = 957 ∨ k = 958 ∨ k = 959 ∨ k = 960 ∨ k = 961 ∨ k = 962) with h | h | h | h | h | h | h | h | h | h | h <;> subst h <;> exact q.x _ rfl i
theorem KT_FR {l : List rec} {T U S : sS} {m : Int} (f : FR l T U) (e : kdis l [(952, 963)] = true) (h : KT T S m) : KT U S m := fun i hi k a b => (kdis_x f e k a b i).trans (h i hi k a b)
/-- a write at m or beyond -/
theorem KT.w {T U S : sS} {m : Int} {k j : Nat} {v : Int32} (h : KT T S m) (e : U = uI T k j v) (hj : m ≤ j) : KT U S m := fun i hi k2 a b => by
  rw [e, Xi_ne (by omega)]
  exact h i hi k2 a b
/-- a thing that was read: where it stands, which run names it -/
def THV (m : Int) (n : Nat) (td rn : Int) : Prop := td % 10000 ≤ n ∧ (20000 ≤ td → 0 ≤ rn ∧ rn < m)
theorem THV.mono {m m2 : Int} {n : Nat} {td rn : Int} (h : THV m n td rn) (e : m ≤ m2) : THV m2 n td rn := ⟨h.1, fun q => by have := h.2 q; omega⟩
theorem thv_i {m : Int} {n : Nat} {s t r x y : Int} (hx : x = s * 10000 + t) (hy : y = r) (hs : 0 ≤ s ∧ s ≤ 2) (ht : 0 ≤ t ∧ t ≤ 5010) (h1 : t ≤ n) (h0 : 0 ≤ r) (h2 : s = 2 → r < m) : THV m n x y := by
  unfold THV
  rcases (by omega : s = 0 ∨ s = 1 ∨ s = 2) with e | e | e <;> subst e <;> refine ⟨by omega, fun q => by omega⟩
/-- what a test tells, but where it begins and ends -/
def TVx (S : sS) (n : Nat) (i : Nat) : Prop := (Xi S 952 i ≠ 5 → THV (Xi S 904 69) n (Xi S 954 i) (Xi S 955 i)) ∧ (Xi S 952 i ≤ 3 → Xi S 956 i < Xi S 904 69) ∧ (Xi S 952 i = 4 → THV (Xi S 904 69) n (Xi S 959 i) (Xi S 960 i)) ∧ (Xi S 952 i ≤ 2 → Xi S 957 i ≤ n) ∧ (Xi S 952 i = 0 → Xi S 907 (Xi S 957 i).toNat ≠ 4 → Xi S 907 (Xi S 957 i).toNat ≠ 5 → 0 ≤ Xi S 960 i ∧ Xi S 960 i < Xi S 904 69)
def TV (S : sS) (n : Nat) (i : Nat) : Prop := (Xi S 961 i ≤ Xi S 962 i ∧ Xi S 962 i ≤ n) ∧ TVx S n i
theorem tvx_5 {S : sS} {n i : Nat} (h : Xi S 952 i = 5) : TVx S n i := ⟨fun q => absurd h q, fun q => by omega, fun q => by omega, fun q => by omega, fun q => by omega⟩
theorem tvx_3 {S : sS} {n i : Nat} (h : Xi S 952 i = 3) (h1 : THV (Xi S 904 69) n (Xi S 954 i) (Xi S 955 i)) (h2 : Xi S 956 i < Xi S 904 69) : TVx S n i := ⟨fun _ => h1, fun _ => h2, fun q => by omega, fun q => by omega, fun q => by omega⟩
theorem tvx_4 {S : sS} {n i : Nat} (h : Xi S 952 i = 4) (h1 : THV (Xi S 904 69) n (Xi S 954 i) (Xi S 955 i)) (h2 : THV (Xi S 904 69) n (Xi S 959 i) (Xi S 960 i)) : TVx S n i := ⟨fun _ => h1, fun q => by omega, fun _ => h2, fun q => by omega, fun q => by omega⟩
theorem tvx_2 {S : sS} {n i : Nat} (h : Xi S 952 i ≤ 2) (h1 : THV (Xi S 904 69) n (Xi S 954 i) (Xi S 955 i)) (h2 : Xi S 956 i < Xi S 904 69) (h3 : Xi S 957 i ≤ n) (h4 : Xi S 952 i = 0 → Xi S 907 (Xi S 957 i).toNat ≠ 4 → Xi S 907 (Xi S 957 i).toNat ≠ 5 → 0 ≤ Xi S 960 i ∧ Xi S 960 i < Xi S 904 69) : TVx S n i := ⟨fun _ => h1, fun _ => h2, fun q => by omega, fun _ => h3, h4⟩
theorem TVx.mv {S T : sS} {n i : Nat} (h : TVx S n i) (hk : ∀ k : Nat, 952 ≤ k → k ≤ 960 → Xi T k i = Xi S k i) (hr : Xi S 904 69 ≤ Xi T 904 69) (h7 : ∀ j, Xi T 907 j = Xi S 907 j) : TVx T n i := by
  unfold TVx
  rw [hk 952 (by omega) (by omega), hk 954 (by omega) (by omega), hk 955 (by omega) (by omega), hk 956 (by omega) (by omega), hk 957 (by omega) (by omega), hk 959 (by omega) (by omega), hk 960 (by omega) (by omega), h7]
  obtain ⟨a, b, c, d, e⟩ := h
  exact ⟨fun q => (a q).mono hr, fun q => by have := b q; omega, fun q => (c q).mono hr, d, fun q1 q2 q3 => by have := e q1 q2 q3; omega⟩
theorem TV.mv {S T : sS} {n i : Nat} (h : TV S n i) (hk : ∀ k : Nat, 952 ≤ k → k ≤ 962 → Xi T k i = Xi S k i) (hr : Xi S 904 69 ≤ Xi T 904 69) (h7 : ∀ j, Xi T 907 j = Xi S 907 j) : TV T n i := by
  refine ⟨?_, h.2.mv (fun k a b => hk k a (by omega)) hr h7⟩
  rw [hk 961 (by omega) (by omega), hk 962 (by omega) (by omega)]
  exact h.1
/-- all tests below m -/
def TVA (S : sS) (n : Nat) (m : Int) : Prop := ∀ i : Nat, (i : Int) < m → TV S n i
theorem TVA.mv {S T : sS} {n : Nat} {m : Int} (h : TVA S n m) (hk : KT T S m) (hr : Xi S 904 69 ≤ Xi T 904 69) (h7 : ∀ j, Xi T 907 j = Xi S 907 j) : TVA T n m := fun i hi => (h i hi).mv (fun k a b => hk i hi k a b) hr h7
theorem TVA.add {S : sS} {n : Nat} {m m2 : Int} (h : TVA S n m) (h0 : 0 ≤ m) (e : m2 = m + 1) (g : TV S n m.toNat) : TVA S n m2 := fun i hi => by
  rcases (by omega : (i : Int) < m ∨ i = m.toNat) with q | q
  · exact h i q
  · rw [q]; exact g
/-- what a phrase of sort w tells, its entry being t -/
def PVt (S : sS) (n : Nat) (w : Int) (t : Nat) : Prop := (w = 0 → Xi S 957 t ≤ n ∧ Xi S 907 (Xi S 957 t).toNat = 5) ∧ (w = 1 → TV S n t) ∧ (w = 2 ∨ w = 3 ∨ w = 4 → THV (Xi S 904 69) n (Xi S 954 t) (Xi S 955 t)) ∧ (w = 2 → THV (Xi S 904 69) n (Xi S 959 t) (Xi S 960 t)) ∧
  (w = 3 ∨ w = 4 ∨ w = 5 → Xi S 956 t < Xi S 904 69) ∧ (w = 3 ∨ w = 4 → Xi S 957 t ≤ n) ∧ (w = 5 → Xi S 953 t ≠ 0 → THV (Xi S 904 69) n (Xi S 954 t) (Xi S 955 t))
def PV (S : sS) (n : Nat) (i : Nat) : Prop := PVt S n (Xi S 963 i) (Xi S 964 i).toNat
theorem pv_i {S : sS} {n i t : Nat} {w : Int} (h : PVt S n w t) (e1 : Xi S 963 i = w) (e2 : Xi S 964 i = t) : PV S n i := by
  unfold PV
  rw [e1, e2]
  exact h
theorem pvt_0 {S : sS} {n t : Nat} (h : Xi S 957 t ≤ n) (h2 : Xi S 907 (Xi S 957 t).toNat = 5) : PVt S n 0 t := ⟨fun _ => ⟨h, h2⟩, fun q => absurd q (by decide), fun q => absurd q (by decide), fun q => absurd q (by decide), fun q => absurd q (by decide), fun q => absurd q (by decide), fun q => absurd q (by decide)⟩
theorem pvt_1 {S : sS} {n t : Nat} (h : TV S n t) : PVt S n 1 t := ⟨fun q => absurd q (by decide), fun _ => h, fun q => absurd q (by decide), fun q => absurd q (by decide), fun q => absurd q (by decide), fun q => absurd q (by decide), fun q => absurd q (by decide)⟩
theorem pvt_2 {S : sS} {n t : Nat} (h : THV (Xi S 904 69) n (Xi S 954 t) (Xi S 955 t)) (h2 : THV (Xi S 904 69) n (Xi S 959 t) (Xi S 960 t)) : PVt S n 2 t := ⟨fun q => absurd q (by decide), fun q => absurd q (by decide), fun _ => h, fun _ => h2, fun q => absurd q (by decide), fun q => absurd q (by decide), fun q => absurd q (by decide)⟩
theorem pvt_3 {S : sS} {n t : Nat} {w : Int} (hw : w = 3 ∨ w = 4) (h : THV (Xi S 904 69) n (Xi S 954 t) (Xi S 955 t)) (h2 : Xi S 956 t < Xi S 904 69) (h3 : Xi S 957 t ≤ n) : PVt S n w t := ⟨fun q => by omega, fun q => by omega, fun _ => h, fun q => by omega, fun _ => h2, fun _ => h3, fun q => by omega⟩
theorem pvt_5 {S : sS} {n t : Nat} (h : Xi S 956 t < Xi S 904 69) (h2 : Xi S 953 t ≠ 0 → THV (Xi S 904 69) n (Xi S 954 t) (Xi S 955 t)) : PVt S n 5 t := ⟨fun q => absurd q (by decide), fun q => absurd q (by decide), fun q => absurd q (by decide), fun q => absurd q (by decide), fun _ => h, fun q => absurd q (by decide), fun _ => h2⟩
theorem pvt_6 {S : sS} {n t : Nat} : PVt S n 6 t := ⟨fun q => absurd q (by decide), fun q => absurd q (by decide), fun q => absurd q (by decide), fun q => absurd q (by decide), fun q => absurd q (by decide), fun q => absurd q (by decide), fun q => absurd q (by decide)⟩
theorem PVt.mv {S T : sS} {n t : Nat} {w : Int} (h : PVt S n w t) (x : ∀ k : Nat, 952 ≤ k → k ≤ 962 → Xi T k t = Xi S k t) (hr : Xi S 904 69 ≤ Xi T 904 69) (h7 : ∀ j, Xi T 907 j = Xi S 907 j) : PVt T n w t := by
  unfold PVt
  rw [x 953 (by omega) (by omega), x 954 (by omega) (by omega), x 955 (by omega) (by omega), x 956 (by omega) (by omega), x 957 (by omega) (by omega), x 959 (by omega) (by omega), x 960 (by omega) (by omega), h7]
  obtain ⟨a, b, c, d, e, f, g⟩ := h
  exact ⟨a, fun q => (b q).mv x hr h7, fun q => (c q).mono hr, fun q => (d q).mono hr, fun q => by have := e q; omega, f, fun q1 q2 => (g q1 q2).mono hr⟩
/-- entries of phrases below m stay -/
def KP (T S : sS) (m : Int) : Prop := ∀ i : Nat, (i : Int) < m → Xi T 963 i = Xi S 963 i ∧ Xi T 964 i = Xi S 964 i ∧ Xi T 965 i = Xi S 965 i
theorem PV.mv {S T : sS} {n i : Nat} {m : Int} (h : PV S n i) (h0 : 0 ≤ Xi S 964 i) (ht : Xi S 964 i < m) (hk : KT T S m) (hp : Xi T 963 i = Xi S 963 i ∧ Xi T 964 i = Xi S 964 i ∧ Xi T 965 i = Xi S 965 i) (hr : Xi S 904 69 ≤ Xi T 904 69) (h7 : ∀ j, Xi T 907 j = Xi S 907 j) : PV T n i := by
  unfold PV
  rw [hp.1, hp.2.1]
  exact PVt.mv h (fun k a b => hk (Xi S 964 i).toNat (by omega) k a b) hr h7
/-- all phrases below m, their entries below the count -/
def PVA (S : sS) (n : Nat) (m : Int) : Prop := ∀ i : Nat, (i : Int) < m → Xi S 964 i < Xi S 904 93 ∧ PV S n i
theorem PVA.mv {S T : sS} {n : Nat} {m : Int} (h : PVA S n m) (hH : HI S) (hk : KT T S (Xi S 904 93)) (hp : KP T S m) (hr : Xi S 904 69 ≤ Xi T 904 69) (hc : Xi S 904 93 ≤ Xi T 904 93) (h7 : ∀ j, Xi T 907 j = Xi S 907 j) : PVA T n m := fun i hi => by
  obtain ⟨a, b⟩ := h i hi
  have c : 0 ≤ Xi S 964 i ∧ Xi S 964 i ≤ 1700 := hH.c 964 i
  refine ⟨?_, b.mv c.1 a hk (hp i hi) hr h7⟩
  rw [(hp i hi).2.1]; omega
theorem PVA.add {S : sS} {n : Nat} {m m2 : Int} (h : PVA S n m) (h0 : 0 ≤ m) (e : m2 = m + 1) (g : Xi S 964 m.toNat < Xi S 904 93 ∧ PV S n m.toNat) : PVA S n m2 := fun i hi => by
  rcases (by omega : (i : Int) < m ∨ i = m.toNat) with q | q
  · exact h i q
  · rw [q]; exact g
theorem tvx_w {P U : sS} {n i k j : Nat} {v : Int32} (h : TVx P n i) (e : U = uI P k j v) (hk : k ≠ 907 ∧ (k = 904 → j ≠ 69) ∧ (k < 952 ∨ 960 < k)) : TVx U n i := h.mv (fun a b c => by rw [e, Xi_ne (by omega)]) (by rw [e, Xi_ne (by omega)]; exact Int.le_refl _) (fun a => by rw [e, Xi_ne (by omega)])
theorem pvt_w {P U : sS} {n i k j : Nat} {w : Int} {v : Int32} (h : PVt P n w i) (e : U = uI P k j v) (hk : k ≠ 907 ∧ (k = 904 → j ≠ 69) ∧ (k < 952 ∨ 962 < k)) : PVt U n w i := h.mv (fun a b c => by rw [e, Xi_ne (by omega)]) (by rw [e, Xi_ne (by omega)]; exact Int.le_refl _) (fun a => by rw [e, Xi_ne (by omega)])
theorem thv_c {m m2 : Int} {n : Nat} {a b a2 b2 : Int} (h : THV m n a b) (e : m ≤ m2) (ea : a2 = a) (eb : b2 = b) : THV m2 n a2 b2 := by rw [ea, eb]; exact h.mono e
/-- at most one token further -/
theorem at_opt {P U : sS} {n c : Nat} {v : Int} (hT : TK P n) (hA : AT P n c) (e : U = uI P 904 8 (Int32.ofInt v)) (hv : v = Xi P 904 8 ∨ (v = Xi P 904 8 + 1 ∧ Xi P 904 65 = 0 ∧ Xi P 907 (Xi P 904 8).toNat ≠ 1)) (h8 : 0 ≤ Xi P 904 8 ∧ Xi P 904 8 ≤ 5010) : AT U n c ∧ Xi P 904 8 ≤ Xi U 904 8 ∧ (Xi U 904 8 ≤ n ∨ Xi U 904 8 = Xi P 904 8) := by
  rcases hv with q | ⟨q, b, h1⟩
  · have x8 : Xi U 904 8 = Xi P 904 8 := by rw [e, q]; exact Xi_same ⟨by omega, by omega⟩
    exact ⟨at_same hA e q h8, by omega, by omega⟩
  · have t := at_mv hT hA (fun _ => rfl) (fun _ => rfl) rfl rfl rfl rfl e q h8.1 b h1 (Or.inl rfl)
    exact ⟨t.1, by omega, by omega⟩
/-- one more entry -/
theorem at_ct {P U : sS} {n c c2 : Nat} {v : Int} (hA : AT P n c) (e : U = uI P 904 93 (Int32.ofInt v)) (hv : v = Xi P 904 93 + 1) (h0 : 0 ≤ Xi P 904 93 ∧ Xi P 904 93 ≤ 1700) (hc : c = c2 + 1) : AT U n c2 := fun q => by
  have x : ∀ j, j ≠ 93 → Xi U 904 j = Xi P 904 j := fun j hj => by rw [e, Xi_ne (by omega)]
  have x93 : Xi U 904 93 = Xi P 904 93 + 1 := by rw [e, hv]; exact Xi_same ⟨by omega, by omega⟩
  have x7 : ∀ j, Xi U 907 j = Xi P 907 j := fun j => by rw [e, Xi_ne (by omega)]
  have x9 : ∀ j, Xi U 908 j = Xi P 908 j := fun j => by rw [e, Xi_ne (by omega)]
  rw [x 65 (by decide)] at q
  obtain ⟨a, b, d, f⟩ := hA q
  rw [x 8 (by decide), x 69 (by decide), x93, x7, x9]
  exact ⟨a, b, d, by omega⟩
theorem at_tc {S : sS} {n c : Nat} (hA : AT S n c) (hH : HI S) (q : Xi S 904 65 = 0) : Xi S 904 93 + c ≤ 1666 := by
  have t := (hA q).2.2.2
  have u : 0 ≤ Xi S 908 (Xi S 904 8).toNat ∧ Xi S 908 (Xi S 904 8).toNat ≤ 5000 := hH.c 908 _
  omega
theorem KP.w {T U S : sS} {m : Int} {k j : Nat} {v : Int32} (h : KP T S m) (e : U = uI T k j v) (hj : (k < 963 ∨ 965 < k) ∨ m ≤ j) : KP U S m := fun i hi => by
  rw [e, Xi_ne (by omega), Xi_ne (by omega), Xi_ne (by omega)]
  exact h i hi
theorem KP_FR {l : List rec} {T U S : sS} {m : Int} (f : FR l T U) (e : kdis l [(963, 966)] = true) (h : KP T S m) : KP U S m := fun i hi => by
  have q := f.smk e
  rw [q.x 963 rfl, q.x 964 rfl, q.x 965 rfl]
  exact h i hi
theorem KP.rf {S : sS} {m : Int} : KP S S m := fun _ _ => ⟨rfl, rfl, rfl⟩
theorem pv_w {P U : sS} {n i k j : Nat} {v : Int32} (h : PV P n i) (e : U = uI P k j v) (hk : k ≠ 907 ∧ (k = 904 → j ≠ 69) ∧ (k < 952 ∨ 964 < k)) : PV U n i := by
  have x : ∀ a i, a = 963 ∨ a = 964 → Xi U a i = Xi P a i := fun a i c => by rw [e, Xi_ne (by omega)]
  unfold PV
  rw [x 963 i (Or.inl rfl), x 964 i (Or.inr rfl)]
  exact pvt_w h e (by omega)
def md_mo_take__2 : List rec := [(904, 905, 8, 9), (904, 905, 65, 66), (904, 905, 66, 67)]
abbrev Q_mo_take__2 (S : sS) (n : Nat) (c : Nat) (k : Int) : pst := fun r S1 => HI S1 ∧ FR md_mo_take__2 S S1 ∧ (r = none ∧ (AT S1 n c) ∧ (Xi S 904 8 ≤ Xi S1 904 8 ∧ (Xi S1 904 8 ≤ n ∨ Xi S1 904 8 = Xi S 904 8)) ∧ (Xi S1 904 65 = 0 → Xi S 904 65 = 0) ∧ (Xi S1 904 65 = 0 → Xi S1 904 8 = Xi S 904 8 + 1 ∧ Xi S 907 (Xi S 904 8).toNat = k))
set_option maxRecDepth 100000 in
theorem t_mo_take__2 {S : sS} (hH : HI S) (n : Nat) (c : Nat) (k : Int) (hk : 2 ≤ k ∧ k ≤ 154) (hT : TK S n) (hA : AT S n c) (hk : k ≠ 3 ∧ k ≠ 1) (d : Nat) : Mt lay0 (d + 2) m_mo_take [.ref 904, iv k] S (Q_mo_take__2 S n c k) := by
  refine Mt_R rfl rfl ?_
  have hF : FR md_mo_take__2 S S := FR.rf
  have w1 : 0 ≤ Xi S 904 65 ∧ Xi S 904 65 ≤ 1 := hH.c _ _
  have w2 : 0 ≤ Xi S 904 8 ∧ Xi S 904 8 ≤ 5010 := hH.c _ _
  have hn5 := hT.1
  have hat := hA
  have h8 : 0 ≤ Xi S 904 8 ∧ Xi S 904 8 ≤ 5010 := hH.c _ _
  have h69 : 0 ≤ Xi S 904 69 ∧ Xi S 904 69 ≤ 2600 := hH.c _ _
  have ha0 : Xi S 904 65 = 0 → Xi S 904 8 ≤ n := fun q => (hA q).1
  have ha3 : Xi S 904 65 = 0 → 2 * Xi S 904 69 ≤ Xi S 904 8 + 1 := fun q => (hA q).2.1
  clear hat
  refine l_aload_n rfl rfl ?_
  refine l_iload_n rfl rfl ?_
  have w3 : 0 ≤ Xi S 904 65 ∧ Xi S 904 65 ≤ 1 := hH.c _ _
  have w4 : 0 ≤ Xi S 904 8 ∧ Xi S 904 8 ≤ 5010 := hH.c _ _
  refine l_callV rfl rfl rfl (t_mo_isNext hH n c k ⟨by omega, by omega⟩ (by first | assumption | exact (TK_FR hF rfl (by assumption : TK S _))) (by first | assumption | exact (by assumption : AT S _ _)) _) ?_
  rintro _ _ ⟨rfl, z7, rfl, w7, w5, w6⟩
  show Rl _ _ _ _ _ [iv z7] _ _
  refine l_if_eq rfl rfl (by unfold rg; omega) (fun w8 => ?_) (fun w9 => ?_)
  · refine l_aload_n rfl rfl ?_
    have w10 : 0 ≤ Xi S 904 65 ∧ Xi S 904 65 ≤ 1 := hH.c _ _
    have w11 : 0 ≤ Xi S 904 8 ∧ Xi S 904 8 ≤ 5010 := hH.c _ _
    refine l_callV rfl rfl rfl (t_mo_odd hH _) ?_
    rintro _ T1 ⟨hHT1, w15, rfl, w12, w13⟩
    have hFT1 : FR md_mo_take__2 S T1 := FR.tr hF w15 rfl
    show Rl _ _ _ _ _ [] _ _
    refine l_return rfl rfl ?_
    have w16 : 0 ≤ Xi T1 904 65 ∧ Xi T1 904 65 ≤ 1 := hHT1.c _ _
    have w17 : Xi T1 904 8 = Xi S 904 8 := (show Xi T1 904 8 = Xi S 904 8 from w15.x _ _ rfl)
    have w18 : 0 ≤ Xi S 904 8 ∧ Xi S 904 8 ≤ 5010 := hH.c _ _
    exact ⟨hHT1, hFT1, rfl, (by first | exact t15 | exact AT_bad (by omega)), (by omega), (by omega), (by omega)⟩
  · refine l_aload_n rfl rfl ?_
    refine l_dup rfl rfl ?_
    refine l_gfi rfl rfl rfl rfl rfl ?_
    refine l_iconst rfl ?_
    refine l_iadd rfl ?_
    refine l_pfi rfl rfl rfl rfl ?_
    obtain ⟨U2, eU2⟩ : ∃ T : sS, T = uI S 904 8 (Int32.ofInt ((Xi S 904 8) + 1)) := ⟨_, rfl⟩
    rw [← eU2]
    have hHU2 : HI U2 := by rw [eU2]; exact HI_w hH (show 0 ≤ ((Xi S 904 8) + 1) by omega) (show ((Xi S 904 8) + 1) ≤ 5010 by omega)
    have hFU2 : FR md_mo_take__2 S U2 := by rw [eU2]; exact FR.wI hF (mdf_i (r := (904, 905, 8, 9)) (List.mem_of_getElem? (i := 0) rfl) (inR_i (by omega) (by omega) (by omega) (by omega)))
    have w19 : Xi U2 904 8 = ((Xi S 904 8) + 1) := by rw [eU2]; exact Xi_same (by unfold rg; omega)
    have t15 : AT U2 n c := at_up hT hA eU2 (by omega) (by omega) (by omega) (by omega) (Or.inl rfl)
    have l15 : Xi U2 904 8 ≤ n := by have q := tk_lt hT (by omega) (ha0 (by omega)) (by omega); omega
    refine l_goto rfl rfl ?_
    refine l_return rfl rfl ?_
    have w20 : Xi U2 904 65 = Xi S 904 65 := (show Xi U2 904 65 = Xi S 904 65 from by rw [eU2]; exact Xi_ne (by omega))
    have w21 : 0 ≤ Xi S 904 65 ∧ Xi S 904 65 ≤ 1 := hH.c _ _
    have w22 : 0 ≤ Xi U2 904 8 ∧ Xi U2 904 8 ≤ 5010 := hHU2.c _ _
    exact ⟨hHU2, hFU2, rfl, (by first | exact t15 | exact AT_bad (by omega)), (by omega), (by omega), (by omega)⟩
def md_mo_art__2 : List rec := [(904, 905, 8, 9), (904, 905, 65, 66), (904, 905, 66, 67)]
abbrev Q_mo_art__2 (S : sS) (n : Nat) (c : Nat) : pst := fun r S1 => HI S1 ∧ FR md_mo_art__2 S S1 ∧ (r = none ∧ (AT S1 n c) ∧ (Xi S 904 8 ≤ Xi S1 904 8 ∧ (Xi S1 904 8 ≤ n ∨ Xi S1 904 8 = Xi S 904 8)) ∧ (Xi S1 904 65 = 0 → Xi S 904 65 = 0))
set_option maxRecDepth 100000 in
theorem t_mo_art__2 {S : sS} (hH : HI S) (n : Nat) (c : Nat) (hT : TK S n) (hA : AT S n c) (d : Nat) : Mt lay0 (d + 2) m_mo_art [.ref 904] S (Q_mo_art__2 S n c) := by
  refine Mt_R rfl rfl ?_
  have hF : FR md_mo_art__2 S S := FR.rf
  have w1 : 0 ≤ Xi S 904 65 ∧ Xi S 904 65 ≤ 1 := hH.c _ _
  have w2 : 0 ≤ Xi S 904 8 ∧ Xi S 904 8 ≤ 5010 := hH.c _ _
  have hn5 := hT.1
  have hat := hA
  have h8 : 0 ≤ Xi S 904 8 ∧ Xi S 904 8 ≤ 5010 := hH.c _ _
  have h69 : 0 ≤ Xi S 904 69 ∧ Xi S 904 69 ≤ 2600 := hH.c _ _
  have ha0 : Xi S 904 65 = 0 → Xi S 904 8 ≤ n := fun q => (hA q).1
  have ha3 : Xi S 904 65 = 0 → 2 * Xi S 904 69 ≤ Xi S 904 8 + 1 := fun q => (hA q).2.1
  clear hat
  refine l_aload_n rfl rfl ?_
  have w3 : 0 ≤ Xi S 904 65 ∧ Xi S 904 65 ≤ 1 := hH.c _ _
  have w4 : 0 ≤ Xi S 904 8 ∧ Xi S 904 8 ≤ 5010 := hH.c _ _
  refine l_callV rfl rfl rfl (t_mo_look hH n c (by first | assumption | exact (TK_FR hF rfl (by assumption : TK S _))) (by first | assumption | exact (by assumption : AT S _ _)) _) ?_
  rintro _ _ ⟨rfl, z6, rfl, w6, w5⟩
  show Rl _ _ _ _ _ [iv z6] _ _
  have w7 : 0 ≤ Xi S 904 65 ∧ Xi S 904 65 ≤ 1 := hH.c _ _
  have w8 : 0 ≤ Xi S 904 8 ∧ Xi S 904 8 ≤ 5010 := hH.c _ _
  refine l_callS rfl rfl (by decide) rfl (t_mo_isArt hH z6 ⟨by omega, by omega⟩ _) ?_
  rintro _ _ ⟨rfl, z10, rfl, w10, w9⟩
  show Rl _ _ _ _ _ [iv z10] _ _
  refine l_if_eq rfl rfl (by unfold rg; omega) (fun w11 => ?_) (fun w12 => ?_)
  · refine l_aload_n rfl rfl ?_
    have w13 : 0 ≤ Xi S 904 65 ∧ Xi S 904 65 ≤ 1 := hH.c _ _
    have w14 : 0 ≤ Xi S 904 8 ∧ Xi S 904 8 ≤ 5010 := hH.c _ _
    refine l_callV rfl rfl rfl (t_mo_odd hH _) ?_
    rintro _ T1 ⟨hHT1, w18, rfl, w15, w16⟩
    have hFT1 : FR md_mo_art__2 S T1 := FR.tr hF w18 rfl
    show Rl _ _ _ _ _ [] _ _
    refine l_return rfl rfl ?_
    have w19 : 0 ≤ Xi T1 904 65 ∧ Xi T1 904 65 ≤ 1 := hHT1.c _ _
    have w20 : Xi T1 904 8 = Xi S 904 8 := (show Xi T1 904 8 = Xi S 904 8 from w18.x _ _ rfl)
    have w21 : 0 ≤ Xi S 904 8 ∧ Xi S 904 8 ≤ 5010 := hH.c _ _
    exact ⟨hHT1, hFT1, rfl, (by first | exact t17 | exact AT_bad (by omega)), (by omega), (by omega)⟩
  · refine l_aload_n rfl rfl ?_
    refine l_dup rfl rfl ?_
    refine l_gfi rfl rfl rfl rfl rfl ?_
    refine l_iconst rfl ?_
    refine l_iadd rfl ?_
    refine l_pfi rfl rfl rfl rfl ?_
    obtain ⟨U2, eU2⟩ : ∃ T : sS, T = uI S 904 8 (Int32.ofInt ((Xi S 904 8) + 1)) := ⟨_, rfl⟩
    rw [← eU2]
    have hHU2 : HI U2 := by rw [eU2]; exact HI_w hH (show 0 ≤ ((Xi S 904 8) + 1) by omega) (show ((Xi S 904 8) + 1) ≤ 5010 by omega)
    have hFU2 : FR md_mo_art__2 S U2 := by rw [eU2]; exact FR.wI hF (mdf_i (r := (904, 905, 8, 9)) (List.mem_of_getElem? (i := 0) rfl) (inR_i (by omega) (by omega) (by omega) (by omega)))
    have w22 : Xi U2 904 8 = ((Xi S 904 8) + 1) := by rw [eU2]; exact Xi_same (by unfold rg; omega)
    have t17 : AT U2 n c := at_up hT hA eU2 (by omega) (by omega) (by omega) (by omega) (Or.inl rfl)
    have l17 : Xi U2 904 8 ≤ n := by have q := tk_lt hT (by omega) (ha0 (by omega)) (by omega); omega
    refine l_goto rfl rfl ?_
    refine l_return rfl rfl ?_
    have w23 : Xi U2 904 65 = Xi S 904 65 := (show Xi U2 904 65 = Xi S 904 65 from by rw [eU2]; exact Xi_ne (by omega))
    have w24 : 0 ≤ Xi S 904 65 ∧ Xi S 904 65 ≤ 1 := hH.c _ _
    have w25 : 0 ≤ Xi U2 904 8 ∧ Xi U2 904 8 ≤ 5010 := hHU2.c _ _
    exact ⟨hHU2, hFU2, rfl, (by first | exact t17 | exact AT_bad (by omega)), (by omega), (by omega)⟩
def md_mo_placing__2 : List rec := [(904, 905, 8, 9), (904, 905, 65, 66), (904, 905, 66, 67)]
abbrev Q_mo_placing__2 (S : sS) (n : Nat) (c : Nat) : pst := fun r S1 => HI S1 ∧ FR md_mo_placing__2 S S1 ∧ (∃ z : Int, r = some (iv z) ∧ (0 ≤ z ∧ z ≤ 5) ∧ (AT S1 n c) ∧ (Xi S 904 8 ≤ Xi S1 904 8 ∧ (Xi S1 904 8 ≤ n ∨ Xi S1 904 8 = Xi S 904 8)) ∧ (Xi S1 904 65 = 0 → Xi S 904 65 = 0))
set_option maxRecDepth 100000 in
theorem t_mo_placing__2 {S : sS} (hH : HI S) (n : Nat) (c : Nat) (hT : TK S n) (hA : AT S n c) (d : Nat) : Mt lay0 (d + 3) m_mo_placing [.ref 904] S (Q_mo_placing__2 S n c) := by
  refine Mt_R rfl rfl ?_
  have hF : FR md_mo_placing__2 S S := FR.rf
  have w1 : 0 ≤ Xi S 904 65 ∧ Xi S 904 65 ≤ 1 := hH.c _ _
  have w2 : 0 ≤ Xi S 904 8 ∧ Xi S 904 8 ≤ 5010 := hH.c _ _
  have hn5 := hT.1
  have hat := hA
  have h8 : 0 ≤ Xi S 904 8 ∧ Xi S 904 8 ≤ 5010 := hH.c _ _
  have h69 : 0 ≤ Xi S 904 69 ∧ Xi S 904 69 ≤ 2600 := hH.c _ _
  have ha0 : Xi S 904 65 = 0 → Xi S 904 8 ≤ n := fun q => (hA q).1
  have ha3 : Xi S 904 65 = 0 → 2 * Xi S 904 69 ≤ Xi S 904 8 + 1 := fun q => (hA q).2.1
  clear hat
  have C60 : ∀  (v2 : Int), (0 ≤ v2 ∧ v2 ≤ 5) → (v2 ≠ 0 → Xi S 904 65 = 0 ∧ Xi S 907 (Xi S 904 8).toNat ≠ 1) → Rl lay0 (d + 2) m_mo_placing 60 [(0, .ref 904), (2, iv v2)] [] S (Q_mo_placing__2 S n c) := by
    intro v2 w3 w4
    refine l_iload_n rfl rfl ?_
    refine l_if_ne rfl rfl (by unfold rg; omega) (fun w5 => ?_) (fun w6 => ?_)
    · refine l_aload_n rfl rfl ?_
      refine l_dup rfl rfl ?_
      refine l_gfi rfl rfl rfl rfl rfl ?_
      refine l_iconst rfl ?_
      refine l_iadd rfl ?_
      refine l_pfi rfl rfl rfl rfl ?_
      obtain ⟨U1, eU1⟩ : ∃ T : sS, T = uI S 904 8 (Int32.ofInt ((Xi S 904 8) + 1)) := ⟨_, rfl⟩
      rw [← eU1]
      have hHU1 : HI U1 := by rw [eU1]; exact HI_w hH (show 0 ≤ ((Xi S 904 8) + 1) by omega) (show ((Xi S 904 8) + 1) ≤ 5010 by omega)
      have hFU1 : FR md_mo_placing__2 S U1 := by rw [eU1]; exact FR.wI hF (mdf_i (r := (904, 905, 8, 9)) (List.mem_of_getElem? (i := 0) rfl) (inR_i (by omega) (by omega) (by omega) (by omega)))
      have w7 : Xi U1 904 8 = ((Xi S 904 8) + 1) := by rw [eU1]; exact Xi_same (by unfold rg; omega)
      have t77 : AT U1 n c := at_up hT hA eU1 (by omega) (by omega) (by omega) (by omega) (Or.inl rfl)
      have l77 : Xi U1 904 8 ≤ n := by have q := tk_lt hT (by omega) (ha0 (by omega)) (by omega); omega
      have T77 : TK U1 n := TK_FR (FR_e eU1) rfl hT
      refine l_iload_n rfl rfl ?_
      refine l_iconst rfl ?_
      refine l_icmp_le rfl rfl (by unfold rg; omega) (by unfold rg; omega) (fun w8 => ?_) (fun w9 => ?_)
      · refine l_iload_n rfl rfl ?_
        refine l_ireturn rfl rfl ?_
        have w10 : Xi U1 904 65 = Xi S 904 65 := (show Xi U1 904 65 = Xi S 904 65 from by rw [eU1]; exact Xi_ne (by omega))
        have w11 : 0 ≤ Xi S 904 65 ∧ Xi S 904 65 ≤ 1 := hH.c _ _
        have w12 : 0 ≤ Xi U1 904 8 ∧ Xi U1 904 8 ≤ 5010 := hHU1.c _ _
        exact ⟨hHU1, hFU1, _, rfl, ⟨by omega, by omega⟩, (by first | assumption | exact t77 | exact AT_bad (by omega)), (by omega), (by omega)⟩
      · refine l_aload_n rfl rfl ?_
        refine l_iload_n rfl rfl ?_
        refine l_iconst rfl ?_
        refine l_icmp_ne rfl rfl (by unfold rg; omega) (by unfold rg; omega) (fun w13 => ?_) (fun w14 => ?_)
        · refine l_bipush rfl rfl ?_
          have w15 : Xi U1 904 65 = Xi S 904 65 := (show Xi U1 904 65 = Xi S 904 65 from by rw [eU1]; exact Xi_ne (by omega))
          have w16 : 0 ≤ Xi S 904 65 ∧ Xi S 904 65 ≤ 1 := hH.c _ _
          have w17 : 0 ≤ Xi U1 904 8 ∧ Xi U1 904 8 ≤ 5010 := hHU1.c _ _
          refine l_callV rfl rfl rfl (t_mo_take__2 hHU1 n c 110 ⟨by omega, by omega⟩ (by first | exact T77 | exact hT) (by first | assumption | exact (by assumption : AT U1 _ _)) (by first | assumption | omega) _) ?_
          rintro _ T2 ⟨hHT2, w23, rfl, w18, w19, w20, w21⟩
          have hFT2 : FR md_mo_placing__2 S T2 := FR.tr hFU1 w23 rfl
          show Rl _ _ _ _ _ [] _ _
          refine l_iload_n rfl rfl ?_
          refine l_ireturn rfl rfl ?_
          have w24 : 0 ≤ Xi T2 904 65 ∧ Xi T2 904 65 ≤ 1 := hHT2.c _ _
          have w25 : 0 ≤ Xi T2 904 8 ∧ Xi T2 904 8 ≤ 5010 := hHT2.c _ _
          exact ⟨hHT2, hFT2, _, rfl, ⟨by omega, by omega⟩, (by first | assumption | exact t77 | exact AT_bad (by omega)), (by omega), (by omega)⟩
        · refine l_bipush rfl rfl ?_
          refine l_goto rfl rfl ?_
          have w26 : Xi U1 904 65 = Xi S 904 65 := (show Xi U1 904 65 = Xi S 904 65 from by rw [eU1]; exact Xi_ne (by omega))
          have w27 : 0 ≤ Xi S 904 65 ∧ Xi S 904 65 ≤ 1 := hH.c _ _
          have w28 : 0 ≤ Xi U1 904 8 ∧ Xi U1 904 8 ≤ 5010 := hHU1.c _ _
          refine l_callV rfl rfl rfl (t_mo_take__2 hHU1 n c 107 ⟨by omega, by omega⟩ (by first | exact T77 | exact hT) (by first | assumption | exact (by assumption : AT U1 _ _)) (by first | assumption | omega) _) ?_
          rintro _ T3 ⟨hHT3, w34, rfl, w29, w30, w31, w32⟩
          have hFT3 : FR md_mo_placing__2 S T3 := FR.tr hFU1 w34 rfl
          show Rl _ _ _ _ _ [] _ _
          refine l_iload_n rfl rfl ?_
          refine l_ireturn rfl rfl ?_
          have w35 : 0 ≤ Xi T3 904 65 ∧ Xi T3 904 65 ≤ 1 := hHT3.c _ _
          have w36 : 0 ≤ Xi T3 904 8 ∧ Xi T3 904 8 ≤ 5010 := hHT3.c _ _
          exact ⟨hHT3, hFT3, _, rfl, ⟨by omega, by omega⟩, (by first | assumption | exact t77 | exact AT_bad (by omega)), (by omega), (by omega)⟩
    · refine l_aload_n rfl rfl ?_
      have w37 : 0 ≤ Xi S 904 65 ∧ Xi S 904 65 ≤ 1 := hH.c _ _
      have w38 : 0 ≤ Xi S 904 8 ∧ Xi S 904 8 ≤ 5010 := hH.c _ _
      refine l_callV rfl rfl rfl (t_mo_odd hH _) ?_
      rintro _ T4 ⟨hHT4, w42, rfl, w39, w40⟩
      have hFT4 : FR md_mo_placing__2 S T4 := FR.tr hF w42 rfl
      show Rl _ _ _ _ _ [] _ _
      refine l_iconst rfl ?_
      refine l_ireturn rfl rfl ?_
      have w43 : 0 ≤ Xi T4 904 65 ∧ Xi T4 904 65 ≤ 1 := hHT4.c _ _
      have w44 : Xi T4 904 8 = Xi S 904 8 := (show Xi T4 904 8 = Xi S 904 8 from w42.x _ _ rfl)
      have w45 : 0 ≤ Xi S 904 8 ∧ Xi S 904 8 ≤ 5010 := hH.c _ _
      exact ⟨hHT4, hFT4, _, rfl, ⟨by omega, by omega⟩, (by first | assumption | exact t77 | exact AT_bad (by omega)), (by omega), (by omega)⟩
  refine l_aload_n rfl rfl ?_
  have w46 : 0 ≤ Xi S 904 65 ∧ Xi S 904 65 ≤ 1 := hH.c _ _
  have w47 : 0 ≤ Xi S 904 8 ∧ Xi S 904 8 ≤ 5010 := hH.c _ _
  refine l_callV rfl rfl rfl (t_mo_look hH n c (by first | exact T77 | exact hT) (by first | assumption | exact (by assumption : AT S _ _)) _) ?_
  rintro _ _ ⟨rfl, z49, rfl, w49, w48⟩
  show Rl _ _ _ _ _ [iv z49] _ _
  refine l_istore_n rfl rfl rfl ?_
  refine l_iload_n rfl rfl ?_
  refine l_bipush rfl rfl ?_
  refine l_icmp_ne rfl rfl (by unfold rg; omega) (by unfold rg; omega) (fun w50 => ?_) (fun w51 => ?_)
  · refine l_iload_n rfl rfl ?_
    refine l_bipush rfl rfl ?_
    refine l_icmp_ne rfl rfl (by unfold rg; omega) (by unfold rg; omega) (fun w52 => ?_) (fun w53 => ?_)
    · refine l_iload_n rfl rfl ?_
      refine l_sipush rfl rfl ?_
      refine l_icmp_ne rfl rfl (by unfold rg; omega) (by unfold rg; omega) (fun w54 => ?_) (fun w55 => ?_)
      · refine l_iload_n rfl rfl ?_
        refine l_sipush rfl rfl ?_
        refine l_icmp_ne rfl rfl (by unfold rg; omega) (by unfold rg; omega) (fun w56 => ?_) (fun w57 => ?_)
        · refine l_iload_n rfl rfl ?_
          refine l_sipush rfl rfl ?_
          refine l_icmp_ne rfl rfl (by unfold rg; omega) (by unfold rg; omega) (fun w58 => ?_) (fun w59 => ?_)
          · refine l_iconst rfl ?_
            refine l_istore_n rfl rfl rfl ?_
            have w60 : 0 ≤ Xi S 904 65 ∧ Xi S 904 65 ≤ 1 := hH.c _ _
            have w61 : 0 ≤ Xi S 904 8 ∧ Xi S 904 8 ≤ 5010 := hH.c _ _
            exact Rl_weak (C60 (0) (by omega) (by omega)) (And.intro rfl (And.intro rfl (True.intro)))
          · refine l_iconst rfl ?_
            refine l_goto rfl rfl ?_
            refine l_istore_n rfl rfl rfl ?_
            have w62 : 0 ≤ Xi S 904 65 ∧ Xi S 904 65 ≤ 1 := hH.c _ _
            have w63 : 0 ≤ Xi S 904 8 ∧ Xi S 904 8 ≤ 5010 := hH.c _ _
            exact Rl_weak (C60 (5) (by omega) (by omega)) (And.intro rfl (And.intro rfl (True.intro)))
        · refine l_iconst rfl ?_
          refine l_goto rfl rfl ?_
          refine l_istore_n rfl rfl rfl ?_
          have w64 : 0 ≤ Xi S 904 65 ∧ Xi S 904 65 ≤ 1 := hH.c _ _
          have w65 : 0 ≤ Xi S 904 8 ∧ Xi S 904 8 ≤ 5010 := hH.c _ _
          exact Rl_weak (C60 (4) (by omega) (by omega)) (And.intro rfl (And.intro rfl (True.intro)))
      · refine l_iconst rfl ?_
        refine l_goto rfl rfl ?_
        refine l_istore_n rfl rfl rfl ?_
        have w66 : 0 ≤ Xi S 904 65 ∧ Xi S 904 65 ≤ 1 := hH.c _ _
        have w67 : 0 ≤ Xi S 904 8 ∧ Xi S 904 8 ≤ 5010 := hH.c _ _
        exact Rl_weak (C60 (3) (by omega) (by omega)) (And.intro rfl (And.intro rfl (True.intro)))
    · refine l_iconst rfl ?_
      refine l_goto rfl rfl ?_
      refine l_istore_n rfl rfl rfl ?_
      have w68 : 0 ≤ Xi S 904 65 ∧ Xi S 904 65 ≤ 1 := hH.c _ _
      have w69 : 0 ≤ Xi S 904 8 ∧ Xi S 904 8 ≤ 5010 := hH.c _ _
      exact Rl_weak (C60 (2) (by omega) (by omega)) (And.intro rfl (And.intro rfl (True.intro)))
  · refine l_iconst rfl ?_
    refine l_goto rfl rfl ?_
    refine l_istore_n rfl rfl rfl ?_
    have w70 : 0 ≤ Xi S 904 65 ∧ Xi S 904 65 ≤ 1 := hH.c _ _
    have w71 : 0 ≤ Xi S 904 8 ∧ Xi S 904 8 ≤ 5010 := hH.c _ _
    exact Rl_weak (C60 (1) (by omega) (by omega)) (And.intro rfl (And.intro rfl (True.intro)))
def md_mo_be__2 : List rec := [(904, 905, 8, 9), (904, 905, 65, 66), (904, 905, 66, 67), (904, 905, 77, 78)]
abbrev Q_mo_be__2 (S : sS) (n : Nat) (c : Nat) : pst := fun r S1 => HI S1 ∧ FR md_mo_be__2 S S1 ∧ (r = none ∧ (AT S1 n c) ∧ (Xi S 904 8 ≤ Xi S1 904 8 ∧ (Xi S1 904 8 ≤ n ∨ Xi S1 904 8 = Xi S 904 8)) ∧ (Xi S1 904 65 = 0 → Xi S 904 65 = 0))
set_option maxRecDepth 100000 in
theorem t_mo_be__2 {S : sS} (hH : HI S) (n : Nat) (c : Nat) (hT : TK S n) (hA : AT S n c) (d : Nat) : Mt lay0 (d + 2) m_mo_be [.ref 904] S (Q_mo_be__2 S n c) := by
  refine Mt_R rfl rfl ?_
  have hF : FR md_mo_be__2 S S := FR.rf
  have w1 : 0 ≤ Xi S 904 65 ∧ Xi S 904 65 ≤ 1 := hH.c _ _
  have w2 : 0 ≤ Xi S 904 8 ∧ Xi S 904 8 ≤ 5010 := hH.c _ _
  have hn5 := hT.1
  have hat := hA
  have h8 : 0 ≤ Xi S 904 8 ∧ Xi S 904 8 ≤ 5010 := hH.c _ _
  have h69 : 0 ≤ Xi S 904 69 ∧ Xi S 904 69 ≤ 2600 := hH.c _ _
  have ha0 : Xi S 904 65 = 0 → Xi S 904 8 ≤ n := fun q => (hA q).1
  have ha3 : Xi S 904 65 = 0 → 2 * Xi S 904 69 ≤ Xi S 904 8 + 1 := fun q => (hA q).2.1
  clear hat
  refine l_aload_n rfl rfl ?_
  refine l_bipush rfl rfl ?_
  have w3 : 0 ≤ Xi S 904 65 ∧ Xi S 904 65 ≤ 1 := hH.c _ _
  have w4 : 0 ≤ Xi S 904 8 ∧ Xi S 904 8 ≤ 5010 := hH.c _ _
  refine l_callV rfl rfl rfl (t_mo_isNext hH n c 104 ⟨by omega, by omega⟩ (by first | assumption | exact (TK_FR hF rfl (by assumption : TK S _))) (by first | assumption | exact (by assumption : AT S _ _)) _) ?_
  rintro _ _ ⟨rfl, z7, rfl, w7, w5, w6⟩
  show Rl _ _ _ _ _ [iv z7] _ _
  refine l_if_ne rfl rfl (by unfold rg; omega) (fun w8 => ?_) (fun w9 => ?_)
  · refine l_aload_n rfl rfl ?_
    refine l_aload_n rfl rfl ?_
    refine l_bipush rfl rfl ?_
    have w10 : 0 ≤ Xi S 904 65 ∧ Xi S 904 65 ≤ 1 := hH.c _ _
    have w11 : 0 ≤ Xi S 904 8 ∧ Xi S 904 8 ≤ 5010 := hH.c _ _
    refine l_callV rfl rfl rfl (t_mo_isNext hH n c 105 ⟨by omega, by omega⟩ (by first | assumption | exact (TK_FR hF rfl (by assumption : TK S _))) (by first | assumption | exact (by assumption : AT S _ _)) _) ?_
    rintro _ _ ⟨rfl, z14, rfl, w14, w12, w13⟩
    show Rl _ _ _ _ _ [iv z14, .ref 904] _ _
    refine l_pfz rfl rfl rfl rfl (by omega) ?_
    obtain ⟨U1, eU1⟩ : ∃ T : sS, T = uI S 904 77 (Int32.ofInt z14) := ⟨_, rfl⟩
    rw [← eU1]
    have hHU1 : HI U1 := by rw [eU1]; exact HI_w hH (show 0 ≤ z14 by omega) (show z14 ≤ 1 by omega)
    have hFU1 : FR md_mo_be__2 S U1 := by rw [eU1]; exact FR.wI hF (mdf_i (r := (904, 905, 77, 78)) (List.mem_of_getElem? (i := 3) rfl) (inR_i (by omega) (by omega) (by omega) (by omega)))
    have w15 : Xi U1 904 77 = z14 := by rw [eU1]; exact Xi_same (by unfold rg; omega)
    have s25 : Xi U1 904 8 = Xi S 904 8 ∧ Xi U1 904 65 = Xi S 904 65 := ⟨by rw [eU1, Xi_ne (by omega)], by rw [eU1, Xi_ne (by omega)]⟩
    refine l_aload_n rfl rfl ?_
    refine l_dup rfl rfl ?_
    refine l_gfi rfl rfl rfl rfl rfl ?_
    have w16 : (Xi U1 904 8) = (Xi S 904 8) := (show Xi U1 904 8 = Xi S 904 8 from by rw [eU1]; exact Xi_ne (by omega))
    rw [w16]
    refine l_iconst rfl ?_
    refine l_iadd rfl ?_
    refine l_pfi rfl rfl rfl rfl ?_
    obtain ⟨U2, eU2⟩ : ∃ T : sS, T = uI U1 904 8 (Int32.ofInt ((Xi S 904 8) + 1)) := ⟨_, rfl⟩
    rw [← eU2]
    have hHU2 : HI U2 := by rw [eU2]; exact HI_w hHU1 (show 0 ≤ ((Xi S 904 8) + 1) by omega) (show ((Xi S 904 8) + 1) ≤ 5010 by omega)
    have hFU2 : FR md_mo_be__2 S U2 := by rw [eU2]; exact FR.wI hFU1 (mdf_i (r := (904, 905, 8, 9)) (List.mem_of_getElem? (i := 0) rfl) (inR_i (by omega) (by omega) (by omega) (by omega)))
    have w17 : Xi U2 904 8 = ((Xi S 904 8) + 1) := by rw [eU2]; exact Xi_same (by unfold rg; omega)
    have T35 : TK U1 n := TK_FR hFU1 rfl hT
    have A35 : AT U1 n c := AT_FR (FR_e eU1) rfl hA
    have t35 : AT U2 n c := at_up T35 A35 eU2 (by omega) (by omega) (by omega) (by rw [show Xi U1 904 8 = Xi S 904 8 by omega, (hFU1.cx 907 rfl _).1]; omega) (Or.inl rfl)
    have l35 : Xi U2 904 8 ≤ n := by have q := tk_lt T35 (by omega) (A35 (by omega)).1 (by rw [show Xi U1 904 8 = Xi S 904 8 by omega, (hFU1.cx 907 rfl _).1]; omega); omega
    refine l_goto rfl rfl ?_
    refine l_return rfl rfl ?_
    have w18 : Xi U2 904 65 = Xi S 904 65 := (show Xi U2 904 65 = Xi U1 904 65 from by rw [eU2]; exact Xi_ne (by omega)).trans ((show Xi U1 904 65 = Xi S 904 65 from by rw [eU1]; exact Xi_ne (by omega)))
    have w19 : 0 ≤ Xi S 904 65 ∧ Xi S 904 65 ≤ 1 := hH.c _ _
    have w20 : 0 ≤ Xi U2 904 8 ∧ Xi U2 904 8 ≤ 5010 := hHU2.c _ _
    exact ⟨hHU2, hFU2, rfl, (by first | exact t35 | exact AT_bad (by omega)), (by omega), (by omega)⟩
  · refine l_aload_n rfl rfl ?_
    refine l_bipush rfl rfl ?_
    have w21 : 0 ≤ Xi S 904 65 ∧ Xi S 904 65 ≤ 1 := hH.c _ _
    have w22 : 0 ≤ Xi S 904 8 ∧ Xi S 904 8 ≤ 5010 := hH.c _ _
    refine l_callV rfl rfl rfl (t_mo_isNext hH n c 105 ⟨by omega, by omega⟩ (by first | assumption | exact (TK_FR hF rfl (by assumption : TK S _))) (by first | assumption | exact (by assumption : AT S _ _)) _) ?_
    rintro _ _ ⟨rfl, z25, rfl, w25, w23, w24⟩
    show Rl _ _ _ _ _ [iv z25] _ _
    refine l_if_eq rfl rfl (by unfold rg; omega) (fun w26 => ?_) (fun w27 => ?_)
    · refine l_aload_n rfl rfl ?_
      have w28 : 0 ≤ Xi S 904 65 ∧ Xi S 904 65 ≤ 1 := hH.c _ _
      have w29 : 0 ≤ Xi S 904 8 ∧ Xi S 904 8 ≤ 5010 := hH.c _ _
      refine l_callV rfl rfl rfl (t_mo_odd hH _) ?_
      rintro _ T3 ⟨hHT3, w33, rfl, w30, w31⟩
      have hFT3 : FR md_mo_be__2 S T3 := FR.tr hF w33 rfl
      show Rl _ _ _ _ _ [] _ _
      refine l_return rfl rfl ?_
      have w34 : 0 ≤ Xi T3 904 65 ∧ Xi T3 904 65 ≤ 1 := hHT3.c _ _
      have w35 : Xi T3 904 8 = Xi S 904 8 := (show Xi T3 904 8 = Xi S 904 8 from w33.x _ _ rfl)
      have w36 : 0 ≤ Xi S 904 8 ∧ Xi S 904 8 ≤ 5010 := hH.c _ _
      exact ⟨hHT3, hFT3, rfl, (by first | exact t35 | exact AT_bad (by omega)), (by omega), (by omega)⟩
    · refine l_aload_n rfl rfl ?_
      refine l_aload_n rfl rfl ?_
      refine l_bipush rfl rfl ?_
      have w37 : 0 ≤ Xi S 904 65 ∧ Xi S 904 65 ≤ 1 := hH.c _ _
      have w38 : 0 ≤ Xi S 904 8 ∧ Xi S 904 8 ≤ 5010 := hH.c _ _
      refine l_callV rfl rfl rfl (t_mo_isNext hH n c 105 ⟨by omega, by omega⟩ (by first | assumption | exact (TK_FR hF rfl (by assumption : TK S _))) (by first | assumption | exact (by assumption : AT S _ _)) _) ?_
      rintro _ _ ⟨rfl, z41, rfl, w41, w39, w40⟩
      show Rl _ _ _ _ _ [iv z41, .ref 904] _ _
      refine l_pfz rfl rfl rfl rfl (by omega) ?_
      obtain ⟨U4, eU4⟩ : ∃ T : sS, T = uI S 904 77 (Int32.ofInt z41) := ⟨_, rfl⟩
      rw [← eU4]
      have hHU4 : HI U4 := by rw [eU4]; exact HI_w hH (show 0 ≤ z41 by omega) (show z41 ≤ 1 by omega)
      have hFU4 : FR md_mo_be__2 S U4 := by rw [eU4]; exact FR.wI hF (mdf_i (r := (904, 905, 77, 78)) (List.mem_of_getElem? (i := 3) rfl) (inR_i (by omega) (by omega) (by omega) (by omega)))
      have w42 : Xi U4 904 77 = z41 := by rw [eU4]; exact Xi_same (by unfold rg; omega)
      have s25 : Xi U4 904 8 = Xi S 904 8 ∧ Xi U4 904 65 = Xi S 904 65 := ⟨by rw [eU4, Xi_ne (by omega)], by rw [eU4, Xi_ne (by omega)]⟩
      refine l_aload_n rfl rfl ?_
      refine l_dup rfl rfl ?_
      refine l_gfi rfl rfl rfl rfl rfl ?_
      have w43 : (Xi U4 904 8) = (Xi S 904 8) := (show Xi U4 904 8 = Xi S 904 8 from by rw [eU4]; exact Xi_ne (by omega))
      rw [w43]
      refine l_iconst rfl ?_
      refine l_iadd rfl ?_
      refine l_pfi rfl rfl rfl rfl ?_
      obtain ⟨U5, eU5⟩ : ∃ T : sS, T = uI U4 904 8 (Int32.ofInt ((Xi S 904 8) + 1)) := ⟨_, rfl⟩
      rw [← eU5]
      have hHU5 : HI U5 := by rw [eU5]; exact HI_w hHU4 (show 0 ≤ ((Xi S 904 8) + 1) by omega) (show ((Xi S 904 8) + 1) ≤ 5010 by omega)
      have hFU5 : FR md_mo_be__2 S U5 := by rw [eU5]; exact FR.wI hFU4 (mdf_i (r := (904, 905, 8, 9)) (List.mem_of_getElem? (i := 0) rfl) (inR_i (by omega) (by omega) (by omega) (by omega)))
      have w44 : Xi U5 904 8 = ((Xi S 904 8) + 1) := by rw [eU5]; exact Xi_same (by unfold rg; omega)
      have T35 : TK U4 n := TK_FR hFU4 rfl hT
      have A35 : AT U4 n c := AT_FR (FR_e eU4) rfl hA
      have t35 : AT U5 n c := at_up T35 A35 eU5 (by omega) (by omega) (by omega) (by rw [show Xi U4 904 8 = Xi S 904 8 by omega, (hFU4.cx 907 rfl _).1]; omega) (Or.inl rfl)
      have l35 : Xi U5 904 8 ≤ n := by have q := tk_lt T35 (by omega) (A35 (by omega)).1 (by rw [show Xi U4 904 8 = Xi S 904 8 by omega, (hFU4.cx 907 rfl _).1]; omega); omega
      refine l_goto rfl rfl ?_
      refine l_return rfl rfl ?_
      have w45 : Xi U5 904 65 = Xi S 904 65 := (show Xi U5 904 65 = Xi U4 904 65 from by rw [eU5]; exact Xi_ne (by omega)).trans ((show Xi U4 904 65 = Xi S 904 65 from by rw [eU4]; exact Xi_ne (by omega)))
      have w46 : 0 ≤ Xi S 904 65 ∧ Xi S 904 65 ≤ 1 := hH.c _ _
      have w47 : 0 ≤ Xi U5 904 8 ∧ Xi U5 904 8 ≤ 5010 := hHU5.c _ _
      exact ⟨hHU5, hFU5, rfl, (by first | exact t35 | exact AT_bad (by omega)), (by omega), (by omega)⟩
def md_mo_what__2 : List rec := [(904, 905, 8, 9), (904, 905, 65, 66), (904, 905, 66, 67), (904, 905, 69, 70), (904, 905, 78, 79), (950, 951, 0, 100000), (951, 952, 0, 100000)]
abbrev Q_mo_what__2 (S : sS) (n : Nat) (c : Nat) : pst := fun r S1 => HI S1 ∧ FR md_mo_what__2 S S1 ∧ (r = none ∧ (AT S1 n c) ∧ (Xi S 904 8 ≤ Xi S1 904 8 ∧ (Xi S1 904 8 ≤ n ∨ Xi S1 904 8 = Xi S 904 8)) ∧ (RNV S1 n) ∧ (Xi S1 904 78 = Xi S 904 8) ∧ (Xi S1 904 65 = 0 → Xi S 904 65 = 0) ∧ (Xi S 904 69 ≤ Xi S1 904 69) ∧ (Xi S1 904 65 = 0 → Xi S 907 (Xi S 904 8).toNat ≠ 4 → Xi S 907 (Xi S 904 8).toNat ≠ 5 → Xi S 904 69 < Xi S1 904 69))
set_option maxRecDepth 100000 in
theorem t_mo_what__2 {S : sS} (hH : HI S) (n : Nat) (c : Nat) (hT : TK S n) (hA : AT S n c) (hv : RNV S n) (d : Nat) : Mt lay0 (d + 3) m_mo_what [.ref 904] S (Q_mo_what__2 S n c) := by
  refine Mt_R rfl rfl ?_
  have hF : FR md_mo_what__2 S S := FR.rf
  have w1 : 0 ≤ Xi S 904 65 ∧ Xi S 904 65 ≤ 1 := hH.c _ _
  have w2 : 0 ≤ Xi S 904 69 ∧ Xi S 904 69 ≤ 2600 := hH.c _ _
  have w3 : 0 ≤ Xi S 904 8 ∧ Xi S 904 8 ≤ 5010 := hH.c _ _
  have hn5 := hT.1
  have hat := hA
  have h8 : 0 ≤ Xi S 904 8 ∧ Xi S 904 8 ≤ 5010 := hH.c _ _
  have h69 : 0 ≤ Xi S 904 69 ∧ Xi S 904 69 ≤ 2600 := hH.c _ _
  have ha0 : Xi S 904 65 = 0 → Xi S 904 8 ≤ n := fun q => (hA q).1
  have ha3 : Xi S 904 65 = 0 → 2 * Xi S 904 69 ≤ Xi S 904 8 + 1 := fun q => (hA q).2.1
  clear hat
  refine l_aload_n rfl rfl ?_
  refine l_aload_n rfl rfl ?_
  refine l_gfi rfl rfl rfl rfl rfl ?_
  refine l_pfi rfl rfl rfl rfl ?_
  obtain ⟨U1, eU1⟩ : ∃ T : sS, T = uI S 904 78 (Int32.ofInt (Xi S 904 8)) := ⟨_, rfl⟩
  rw [← eU1]
  have hHU1 : HI U1 := by rw [eU1]; exact HI_w hH (show -2 ≤ (Xi S 904 8) by omega) (show (Xi S 904 8) ≤ 5010 by omega)
  have hFU1 : FR md_mo_what__2 S U1 := by rw [eU1]; exact FR.wI hF (mdf_i (r := (904, 905, 78, 79)) (List.mem_of_getElem? (i := 4) rfl) (inR_i (by omega) (by omega) (by omega) (by omega)))
  have w4 : Xi U1 904 78 = (Xi S 904 8) := by rw [eU1]; exact Xi_same (by unfold rg; omega)
  have s5 : Xi U1 904 8 = Xi S 904 8 ∧ Xi U1 904 65 = Xi S 904 65 := ⟨by rw [eU1, Xi_ne (by omega)], by rw [eU1, Xi_ne (by omega)]⟩
  refine l_aload_n rfl rfl ?_
  have w5 : Xi U1 904 65 = Xi S 904 65 := (show Xi U1 904 65 = Xi S 904 65 from by rw [eU1]; exact Xi_ne (by omega))
  have w6 : 0 ≤ Xi S 904 65 ∧ Xi S 904 65 ≤ 1 := hH.c _ _
  have w7 : Xi U1 904 69 = Xi S 904 69 := (show Xi U1 904 69 = Xi S 904 69 from by rw [eU1]; exact Xi_ne (by omega))
  have w8 : 0 ≤ Xi S 904 69 ∧ Xi S 904 69 ≤ 2600 := hH.c _ _
  have w9 : -2 ≤ Xi U1 904 78 ∧ Xi U1 904 78 ≤ 5010 := hHU1.c _ _
  have w10 : Xi U1 904 8 = Xi S 904 8 := (show Xi U1 904 8 = Xi S 904 8 from by rw [eU1]; exact Xi_ne (by omega))
  have w11 : 0 ≤ Xi S 904 8 ∧ Xi S 904 8 ≤ 5010 := hH.c _ _
  refine l_callV rfl rfl rfl (t_mo_look hHU1 n c (by first | assumption | exact (TK_FR hFU1 rfl (by assumption : TK S _))) (by first | assumption | exact (AT_FR (FR_e eU1) rfl (by assumption : AT S _ _))) _) ?_
  rintro _ _ ⟨rfl, z13, rfl, w13, w12⟩
  show Rl _ _ _ _ _ [iv z13] _ _
  refine l_istore_n rfl rfl rfl ?_
  refine l_iload_n rfl rfl ?_
  refine l_iconst rfl ?_
  refine l_icmp_eq rfl rfl (by unfold rg; omega) (by unfold rg; omega) (fun w14 => ?_) (fun w15 => ?_)
  · refine l_aload_n rfl rfl ?_
    refine l_dup rfl rfl ?_
    refine l_gfi rfl rfl rfl rfl rfl ?_
    have w16 : (Xi U1 904 8) = (Xi S 904 8) := (show Xi U1 904 8 = Xi S 904 8 from by rw [eU1]; exact Xi_ne (by omega))
    rw [w16]
    refine l_iconst rfl ?_
    refine l_iadd rfl ?_
    refine l_pfi rfl rfl rfl rfl ?_
    obtain ⟨U2, eU2⟩ : ∃ T : sS, T = uI U1 904 8 (Int32.ofInt ((Xi S 904 8) + 1)) := ⟨_, rfl⟩
    rw [← eU2]
    have hHU2 : HI U2 := by rw [eU2]; exact HI_w hHU1 (show 0 ≤ ((Xi S 904 8) + 1) by omega) (show ((Xi S 904 8) + 1) ≤ 5010 by omega)
    have hFU2 : FR md_mo_what__2 S U2 := by rw [eU2]; exact FR.wI hFU1 (mdf_i (r := (904, 905, 8, 9)) (List.mem_of_getElem? (i := 0) rfl) (inR_i (by omega) (by omega) (by omega) (by omega)))
    have w17 : Xi U2 904 8 = ((Xi S 904 8) + 1) := by rw [eU2]; exact Xi_same (by unfold rg; omega)
    have T30 : TK U1 n := TK_FR hFU1 rfl hT
    have A30 : AT U1 n c := AT_FR (FR_e eU1) rfl hA
    have t30 : AT U2 n c := at_up T30 A30 eU2 (by omega) (by omega) (by omega) (by omega) (Or.inl rfl)
    have l30 : Xi U2 904 8 ≤ n := by have q := tk_lt T30 (by omega) (A30 (by omega)).1 (by omega); omega
    have V30 : RNV U2 n := RNV_FR (FR_e eU2) rfl (RNV_FR (FR_e eU1) rfl hv)
    refine l_goto rfl rfl ?_
    refine l_return rfl rfl ?_
    have w18 : Xi U2 904 65 = Xi S 904 65 := (show Xi U2 904 65 = Xi U1 904 65 from by rw [eU2]; exact Xi_ne (by omega)).trans ((show Xi U1 904 65 = Xi S 904 65 from by rw [eU1]; exact Xi_ne (by omega)))
    have w19 : 0 ≤ Xi S 904 65 ∧ Xi S 904 65 ≤ 1 := hH.c _ _
    have w20 : Xi U2 904 69 = Xi S 904 69 := (show Xi U2 904 69 = Xi U1 904 69 from by rw [eU2]; exact Xi_ne (by omega)).trans ((show Xi U1 904 69 = Xi S 904 69 from by rw [eU1]; exact Xi_ne (by omega)))
    have w21 : 0 ≤ Xi S 904 69 ∧ Xi S 904 69 ≤ 2600 := hH.c _ _
    have w22 : Xi U2 904 78 = Xi U1 904 78 := (show Xi U2 904 78 = Xi U1 904 78 from by rw [eU2]; exact Xi_ne (by omega))
    have w23 : -2 ≤ Xi U1 904 78 ∧ Xi U1 904 78 ≤ 5010 := hHU1.c _ _
    have w24 : 0 ≤ Xi U2 904 8 ∧ Xi U2 904 8 ≤ 5010 := hHU2.c _ _
    exact ⟨hHU2, hFU2, rfl, (by first | exact t30 | assumption), (by omega), (by first | exact V30 | assumption), (by omega), (by omega), (by omega), (by omega)⟩
  · refine l_iload_n rfl rfl ?_
    refine l_iconst rfl ?_
    refine l_icmp_ne rfl rfl (by unfold rg; omega) (by unfold rg; omega) (fun w25 => ?_) (fun w26 => ?_)
    · refine l_aload_n rfl rfl ?_
      have w27 : Xi U1 904 65 = Xi S 904 65 := (show Xi U1 904 65 = Xi S 904 65 from by rw [eU1]; exact Xi_ne (by omega))
      have w28 : 0 ≤ Xi S 904 65 ∧ Xi S 904 65 ≤ 1 := hH.c _ _
      have w29 : Xi U1 904 69 = Xi S 904 69 := (show Xi U1 904 69 = Xi S 904 69 from by rw [eU1]; exact Xi_ne (by omega))
      have w30 : 0 ≤ Xi S 904 69 ∧ Xi S 904 69 ≤ 2600 := hH.c _ _
      have w31 : -2 ≤ Xi U1 904 78 ∧ Xi U1 904 78 ≤ 5010 := hHU1.c _ _
      have w32 : Xi U1 904 8 = Xi S 904 8 := (show Xi U1 904 8 = Xi S 904 8 from by rw [eU1]; exact Xi_ne (by omega))
      have w33 : 0 ≤ Xi S 904 8 ∧ Xi S 904 8 ≤ 5010 := hH.c _ _
      refine l_callV rfl rfl rfl (t_mo_run hHU1 n c (by first | assumption | exact (TK_FR hFU1 rfl (by assumption : TK S _))) (by first | assumption | exact (AT_FR (FR_e eU1) rfl (by assumption : AT S _ _))) (by first | assumption | exact (RNV_FR (FR_e eU1) rfl (by assumption : RNV S _))) _) ?_
      rintro _ T3 ⟨hHT3, w40, z39, rfl, w39, w34, w35, w36, w37, w38⟩
      have hFT3 : FR md_mo_what__2 S T3 := FR.tr hFU1 w40 rfl
      show Rl _ _ _ _ _ [iv z39] _ _
      refine l_pop rfl rfl ?_
      refine l_return rfl rfl ?_
      have w41 : 0 ≤ Xi T3 904 65 ∧ Xi T3 904 65 ≤ 1 := hHT3.c _ _
      have w42 : 0 ≤ Xi T3 904 69 ∧ Xi T3 904 69 ≤ 2600 := hHT3.c _ _
      have w43 : Xi T3 904 78 = Xi U1 904 78 := (show Xi T3 904 78 = Xi U1 904 78 from w40.x _ _ rfl)
      have w44 : -2 ≤ Xi U1 904 78 ∧ Xi U1 904 78 ≤ 5010 := hHU1.c _ _
      have w45 : 0 ≤ Xi T3 904 8 ∧ Xi T3 904 8 ≤ 5010 := hHT3.c _ _
      exact ⟨hHT3, hFT3, rfl, (by first | exact t30 | assumption), (by omega), (by first | exact V30 | assumption), (by omega), (by omega), (by omega), (by omega)⟩
    · refine l_aload_n rfl rfl ?_
      refine l_dup rfl rfl ?_
      refine l_gfi rfl rfl rfl rfl rfl ?_
      have w46 : (Xi U1 904 8) = (Xi S 904 8) := (show Xi U1 904 8 = Xi S 904 8 from by rw [eU1]; exact Xi_ne (by omega))
      rw [w46]
      refine l_iconst rfl ?_
      refine l_iadd rfl ?_
      refine l_pfi rfl rfl rfl rfl ?_
      obtain ⟨U4, eU4⟩ : ∃ T : sS, T = uI U1 904 8 (Int32.ofInt ((Xi S 904 8) + 1)) := ⟨_, rfl⟩
      rw [← eU4]
      have hHU4 : HI U4 := by rw [eU4]; exact HI_w hHU1 (show 0 ≤ ((Xi S 904 8) + 1) by omega) (show ((Xi S 904 8) + 1) ≤ 5010 by omega)
      have hFU4 : FR md_mo_what__2 S U4 := by rw [eU4]; exact FR.wI hFU1 (mdf_i (r := (904, 905, 8, 9)) (List.mem_of_getElem? (i := 0) rfl) (inR_i (by omega) (by omega) (by omega) (by omega)))
      have w47 : Xi U4 904 8 = ((Xi S 904 8) + 1) := by rw [eU4]; exact Xi_same (by unfold rg; omega)
      have T30 : TK U1 n := TK_FR hFU1 rfl hT
      have A30 : AT U1 n c := AT_FR (FR_e eU1) rfl hA
      have t30 : AT U4 n c := at_up T30 A30 eU4 (by omega) (by omega) (by omega) (by omega) (Or.inl rfl)
      have l30 : Xi U4 904 8 ≤ n := by have q := tk_lt T30 (by omega) (A30 (by omega)).1 (by omega); omega
      have V30 : RNV U4 n := RNV_FR (FR_e eU4) rfl (RNV_FR (FR_e eU1) rfl hv)
      refine l_goto rfl rfl ?_
      refine l_return rfl rfl ?_
      have w48 : Xi U4 904 65 = Xi S 904 65 := (show Xi U4 904 65 = Xi U1 904 65 from by rw [eU4]; exact Xi_ne (by omega)).trans ((show Xi U1 904 65 = Xi S 904 65 from by rw [eU1]; exact Xi_ne (by omega)))
      have w49 : 0 ≤ Xi S 904 65 ∧ Xi S 904 65 ≤ 1 := hH.c _ _
      have w50 : Xi U4 904 69 = Xi S 904 69 := (show Xi U4 904 69 = Xi U1 904 69 from by rw [eU4]; exact Xi_ne (by omega)).trans ((show Xi U1 904 69 = Xi S 904 69 from by rw [eU1]; exact Xi_ne (by omega)))
      have w51 : 0 ≤ Xi S 904 69 ∧ Xi S 904 69 ≤ 2600 := hH.c _ _
      have w52 : Xi U4 904 78 = Xi U1 904 78 := (show Xi U4 904 78 = Xi U1 904 78 from by rw [eU4]; exact Xi_ne (by omega))
      have w53 : -2 ≤ Xi U1 904 78 ∧ Xi U1 904 78 ≤ 5010 := hHU1.c _ _
      have w54 : 0 ≤ Xi U4 904 8 ∧ Xi U4 904 8 ≤ 5010 := hHU4.c _ _
      exact ⟨hHU4, hFU4, rfl, (by first | exact t30 | assumption), (by omega), (by first | exact V30 | assumption), (by omega), (by omega), (by omega), (by omega)⟩
def md_mo_oneOrVarious__2 : List rec := [(904, 905, 8, 9), (904, 905, 65, 66), (904, 905, 66, 67)]
abbrev Q_mo_oneOrVarious__2 (S : sS) (n : Nat) (c : Nat) : pst := fun r S1 => HI S1 ∧ FR md_mo_oneOrVarious__2 S S1 ∧ (∃ z : Int, r = some (iv z) ∧ (0 ≤ z ∧ z ≤ 1) ∧ (AT S1 n c) ∧ (Xi S1 904 8 = Xi S 904 8 + 1) ∧ (Xi S1 904 65 = 0 → Xi S 904 65 = 0))
set_option maxRecDepth 100000 in
theorem t_mo_oneOrVarious__2 {S : sS} (hH : HI S) (n : Nat) (c : Nat) (hT : TK S n) (hA : AT S n c) (h5 : Xi S 904 8 ≤ 5005) (d : Nat) : Mt lay0 (d + 2) m_mo_oneOrVarious [.ref 904] S (Q_mo_oneOrVarious__2 S n c) := by
  refine Mt_R rfl rfl ?_
  have hF : FR md_mo_oneOrVarious__2 S S := FR.rf
  have w1 : 0 ≤ Xi S 904 65 ∧ Xi S 904 65 ≤ 1 := hH.c _ _
  have w2 : 0 ≤ Xi S 904 8 ∧ Xi S 904 8 ≤ 5010 := hH.c _ _
  have hn5 := hT.1
  have hat := hA
  have h8 : 0 ≤ Xi S 904 8 ∧ Xi S 904 8 ≤ 5010 := hH.c _ _
  have h69 : 0 ≤ Xi S 904 69 ∧ Xi S 904 69 ≤ 2600 := hH.c _ _
  have ha0 : Xi S 904 65 = 0 → Xi S 904 8 ≤ n := fun q => (hA q).1
  have ha3 : Xi S 904 65 = 0 → 2 * Xi S 904 69 ≤ Xi S 904 8 + 1 := fun q => (hA q).2.1
  clear hat
  refine l_aload_n rfl rfl ?_
  refine l_bipush rfl rfl ?_
  have w3 : 0 ≤ Xi S 904 65 ∧ Xi S 904 65 ≤ 1 := hH.c _ _
  have w4 : 0 ≤ Xi S 904 8 ∧ Xi S 904 8 ≤ 5010 := hH.c _ _
  refine l_callV rfl rfl rfl (t_mo_isNext hH n c 122 ⟨by omega, by omega⟩ (by first | assumption | exact (TK_FR hF rfl (by assumption : TK S _))) (by first | assumption | exact (by assumption : AT S _ _)) _) ?_
  rintro _ _ ⟨rfl, z7, rfl, w7, w5, w6⟩
  show Rl _ _ _ _ _ [iv z7] _ _
  refine l_istore_n rfl rfl rfl ?_
  refine l_iload_n rfl rfl ?_
  refine l_if_ne rfl rfl (by unfold rg; omega) (fun w8 => ?_) (fun w9 => ?_)
  · refine l_aload_n rfl rfl ?_
    refine l_dup rfl rfl ?_
    refine l_gfi rfl rfl rfl rfl rfl ?_
    refine l_iconst rfl ?_
    refine l_iadd rfl ?_
    refine l_pfi rfl rfl rfl rfl ?_
    obtain ⟨U1, eU1⟩ : ∃ T : sS, T = uI S 904 8 (Int32.ofInt ((Xi S 904 8) + 1)) := ⟨_, rfl⟩
    rw [← eU1]
    have hHU1 : HI U1 := by rw [eU1]; exact HI_w hH (show 0 ≤ ((Xi S 904 8) + 1) by omega) (show ((Xi S 904 8) + 1) ≤ 5010 by omega)
    have hFU1 : FR md_mo_oneOrVarious__2 S U1 := by rw [eU1]; exact FR.wI hF (mdf_i (r := (904, 905, 8, 9)) (List.mem_of_getElem? (i := 0) rfl) (inR_i (by omega) (by omega) (by omega) (by omega)))
    have w10 : Xi U1 904 8 = ((Xi S 904 8) + 1) := by rw [eU1]; exact Xi_same (by unfold rg; omega)
    have t31 : AT U1 n c := by first | exact at_up hT hA eU1 (by omega) (by omega) (by omega) (by omega) (Or.inl rfl) | exact AT_bad (by rw [eU1, Xi_ne (by omega)]; omega)
    refine l_iload_n rfl rfl ?_
    refine l_ireturn rfl (retI_z (by omega)) ?_
    have w11 : Xi U1 904 65 = Xi S 904 65 := (show Xi U1 904 65 = Xi S 904 65 from by rw [eU1]; exact Xi_ne (by omega))
    have w12 : 0 ≤ Xi S 904 65 ∧ Xi S 904 65 ≤ 1 := hH.c _ _
    have w13 : 0 ≤ Xi U1 904 8 ∧ Xi U1 904 8 ≤ 5010 := hHU1.c _ _
    exact ⟨hHU1, hFU1, _, rfl, ⟨by omega, by omega⟩, (t31), (by omega), (by omega)⟩
  · refine l_aload_n rfl rfl ?_
    refine l_bipush rfl rfl ?_
    have w14 : 0 ≤ Xi S 904 65 ∧ Xi S 904 65 ≤ 1 := hH.c _ _
    have w15 : 0 ≤ Xi S 904 8 ∧ Xi S 904 8 ≤ 5010 := hH.c _ _
    refine l_callV rfl rfl rfl (t_mo_isNext hH n c 123 ⟨by omega, by omega⟩ (by first | assumption | exact (TK_FR hF rfl (by assumption : TK S _))) (by first | assumption | exact (by assumption : AT S _ _)) _) ?_
    rintro _ _ ⟨rfl, z18, rfl, w18, w16, w17⟩
    show Rl _ _ _ _ _ [iv z18] _ _
    refine l_if_ne rfl rfl (by unfold rg; omega) (fun w19 => ?_) (fun w20 => ?_)
    · refine l_aload_n rfl rfl ?_
      refine l_dup rfl rfl ?_
      refine l_gfi rfl rfl rfl rfl rfl ?_
      refine l_iconst rfl ?_
      refine l_iadd rfl ?_
      refine l_pfi rfl rfl rfl rfl ?_
      obtain ⟨U2, eU2⟩ : ∃ T : sS, T = uI S 904 8 (Int32.ofInt ((Xi S 904 8) + 1)) := ⟨_, rfl⟩
      rw [← eU2]
      have hHU2 : HI U2 := by rw [eU2]; exact HI_w hH (show 0 ≤ ((Xi S 904 8) + 1) by omega) (show ((Xi S 904 8) + 1) ≤ 5010 by omega)
      have hFU2 : FR md_mo_oneOrVarious__2 S U2 := by rw [eU2]; exact FR.wI hF (mdf_i (r := (904, 905, 8, 9)) (List.mem_of_getElem? (i := 0) rfl) (inR_i (by omega) (by omega) (by omega) (by omega)))
      have w21 : Xi U2 904 8 = ((Xi S 904 8) + 1) := by rw [eU2]; exact Xi_same (by unfold rg; omega)
      have t31 : AT U2 n c := by first | exact at_up hT hA eU2 (by omega) (by omega) (by omega) (by omega) (Or.inl rfl) | exact AT_bad (by rw [eU2, Xi_ne (by omega)]; omega)
      refine l_iload_n rfl rfl ?_
      refine l_ireturn rfl (retI_z (by omega)) ?_
      have w22 : Xi U2 904 65 = Xi S 904 65 := (show Xi U2 904 65 = Xi S 904 65 from by rw [eU2]; exact Xi_ne (by omega))
      have w23 : 0 ≤ Xi S 904 65 ∧ Xi S 904 65 ≤ 1 := hH.c _ _
      have w24 : 0 ≤ Xi U2 904 8 ∧ Xi U2 904 8 ≤ 5010 := hHU2.c _ _
      exact ⟨hHU2, hFU2, _, rfl, ⟨by omega, by omega⟩, (t31), (by omega), (by omega)⟩
    · refine l_aload_n rfl rfl ?_
      have w25 : 0 ≤ Xi S 904 65 ∧ Xi S 904 65 ≤ 1 := hH.c _ _
      have w26 : 0 ≤ Xi S 904 8 ∧ Xi S 904 8 ≤ 5010 := hH.c _ _
      refine l_callV rfl rfl rfl (t_mo_odd hH _) ?_
      rintro _ T3 ⟨hHT3, w30, rfl, w27, w28⟩
      have hFT3 : FR md_mo_oneOrVarious__2 S T3 := FR.tr hF w30 rfl
      show Rl _ _ _ _ _ [] _ _
      refine l_aload_n rfl rfl ?_
      refine l_dup rfl rfl ?_
      refine l_gfi rfl rfl rfl rfl rfl ?_
      have w31 : (Xi T3 904 8) = (Xi S 904 8) := (show Xi T3 904 8 = Xi S 904 8 from w30.x _ _ rfl)
      rw [w31]
      refine l_iconst rfl ?_
      refine l_iadd rfl ?_
      refine l_pfi rfl rfl rfl rfl ?_
      obtain ⟨U4, eU4⟩ : ∃ T : sS, T = uI T3 904 8 (Int32.ofInt ((Xi S 904 8) + 1)) := ⟨_, rfl⟩
      rw [← eU4]
      have hHU4 : HI U4 := by rw [eU4]; exact HI_w hHT3 (show 0 ≤ ((Xi S 904 8) + 1) by omega) (show ((Xi S 904 8) + 1) ≤ 5010 by omega)
      have hFU4 : FR md_mo_oneOrVarious__2 S U4 := by rw [eU4]; exact FR.wI hFT3 (mdf_i (r := (904, 905, 8, 9)) (List.mem_of_getElem? (i := 0) rfl) (inR_i (by omega) (by omega) (by omega) (by omega)))
      have w32 : Xi U4 904 8 = ((Xi S 904 8) + 1) := by rw [eU4]; exact Xi_same (by unfold rg; omega)
      have t31 : AT U4 n c := by first | exact at_up hT hA eU4 (by omega) (by omega) (by omega) (by omega) (Or.inl rfl) | exact AT_bad (by rw [eU4, Xi_ne (by omega)]; omega)
      refine l_iload_n rfl rfl ?_
      refine l_ireturn rfl (retI_z (by omega)) ?_
      have w33 : Xi U4 904 65 = Xi T3 904 65 := (show Xi U4 904 65 = Xi T3 904 65 from by rw [eU4]; exact Xi_ne (by omega))
      have w34 : 0 ≤ Xi T3 904 65 ∧ Xi T3 904 65 ≤ 1 := hHT3.c _ _
      have w35 : 0 ≤ Xi U4 904 8 ∧ Xi U4 904 8 ≤ 5010 := hHU4.c _ _
      exact ⟨hHU4, hFU4, _, rfl, ⟨by omega, by omega⟩, (t31), (by omega), (by omega)⟩
def md_mo_list__2 : List rec := [(904, 905, 8, 9), (904, 905, 65, 66), (904, 905, 66, 67), (904, 905, 69, 70), (904, 905, 71, 72), (904, 905, 72, 73), (950, 951, 0, 100000), (951, 952, 0, 100000)]
abbrev Q_mo_list__2 (S : sS) (n : Nat) (c : Nat) (art : Int) : pst := fun r S1 => HI S1 ∧ FR md_mo_list__2 S S1 ∧ (r = none ∧ (AT S1 n c) ∧ (Xi S 904 8 ≤ Xi S1 904 8 ∧ (Xi S1 904 8 ≤ n ∨ Xi S1 904 8 = Xi S 904 8)) ∧ (RNV S1 n) ∧ (Xi S1 904 71 = Xi S 904 69 ∧ Xi S1 904 72 = Xi S1 904 69 - Xi S 904 69) ∧ (Xi S1 904 65 = 0 → Xi S 904 65 = 0) ∧ (Xi S 904 69 ≤ Xi S1 904 69) ∧ (Xi S1 904 65 = 0 → Xi S 904 69 < Xi S1 904 69))
set_option maxRecDepth 100000 in
theorem t_mo_list__2 {S : sS} (hH : HI S) (n : Nat) (c : Nat) (art : Int) (hart : 0 ≤ art ∧ art ≤ 1) (hT : TK S n) (hA : AT S n c) (hv : RNV S n) (d : Nat) : Mt lay0 (d + 4) m_mo_list [.ref 904, iv art] S (Q_mo_list__2 S n c art) := by
  refine Mt_R rfl rfl ?_
  have hF : FR md_mo_list__2 S S := FR.rf
  have w1 : 0 ≤ Xi S 904 65 ∧ Xi S 904 65 ≤ 1 := hH.c _ _
  have w2 : 0 ≤ Xi S 904 69 ∧ Xi S 904 69 ≤ 2600 := hH.c _ _
  have w3 : 0 ≤ Xi S 904 71 ∧ Xi S 904 71 ≤ 2600 := hH.c _ _
  have w4 : 0 ≤ Xi S 904 8 ∧ Xi S 904 8 ≤ 5010 := hH.c _ _
  have hn5 := hT.1
  have hat := hA
  have h8 : 0 ≤ Xi S 904 8 ∧ Xi S 904 8 ≤ 5010 := hH.c _ _
  have h69 : 0 ≤ Xi S 904 69 ∧ Xi S 904 69 ≤ 2600 := hH.c _ _
  have ha0 : Xi S 904 65 = 0 → Xi S 904 8 ≤ n := fun q => (hA q).1
  have ha3 : Xi S 904 65 = 0 → 2 * Xi S 904 69 ≤ Xi S 904 8 + 1 := fun q => (hA q).2.1
  clear hat
  have C10 : ∀ (n10 : Nat) (T1 : sS) (_ : HI T1) (_ : FR md_mo_list__2 S T1) (v2 : Int), (0 ≤ v2 ∧ v2 ≤ 1) → (TK T1 n) → (AT T1 n c) → (RNV T1 n) → (Xi T1 904 71 = Xi S 904 69) → (Xi S 904 69 ≤ Xi T1 904 69) → (Xi S 904 8 ≤ Xi T1 904 8) → (Xi T1 904 8 ≤ n ∨ Xi T1 904 8 = Xi S 904 8) → (Xi T1 904 65 = 0 → Xi S 904 65 = 0) → (v2 = 0 → Xi T1 904 65 = 0 → Xi S 904 69 < Xi T1 904 69) → n10 = (2 * (5012 - Xi T1 904 8) + v2).toNat → Rl lay0 (d + 3) m_mo_list 10 [(0, .ref 904), (1, iv art), (2, iv v2)] [] T1 (Q_mo_list__2 S n c art) := by
    intro n10
    induction n10 using Nat.strongRecOn with
    | ind n10 ih10 =>
      intro T1 hHT1 hFT1 v2 w5 T10 A10 V10 w6 w7 w8 m10 w9 w10 hm10
      have w11 : 0 ≤ Xi T1 904 65 ∧ Xi T1 904 65 ≤ 1 := hHT1.c _ _
      have w12 : 0 ≤ Xi T1 904 69 ∧ Xi T1 904 69 ≤ 2600 := hHT1.c _ _
      have w13 : 0 ≤ Xi T1 904 71 ∧ Xi T1 904 71 ≤ 2600 := hHT1.c _ _
      have w14 : 0 ≤ Xi T1 904 8 ∧ Xi T1 904 8 ≤ 5010 := hHT1.c _ _
      refine l_iload_n rfl rfl ?_
      refine l_if_eq rfl rfl (by unfold rg; omega) (fun w15 => ?_) (fun w16 => ?_)
      · refine l_aload_n rfl rfl ?_
        refine l_aload_n rfl rfl ?_
        refine l_gfi rfl rfl rfl rfl rfl ?_
        refine l_aload_n rfl rfl ?_
        refine l_gfi rfl rfl rfl rfl rfl ?_
        refine l_isub rfl ?_
        refine l_pfi rfl rfl rfl rfl ?_
        obtain ⟨U2, eU2⟩ : ∃ T : sS, T = uI T1 904 72 (Int32.ofInt ((Xi T1 904 69) - (Xi T1 904 71))) := ⟨_, rfl⟩
        rw [← eU2]
        have hHU2 : HI U2 := by rw [eU2]; exact HI_w hHT1 (show 0 ≤ ((Xi T1 904 69) - (Xi T1 904 71)) by omega) (show ((Xi T1 904 69) - (Xi T1 904 71)) ≤ 2600 by omega)
        have hFU2 : FR md_mo_list__2 S U2 := by rw [eU2]; exact FR.wI hFT1 (mdf_i (r := (904, 905, 72, 73)) (List.mem_of_getElem? (i := 5) rfl) (inR_i (by omega) (by omega) (by omega) (by omega)))
        have w17 : Xi U2 904 72 = ((Xi T1 904 69) - (Xi T1 904 71)) := by rw [eU2]; exact Xi_same (by unfold rg; omega)
        have s56 : Xi U2 904 8 = Xi T1 904 8 ∧ Xi U2 904 69 = Xi T1 904 69 ∧ Xi U2 904 71 = Xi T1 904 71 := ⟨by rw [eU2, Xi_ne (by omega)], by rw [eU2, Xi_ne (by omega)], by rw [eU2, Xi_ne (by omega)]⟩
        have A56 : AT U2 n c := AT_FR (FR_e eU2) rfl A10
        have V56 : RNV U2 n := RNV_FR (FR_e eU2) rfl V10
        refine l_return rfl rfl ?_
        have w18 : Xi U2 904 65 = Xi T1 904 65 := (show Xi U2 904 65 = Xi T1 904 65 from by rw [eU2]; exact Xi_ne (by omega))
        have w19 : 0 ≤ Xi T1 904 65 ∧ Xi T1 904 65 ≤ 1 := hHT1.c _ _
        have w20 : Xi U2 904 69 = Xi T1 904 69 := (show Xi U2 904 69 = Xi T1 904 69 from by rw [eU2]; exact Xi_ne (by omega))
        have w21 : 0 ≤ Xi T1 904 69 ∧ Xi T1 904 69 ≤ 2600 := hHT1.c _ _
        have w22 : Xi U2 904 71 = Xi T1 904 71 := (show Xi U2 904 71 = Xi T1 904 71 from by rw [eU2]; exact Xi_ne (by omega))
        have w23 : 0 ≤ Xi T1 904 71 ∧ Xi T1 904 71 ≤ 2600 := hHT1.c _ _
        have w24 : 0 ≤ Xi U2 904 72 ∧ Xi U2 904 72 ≤ 2600 := hHU2.c _ _
        have w25 : Xi U2 904 8 = Xi T1 904 8 := (show Xi U2 904 8 = Xi T1 904 8 from by rw [eU2]; exact Xi_ne (by omega))
        have w26 : 0 ≤ Xi T1 904 8 ∧ Xi T1 904 8 ≤ 5010 := hHT1.c _ _
        exact ⟨hHU2, hFU2, rfl, (A56), (by omega), (V56), (by omega), (by omega), (by omega), (by omega)⟩
      · refine l_aload_n rfl rfl ?_
        refine l_gfi rfl rfl rfl rfl rfl ?_
        refine l_if_ne rfl rfl (by unfold rg; omega) (fun w27 => ?_) (fun w28 => ?_)
        · refine l_aload_n rfl rfl ?_
          refine l_aload_n rfl rfl ?_
          refine l_gfi rfl rfl rfl rfl rfl ?_
          refine l_aload_n rfl rfl ?_
          refine l_gfi rfl rfl rfl rfl rfl ?_
          refine l_isub rfl ?_
          refine l_pfi rfl rfl rfl rfl ?_
          obtain ⟨U3, eU3⟩ : ∃ T : sS, T = uI T1 904 72 (Int32.ofInt ((Xi T1 904 69) - (Xi T1 904 71))) := ⟨_, rfl⟩
          rw [← eU3]
          have hHU3 : HI U3 := by rw [eU3]; exact HI_w hHT1 (show 0 ≤ ((Xi T1 904 69) - (Xi T1 904 71)) by omega) (show ((Xi T1 904 69) - (Xi T1 904 71)) ≤ 2600 by omega)
          have hFU3 : FR md_mo_list__2 S U3 := by rw [eU3]; exact FR.wI hFT1 (mdf_i (r := (904, 905, 72, 73)) (List.mem_of_getElem? (i := 5) rfl) (inR_i (by omega) (by omega) (by omega) (by omega)))
          have w29 : Xi U3 904 72 = ((Xi T1 904 69) - (Xi T1 904 71)) := by rw [eU3]; exact Xi_same (by unfold rg; omega)
          have s56 : Xi U3 904 8 = Xi T1 904 8 ∧ Xi U3 904 69 = Xi T1 904 69 ∧ Xi U3 904 71 = Xi T1 904 71 := ⟨by rw [eU3, Xi_ne (by omega)], by rw [eU3, Xi_ne (by omega)], by rw [eU3, Xi_ne (by omega)]⟩
          have A56 : AT U3 n c := AT_FR (FR_e eU3) rfl A10
          have V56 : RNV U3 n := RNV_FR (FR_e eU3) rfl V10
          refine l_return rfl rfl ?_
          have w30 : Xi U3 904 65 = Xi T1 904 65 := (show Xi U3 904 65 = Xi T1 904 65 from by rw [eU3]; exact Xi_ne (by omega))
          have w31 : 0 ≤ Xi T1 904 65 ∧ Xi T1 904 65 ≤ 1 := hHT1.c _ _
          have w32 : Xi U3 904 69 = Xi T1 904 69 := (show Xi U3 904 69 = Xi T1 904 69 from by rw [eU3]; exact Xi_ne (by omega))
          have w33 : 0 ≤ Xi T1 904 69 ∧ Xi T1 904 69 ≤ 2600 := hHT1.c _ _
          have w34 : Xi U3 904 71 = Xi T1 904 71 := (show Xi U3 904 71 = Xi T1 904 71 from by rw [eU3]; exact Xi_ne (by omega))
          have w35 : 0 ≤ Xi T1 904 71 ∧ Xi T1 904 71 ≤ 2600 := hHT1.c _ _
          have w36 : 0 ≤ Xi U3 904 72 ∧ Xi U3 904 72 ≤ 2600 := hHU3.c _ _
          have w37 : Xi U3 904 8 = Xi T1 904 8 := (show Xi U3 904 8 = Xi T1 904 8 from by rw [eU3]; exact Xi_ne (by omega))
          have w38 : 0 ≤ Xi T1 904 8 ∧ Xi T1 904 8 ≤ 5010 := hHT1.c _ _
          exact ⟨hHU3, hFU3, rfl, (A56), (by omega), (V56), (by omega), (by omega), (by omega), (by omega)⟩
        · refine l_iload_n rfl rfl ?_
          refine l_if_eq rfl rfl (by unfold rg; omega) (fun w39 => ?_) (fun w40 => ?_)
          · refine l_aload_n rfl rfl ?_
            have w41 : 0 ≤ Xi T1 904 65 ∧ Xi T1 904 65 ≤ 1 := hHT1.c _ _
            have w42 : 0 ≤ Xi T1 904 69 ∧ Xi T1 904 69 ≤ 2600 := hHT1.c _ _
            have w43 : 0 ≤ Xi T1 904 71 ∧ Xi T1 904 71 ≤ 2600 := hHT1.c _ _
            have w44 : 0 ≤ Xi T1 904 8 ∧ Xi T1 904 8 ≤ 5010 := hHT1.c _ _
            refine l_callV rfl rfl rfl (t_mo_run hHT1 n c (by first | assumption | exact (TK_FR hFT1 rfl (by assumption : TK S _))) (by first | assumption | exact (by assumption : AT T1 _ _)) (by first | assumption | exact (by assumption : RNV T1 _)) _) ?_
            rintro _ T4 ⟨hHT4, w51, z50, rfl, w50, w45, w46, w47, w48, w49⟩
            have hFT4 : FR md_mo_list__2 S T4 := FR.tr hFT1 w51 rfl
            show Rl _ _ _ _ _ [iv z50] _ _
            have T34 : TK T4 n := TK_FR (by assumption : FR md_mo_run T1 T4) rfl T10
            refine l_pop rfl rfl ?_
            refine l_aload_n rfl rfl ?_
            have w52 : 0 ≤ Xi T4 904 65 ∧ Xi T4 904 65 ≤ 1 := hHT4.c _ _
            have w53 : 0 ≤ Xi T4 904 69 ∧ Xi T4 904 69 ≤ 2600 := hHT4.c _ _
            have w54 : Xi T4 904 71 = Xi T1 904 71 := (show Xi T4 904 71 = Xi T1 904 71 from w51.x _ _ rfl)
            have w55 : 0 ≤ Xi T1 904 71 ∧ Xi T1 904 71 ≤ 2600 := hHT1.c _ _
            have w56 : 0 ≤ Xi T4 904 8 ∧ Xi T4 904 8 ≤ 5010 := hHT4.c _ _
            refine l_callV rfl rfl rfl (t_mo_isMore hHT4 n c (by first | assumption | exact (TK_FR hFT4 rfl (by assumption : TK S _))) (by first | assumption | exact (by assumption : AT T4 _ _)) _) ?_
            rintro _ T5 ⟨hHT5, w62, z61, rfl, w61, w57, w58, w59, w60⟩
            have hFT5 : FR md_mo_list__2 S T5 := FR.tr hFT4 w62 rfl
            show Rl _ _ _ _ _ [iv z61] _ _
            have V39 : RNV T5 n := RNV_FR (by assumption : FR md_mo_isMore T4 T5) rfl (by assumption)
            have r39 : Xi T5 904 69 = Xi T4 904 69 := (by assumption : FR md_mo_isMore T4 T5).x 904 69 rfl
            have T39 : TK T5 n := TK_FR (by assumption : FR md_mo_isMore T4 T5) rfl (by first | exact T26 | exact T34)
            refine l_istore_n rfl rfl rfl ?_
            refine l_goto rfl rfl ?_
            have w63 : Xi T5 904 65 = Xi T4 904 65 := (show Xi T5 904 65 = Xi T4 904 65 from w62.x _ _ rfl)
            have w64 : 0 ≤ Xi T4 904 65 ∧ Xi T4 904 65 ≤ 1 := hHT4.c _ _
            have w65 : Xi T5 904 69 = Xi T4 904 69 := (show Xi T5 904 69 = Xi T4 904 69 from w62.x _ _ rfl)
            have w66 : 0 ≤ Xi T4 904 69 ∧ Xi T4 904 69 ≤ 2600 := hHT4.c _ _
            have w67 : Xi T5 904 71 = Xi T1 904 71 := (show Xi T5 904 71 = Xi T4 904 71 from w62.x _ _ rfl).trans ((show Xi T4 904 71 = Xi T1 904 71 from w51.x _ _ rfl))
            have w68 : 0 ≤ Xi T1 904 71 ∧ Xi T1 904 71 ≤ 2600 := hHT1.c _ _
            have w69 : 0 ≤ Xi T5 904 8 ∧ Xi T5 904 8 ≤ 5010 := hHT5.c _ _
            exact Rl_weak (ih10 _ (by omega) T5 hHT5 hFT5 (z61) (by omega) (by first | exact T39 | exact T5) (by first | assumption | exact A5) (by first | exact V39 | exact V5) (by omega) (by omega) (by omega) (by omega) (by omega) (by omega) rfl) (And.intro rfl (And.intro rfl (And.intro rfl (True.intro))))
          · refine l_aload_n rfl rfl ?_
            have w70 : 0 ≤ Xi T1 904 65 ∧ Xi T1 904 65 ≤ 1 := hHT1.c _ _
            have w71 : 0 ≤ Xi T1 904 69 ∧ Xi T1 904 69 ≤ 2600 := hHT1.c _ _
            have w72 : 0 ≤ Xi T1 904 71 ∧ Xi T1 904 71 ≤ 2600 := hHT1.c _ _
            have w73 : 0 ≤ Xi T1 904 8 ∧ Xi T1 904 8 ≤ 5010 := hHT1.c _ _
            refine l_callV rfl rfl rfl (t_mo_name hHT1 n c (by first | assumption | exact (TK_FR hFT1 rfl (by assumption : TK S _))) (by first | assumption | exact (by assumption : AT T1 _ _)) (by first | assumption | exact (by assumption : RNV T1 _)) _) ?_
            rintro _ T6 ⟨hHT6, w80, z79, rfl, w79, w74, w75, w76, w77, w78⟩
            have hFT6 : FR md_mo_list__2 S T6 := FR.tr hFT1 w80 rfl
            show Rl _ _ _ _ _ [iv z79] _ _
            have T26 : TK T6 n := TK_FR (by assumption : FR md_mo_name T1 T6) rfl T10
            refine l_pop rfl rfl ?_
            refine l_goto rfl rfl ?_
            refine l_aload_n rfl rfl ?_
            have w81 : 0 ≤ Xi T6 904 65 ∧ Xi T6 904 65 ≤ 1 := hHT6.c _ _
            have w82 : 0 ≤ Xi T6 904 69 ∧ Xi T6 904 69 ≤ 2600 := hHT6.c _ _
            have w83 : Xi T6 904 71 = Xi T1 904 71 := (show Xi T6 904 71 = Xi T1 904 71 from w80.x _ _ rfl)
            have w84 : 0 ≤ Xi T1 904 71 ∧ Xi T1 904 71 ≤ 2600 := hHT1.c _ _
            have w85 : 0 ≤ Xi T6 904 8 ∧ Xi T6 904 8 ≤ 5010 := hHT6.c _ _
            refine l_callV rfl rfl rfl (t_mo_isMore hHT6 n c (by first | assumption | exact (TK_FR hFT6 rfl (by assumption : TK S _))) (by first | assumption | exact (by assumption : AT T6 _ _)) _) ?_
            rintro _ T7 ⟨hHT7, w91, z90, rfl, w90, w86, w87, w88, w89⟩
            have hFT7 : FR md_mo_list__2 S T7 := FR.tr hFT6 w91 rfl
            show Rl _ _ _ _ _ [iv z90] _ _
            have V39 : RNV T7 n := RNV_FR (by assumption : FR md_mo_isMore T6 T7) rfl (by assumption)
            have r39 : Xi T7 904 69 = Xi T6 904 69 := (by assumption : FR md_mo_isMore T6 T7).x 904 69 rfl
            have T39 : TK T7 n := TK_FR (by assumption : FR md_mo_isMore T6 T7) rfl (by first | exact T26 | exact T34)
            refine l_istore_n rfl rfl rfl ?_
            refine l_goto rfl rfl ?_
            have w92 : Xi T7 904 65 = Xi T6 904 65 := (show Xi T7 904 65 = Xi T6 904 65 from w91.x _ _ rfl)
            have w93 : 0 ≤ Xi T6 904 65 ∧ Xi T6 904 65 ≤ 1 := hHT6.c _ _
            have w94 : Xi T7 904 69 = Xi T6 904 69 := (show Xi T7 904 69 = Xi T6 904 69 from w91.x _ _ rfl)
            have w95 : 0 ≤ Xi T6 904 69 ∧ Xi T6 904 69 ≤ 2600 := hHT6.c _ _
            have w96 : Xi T7 904 71 = Xi T1 904 71 := (show Xi T7 904 71 = Xi T6 904 71 from w91.x _ _ rfl).trans ((show Xi T6 904 71 = Xi T1 904 71 from w80.x _ _ rfl))
            have w97 : 0 ≤ Xi T1 904 71 ∧ Xi T1 904 71 ≤ 2600 := hHT1.c _ _
            have w98 : 0 ≤ Xi T7 904 8 ∧ Xi T7 904 8 ≤ 5010 := hHT7.c _ _
            exact Rl_weak (ih10 _ (by omega) T7 hHT7 hFT7 (z90) (by omega) (by first | exact T39 | exact T5) (by first | assumption | exact A5) (by first | exact V39 | exact V5) (by omega) (by omega) (by omega) (by omega) (by omega) (by omega) rfl) (And.intro rfl (And.intro rfl (And.intro rfl (True.intro))))
  refine l_aload_n rfl rfl ?_
  refine l_aload_n rfl rfl ?_
  refine l_gfi rfl rfl rfl rfl rfl ?_
  refine l_pfi rfl rfl rfl rfl ?_
  obtain ⟨U8, eU8⟩ : ∃ T : sS, T = uI S 904 71 (Int32.ofInt (Xi S 904 69)) := ⟨_, rfl⟩
  rw [← eU8]
  have hHU8 : HI U8 := by rw [eU8]; exact HI_w hH (show 0 ≤ (Xi S 904 69) by omega) (show (Xi S 904 69) ≤ 2600 by omega)
  have hFU8 : FR md_mo_list__2 S U8 := by rw [eU8]; exact FR.wI hF (mdf_i (r := (904, 905, 71, 72)) (List.mem_of_getElem? (i := 4) rfl) (inR_i (by omega) (by omega) (by omega) (by omega)))
  have w99 : Xi U8 904 71 = (Xi S 904 69) := by rw [eU8]; exact Xi_same (by unfold rg; omega)
  have s5 : Xi U8 904 8 = Xi S 904 8 ∧ Xi U8 904 65 = Xi S 904 65 ∧ Xi U8 904 69 = Xi S 904 69 := ⟨by rw [eU8, Xi_ne (by omega)], by rw [eU8, Xi_ne (by omega)], by rw [eU8, Xi_ne (by omega)]⟩
  have T5 : TK U8 n := TK_FR (FR_e eU8) rfl hT
  have A5 : AT U8 n c := AT_FR (FR_e eU8) rfl hA
  have V5 : RNV U8 n := RNV_FR (FR_e eU8) rfl hv
  refine l_iconst rfl ?_
  refine l_istore_n rfl rfl rfl ?_
  have w100 : Xi U8 904 65 = Xi S 904 65 := (show Xi U8 904 65 = Xi S 904 65 from by rw [eU8]; exact Xi_ne (by omega))
  have w101 : 0 ≤ Xi S 904 65 ∧ Xi S 904 65 ≤ 1 := hH.c _ _
  have w102 : Xi U8 904 69 = Xi S 904 69 := (show Xi U8 904 69 = Xi S 904 69 from by rw [eU8]; exact Xi_ne (by omega))
  have w103 : 0 ≤ Xi S 904 69 ∧ Xi S 904 69 ≤ 2600 := hH.c _ _
  have w104 : 0 ≤ Xi U8 904 71 ∧ Xi U8 904 71 ≤ 2600 := hHU8.c _ _
  have w105 : Xi U8 904 8 = Xi S 904 8 := (show Xi U8 904 8 = Xi S 904 8 from by rw [eU8]; exact Xi_ne (by omega))
  have w106 : 0 ≤ Xi S 904 8 ∧ Xi S 904 8 ≤ 5010 := hH.c _ _
  exact Rl_weak (C10 _ U8 hHU8 hFU8 (1) (by omega) (by first | exact T39 | exact T5) (by first | assumption | exact A5) (by first | exact V39 | exact V5) (by omega) (by omega) (by omega) (by omega) (by omega) (by omega) rfl) (And.intro rfl (And.intro rfl (And.intro rfl (True.intro))))
def md_mo_thing : List rec := [(904, 905, 8, 9), (904, 905, 65, 66), (904, 905, 66, 67), (904, 905, 69, 70), (904, 905, 99, 100), (904, 905, 100, 101), (904, 905, 101, 102), (950, 951, 0, 100000), (951, 952, 0, 100000)]
abbrev Q_mo_thing (S : sS) (n : Nat) (c : Nat) : pst := fun r S1 => HI S1 ∧ FR md_mo_thing S S1 ∧ (r = none ∧ (AT S1 n c) ∧ (Xi S 904 8 ≤ Xi S1 904 8 ∧ (Xi S1 904 8 ≤ n ∨ Xi S1 904 8 = Xi S 904 8)) ∧ (RNV S1 n) ∧ (Xi S1 904 65 = 0 → Xi S 904 65 = 0) ∧ (Xi S 904 69 ≤ Xi S1 904 69) ∧ (Xi S1 904 65 = 0 → Xi S1 904 101 ≤ n ∧ (Xi S1 904 100 = 2 → Xi S1 904 99 < Xi S1 904 69)))
set_option maxRecDepth 100000 in
theorem t_mo_thing {S : sS} (hH : HI S) (n : Nat) (c : Nat) (hT : TK S n) (hA : AT S n c) (hv : RNV S n) (d : Nat) : Mt lay0 (d + 4) m_mo_thing [.ref 904] S (Q_mo_thing S n c) := by
  refine Mt_R rfl rfl ?_
  have hF : FR md_mo_thing S S := FR.rf
  have w1 : 0 ≤ Xi S 904 65 ∧ Xi S 904 65 ≤ 1 := hH.c _ _
  have w2 : 0 ≤ Xi S 904 69 ∧ Xi S 904 69 ≤ 2600 := hH.c _ _
  have w3 : 0 ≤ Xi S 904 8 ∧ Xi S 904 8 ≤ 5010 := hH.c _ _
  have hn5 := hT.1
  have hat := hA
  have h8 : 0 ≤ Xi S 904 8 ∧ Xi S 904 8 ≤ 5010 := hH.c _ _
  have h69 : 0 ≤ Xi S 904 69 ∧ Xi S 904 69 ≤ 2600 := hH.c _ _
  have ha0 : Xi S 904 65 = 0 → Xi S 904 8 ≤ n := fun q => (hA q).1
  have ha3 : Xi S 904 65 = 0 → 2 * Xi S 904 69 ≤ Xi S 904 8 + 1 := fun q => (hA q).2.1
  clear hat
  refine l_aload_n rfl rfl ?_
  refine l_aload_n rfl rfl ?_
  refine l_gfi rfl rfl rfl rfl rfl ?_
  refine l_pfi rfl rfl rfl rfl ?_
  obtain ⟨U1, eU1⟩ : ∃ T : sS, T = uI S 904 101 (Int32.ofInt (Xi S 904 8)) := ⟨_, rfl⟩
  rw [← eU1]
  have hHU1 : HI U1 := by rw [eU1]; exact HI_w hH (show 0 ≤ (Xi S 904 8) by omega) (show (Xi S 904 8) ≤ 5010 by omega)
  have hFU1 : FR md_mo_thing S U1 := by rw [eU1]; exact FR.wI hF (mdf_i (r := (904, 905, 101, 102)) (List.mem_of_getElem? (i := 6) rfl) (inR_i (by omega) (by omega) (by omega) (by omega)))
  have w4 : Xi U1 904 101 = (Xi S 904 8) := by rw [eU1]; exact Xi_same (by unfold rg; omega)
  refine l_aload_n rfl rfl ?_
  refine l_sipush rfl rfl ?_
  have w5 : Xi U1 904 100 = Xi S 904 100 := (show Xi U1 904 100 = Xi S 904 100 from by rw [eU1]; exact Xi_ne (by omega))
  have w6 : 0 ≤ Xi S 904 100 ∧ Xi S 904 100 ≤ 2 := hH.c _ _
  have w7 : 0 ≤ Xi U1 904 101 ∧ Xi U1 904 101 ≤ 5010 := hHU1.c _ _
  have w8 : Xi U1 904 65 = Xi S 904 65 := (show Xi U1 904 65 = Xi S 904 65 from by rw [eU1]; exact Xi_ne (by omega))
  have w9 : 0 ≤ Xi S 904 65 ∧ Xi S 904 65 ≤ 1 := hH.c _ _
  have w10 : Xi U1 904 69 = Xi S 904 69 := (show Xi U1 904 69 = Xi S 904 69 from by rw [eU1]; exact Xi_ne (by omega))
  have w11 : 0 ≤ Xi S 904 69 ∧ Xi S 904 69 ≤ 2600 := hH.c _ _
  have w12 : Xi U1 904 8 = Xi S 904 8 := (show Xi U1 904 8 = Xi S 904 8 from by rw [eU1]; exact Xi_ne (by omega))
  have w13 : 0 ≤ Xi S 904 8 ∧ Xi S 904 8 ≤ 5010 := hH.c _ _
  have w14 : Xi U1 904 93 = Xi S 904 93 := (show Xi U1 904 93 = Xi S 904 93 from by rw [eU1]; exact Xi_ne (by omega))
  have w15 : 0 ≤ Xi S 904 93 ∧ Xi S 904 93 ≤ 1700 := hH.c _ _
  have w16 : Xi U1 904 99 = Xi S 904 99 := (show Xi U1 904 99 = Xi S 904 99 from by rw [eU1]; exact Xi_ne (by omega))
  have w17 : 0 ≤ Xi S 904 99 ∧ Xi S 904 99 ≤ 2600 := hH.c _ _
  refine l_callV rfl rfl rfl (t_mo_isNext hHU1 n c 154 ⟨by omega, by omega⟩ (by first | assumption | exact (TK_FR hFU1 rfl (by assumption : TK S _))) (by first | assumption | exact (AT_FR (FR_e eU1) rfl (by assumption : AT S _ _))) _) ?_
  rintro _ _ ⟨rfl, z20, rfl, w20, w18, w19⟩
  show Rl _ _ _ _ _ [iv z20] _ _
  have i12 : z20 = 1 → Xi S 904 65 = 0 ∧ Xi S 907 (Xi S 904 8).toNat = 154 := fun q => by have t := (by assumption : z20 = 1 → Xi U1 904 65 = 0 ∧ Xi U1 907 (Xi U1 904 8).toNat = 154) q; rw [show Xi U1 904 8 = Xi S 904 8 by omega, (hFU1.cx 907 rfl _).1] at t; exact ⟨by omega, t.2⟩
  refine l_if_eq rfl rfl (by unfold rg; omega) (fun w21 => ?_) (fun w22 => ?_)
  · refine l_aload_n rfl rfl ?_
    refine l_sipush rfl rfl ?_
    have w23 : Xi U1 904 100 = Xi S 904 100 := (show Xi U1 904 100 = Xi S 904 100 from by rw [eU1]; exact Xi_ne (by omega))
    have w24 : 0 ≤ Xi S 904 100 ∧ Xi S 904 100 ≤ 2 := hH.c _ _
    have w25 : 0 ≤ Xi U1 904 101 ∧ Xi U1 904 101 ≤ 5010 := hHU1.c _ _
    have w26 : Xi U1 904 65 = Xi S 904 65 := (show Xi U1 904 65 = Xi S 904 65 from by rw [eU1]; exact Xi_ne (by omega))
    have w27 : 0 ≤ Xi S 904 65 ∧ Xi S 904 65 ≤ 1 := hH.c _ _
    have w28 : Xi U1 904 69 = Xi S 904 69 := (show Xi U1 904 69 = Xi S 904 69 from by rw [eU1]; exact Xi_ne (by omega))
    have w29 : 0 ≤ Xi S 904 69 ∧ Xi S 904 69 ≤ 2600 := hH.c _ _
    have w30 : Xi U1 904 8 = Xi S 904 8 := (show Xi U1 904 8 = Xi S 904 8 from by rw [eU1]; exact Xi_ne (by omega))
    have w31 : 0 ≤ Xi S 904 8 ∧ Xi S 904 8 ≤ 5010 := hH.c _ _
    have w32 : Xi U1 904 93 = Xi S 904 93 := (show Xi U1 904 93 = Xi S 904 93 from by rw [eU1]; exact Xi_ne (by omega))
    have w33 : 0 ≤ Xi S 904 93 ∧ Xi S 904 93 ≤ 1700 := hH.c _ _
    have w34 : Xi U1 904 99 = Xi S 904 99 := (show Xi U1 904 99 = Xi S 904 99 from by rw [eU1]; exact Xi_ne (by omega))
    have w35 : 0 ≤ Xi S 904 99 ∧ Xi S 904 99 ≤ 2600 := hH.c _ _
    refine l_callV rfl rfl rfl (t_mo_isNext hHU1 n c 153 ⟨by omega, by omega⟩ (by first | assumption | exact (TK_FR hFU1 rfl (by assumption : TK S _))) (by first | assumption | exact (AT_FR (FR_e eU1) rfl (by assumption : AT S _ _))) _) ?_
    rintro _ _ ⟨rfl, z38, rfl, w38, w36, w37⟩
    show Rl _ _ _ _ _ [iv z38] _ _
    have i40 : z38 = 1 → Xi S 904 65 = 0 ∧ Xi S 907 (Xi S 904 8).toNat = 153 := fun q => by have t := (by assumption : z38 = 1 → Xi U1 904 65 = 0 ∧ Xi U1 907 (Xi U1 904 8).toNat = 153) q; rw [show Xi U1 904 8 = Xi S 904 8 by omega, (hFU1.cx 907 rfl _).1] at t; exact ⟨by omega, t.2⟩
    refine l_if_ne rfl rfl (by unfold rg; omega) (fun w39 => ?_) (fun w40 => ?_)
    · refine l_aload_n rfl rfl ?_
      refine l_iconst rfl ?_
      refine l_pfi rfl rfl rfl rfl ?_
      obtain ⟨U2, eU2⟩ : ∃ T : sS, T = uI U1 904 100 (Int32.ofInt 1) := ⟨_, rfl⟩
      rw [← eU2]
      have hHU2 : HI U2 := by rw [eU2]; exact HI_w hHU1 (show 0 ≤ 1 by omega) (show 1 ≤ 2 by omega)
      have hFU2 : FR md_mo_thing S U2 := by rw [eU2]; exact FR.wI hFU1 (mdf_i (r := (904, 905, 100, 101)) (List.mem_of_getElem? (i := 5) rfl) (inR_i (by omega) (by omega) (by omega) (by omega)))
      have w41 : Xi U2 904 100 = 1 := by rw [eU2]; exact Xi_same (by unfold rg; omega)
      refine l_aload_n rfl rfl ?_
      refine l_dup rfl rfl ?_
      refine l_gfi rfl rfl rfl rfl rfl ?_
      have w42 : (Xi U2 904 8) = (Xi S 904 8) := (show Xi U2 904 8 = Xi U1 904 8 from by rw [eU2]; exact Xi_ne (by omega)).trans ((show Xi U1 904 8 = Xi S 904 8 from by rw [eU1]; exact Xi_ne (by omega)))
      rw [w42]
      refine l_aload_n rfl rfl ?_
      refine l_gfr rfl rfl rfl rfl rfl (hHU2.r 904 4 907 rfl) ?_
      refine l_aload_n rfl rfl ?_
      refine l_gfi rfl rfl rfl rfl rfl ?_
      have w43 : (Xi U2 904 8) = (Xi S 904 8) := (show Xi U2 904 8 = Xi U1 904 8 from by rw [eU2]; exact Xi_ne (by omega)).trans ((show Xi U1 904 8 = Xi S 904 8 from by rw [eU1]; exact Xi_ne (by omega)))
      rw [w43]
      refine l_iaload (n := 5002) rfl rfl (by omega) (by omega) (by unfold rg; omega) ?_
      have w44 : 0 ≤ (Xi U2 907 (((Xi S 904 8)).toNat)) ∧ (Xi U2 907 (((Xi S 904 8)).toNat)) ≤ 154 := hHU2.c _ _
      have e90 : (Xi U2 907 (((Xi S 904 8)).toNat)) = Xi S 907 (Xi S 904 8).toNat := by first | rfl | exact (hFU2.cx 907 rfl _).1 | (rw [(hFU2.cx 907 rfl _).1, show Xi U2 904 8 = Xi S 904 8 by omega])
      refine l_bipush rfl rfl ?_
      refine l_icmp_ne rfl rfl (by unfold rg; omega) (by unfold rg; omega) (fun w45 => ?_) (fun w46 => ?_)
      · refine l_iconst rfl ?_
        refine l_iadd rfl ?_
        refine l_pfi rfl rfl rfl rfl ?_
        obtain ⟨U3, eU3⟩ : ∃ T : sS, T = uI U2 904 8 (Int32.ofInt ((Xi S 904 8) + 1)) := ⟨_, rfl⟩
        rw [← eU3]
        have hHU3 : HI U3 := by rw [eU3]; exact HI_w hHU2 (show 0 ≤ ((Xi S 904 8) + 1) by omega) (show ((Xi S 904 8) + 1) ≤ 5010 by omega)
        have hFU3 : FR md_mo_thing S U3 := by rw [eU3]; exact FR.wI hFU2 (mdf_i (r := (904, 905, 8, 9)) (List.mem_of_getElem? (i := 0) rfl) (inR_i (by omega) (by omega) (by omega) (by omega)))
        have w47 : Xi U3 904 8 = ((Xi S 904 8) + 1) := by rw [eU3]; exact Xi_same (by unfold rg; omega)
        have t102 : AT U3 n c ∧ Xi S 904 8 < Xi U3 904 8 ∧ Xi U3 904 8 ≤ n := by first | (have t := at_mv hT hA (fun j => (hFU2.cx 907 rfl j).1) (fun j => (hFU2.cx 908 rfl j).1) (by omega) (by omega) (by omega) (by omega) eU3 (by omega) (by omega) (by omega) (by omega) (Or.inl rfl); exact ⟨t.1, by omega, by omega⟩) | (have t := at_mv2 hT hA (fun j => (hFU2.cx 907 rfl j).1) (fun j => (hFU2.cx 908 rfl j).1) (by omega) (by omega) (by omega) (by omega) eU3 (by omega) (by omega) (by omega) (by omega) (by omega); exact ⟨t.1, by omega, by omega⟩)
        refine l_goto rfl rfl ?_
        refine l_return rfl rfl ?_
        have w48 : Xi U3 904 100 = Xi U2 904 100 := (show Xi U3 904 100 = Xi U2 904 100 from by rw [eU3]; exact Xi_ne (by omega))
        have w49 : 0 ≤ Xi U2 904 100 ∧ Xi U2 904 100 ≤ 2 := hHU2.c _ _
        have w50 : Xi U3 904 101 = Xi U1 904 101 := (show Xi U3 904 101 = Xi U2 904 101 from by rw [eU3]; exact Xi_ne (by omega)).trans ((show Xi U2 904 101 = Xi U1 904 101 from by rw [eU2]; exact Xi_ne (by omega)))
        have w51 : 0 ≤ Xi U1 904 101 ∧ Xi U1 904 101 ≤ 5010 := hHU1.c _ _
        have w52 : Xi U3 904 65 = Xi S 904 65 := (show Xi U3 904 65 = Xi U2 904 65 from by rw [eU3]; exact Xi_ne (by omega)).trans ( (show Xi U2 904 65 = Xi U1 904 65 from by rw [eU2]; exact Xi_ne (by omega)).trans ((show Xi U1 904 65 = Xi S 904 65 from by rw [eU1]; exact Xi_ne (by omega))))
        have w53 : 0 ≤ Xi S 904 65 ∧ Xi S 904 65 ≤ 1 := hH.c _ _
        have w54 : Xi U3 904 69 = Xi S 904 69 := (show Xi U3 904 69 = Xi U2 904 69 from by rw [eU3]; exact Xi_ne (by omega)).trans ( (show Xi U2 904 69 = Xi U1 904 69 from by rw [eU2]; exact Xi_ne (by omega)).trans ((show Xi U1 904 69 = Xi S 904 69 from by rw [eU1]; exact Xi_ne (by omega))))
        have w55 : 0 ≤ Xi S 904 69 ∧ Xi S 904 69 ≤ 2600 := hH.c _ _
        have w56 : 0 ≤ Xi U3 904 8 ∧ Xi U3 904 8 ≤ 5010 := hHU3.c _ _
        have w57 : Xi U3 904 93 = Xi S 904 93 := (show Xi U3 904 93 = Xi U2 904 93 from by rw [eU3]; exact Xi_ne (by omega)).trans ( (show Xi U2 904 93 = Xi U1 904 93 from by rw [eU2]; exact Xi_ne (by omega)).trans ((show Xi U1 904 93 = Xi S 904 93 from by rw [eU1]; exact Xi_ne (by omega))))
        have w58 : 0 ≤ Xi S 904 93 ∧ Xi S 904 93 ≤ 1700 := hH.c _ _
        have w59 : Xi U3 904 99 = Xi S 904 99 := (show Xi U3 904 99 = Xi U2 904 99 from by rw [eU3]; exact Xi_ne (by omega)).trans ( (show Xi U2 904 99 = Xi U1 904 99 from by rw [eU2]; exact Xi_ne (by omega)).trans ((show Xi U1 904 99 = Xi S 904 99 from by rw [eU1]; exact Xi_ne (by omega))))
        have w60 : 0 ≤ Xi S 904 99 ∧ Xi S 904 99 ≤ 2600 := hH.c _ _
        exact ⟨hHU3, hFU3, rfl, (by first | exact t30.1 | exact t102.1 | assumption), (by omega), (by first | assumption | exact (RNV_FR (FR_e eU3) rfl (RNV_FR (FR_e eU2) rfl (RNV_FR (FR_e eU1) rfl (by assumption : RNV S _))))), (by omega), (by omega), (by omega)⟩
      · refine l_iconst rfl ?_
        refine l_goto rfl rfl ?_
        refine l_iadd rfl ?_
        refine l_pfi rfl rfl rfl rfl ?_
        obtain ⟨U4, eU4⟩ : ∃ T : sS, T = uI U2 904 8 (Int32.ofInt ((Xi S 904 8) + 2)) := ⟨_, rfl⟩
        rw [← eU4]
        have hHU4 : HI U4 := by rw [eU4]; exact HI_w hHU2 (show 0 ≤ ((Xi S 904 8) + 2) by omega) (show ((Xi S 904 8) + 2) ≤ 5010 by omega)
        have hFU4 : FR md_mo_thing S U4 := by rw [eU4]; exact FR.wI hFU2 (mdf_i (r := (904, 905, 8, 9)) (List.mem_of_getElem? (i := 0) rfl) (inR_i (by omega) (by omega) (by omega) (by omega)))
        have w61 : Xi U4 904 8 = ((Xi S 904 8) + 2) := by rw [eU4]; exact Xi_same (by unfold rg; omega)
        have t102 : AT U4 n c ∧ Xi S 904 8 < Xi U4 904 8 ∧ Xi U4 904 8 ≤ n := by first | (have t := at_mv hT hA (fun j => (hFU2.cx 907 rfl j).1) (fun j => (hFU2.cx 908 rfl j).1) (by omega) (by omega) (by omega) (by omega) eU4 (by omega) (by omega) (by omega) (by omega) (Or.inl rfl); exact ⟨t.1, by omega, by omega⟩) | (have t := at_mv2 hT hA (fun j => (hFU2.cx 907 rfl j).1) (fun j => (hFU2.cx 908 rfl j).1) (by omega) (by omega) (by omega) (by omega) eU4 (by omega) (by omega) (by omega) (by omega) (by omega); exact ⟨t.1, by omega, by omega⟩)
        refine l_goto rfl rfl ?_
        refine l_return rfl rfl ?_
        have w62 : Xi U4 904 100 = Xi U2 904 100 := (show Xi U4 904 100 = Xi U2 904 100 from by rw [eU4]; exact Xi_ne (by omega))
        have w63 : 0 ≤ Xi U2 904 100 ∧ Xi U2 904 100 ≤ 2 := hHU2.c _ _
        have w64 : Xi U4 904 101 = Xi U1 904 101 := (show Xi U4 904 101 = Xi U2 904 101 from by rw [eU4]; exact Xi_ne (by omega)).trans ((show Xi U2 904 101 = Xi U1 904 101 from by rw [eU2]; exact Xi_ne (by omega)))
        have w65 : 0 ≤ Xi U1 904 101 ∧ Xi U1 904 101 ≤ 5010 := hHU1.c _ _
        have w66 : Xi U4 904 65 = Xi S 904 65 := (show Xi U4 904 65 = Xi U2 904 65 from by rw [eU4]; exact Xi_ne (by omega)).trans ( (show Xi U2 904 65 = Xi U1 904 65 from by rw [eU2]; exact Xi_ne (by omega)).trans ((show Xi U1 904 65 = Xi S 904 65 from by rw [eU1]; exact Xi_ne (by omega))))
        have w67 : 0 ≤ Xi S 904 65 ∧ Xi S 904 65 ≤ 1 := hH.c _ _
        have w68 : Xi U4 904 69 = Xi S 904 69 := (show Xi U4 904 69 = Xi U2 904 69 from by rw [eU4]; exact Xi_ne (by omega)).trans ( (show Xi U2 904 69 = Xi U1 904 69 from by rw [eU2]; exact Xi_ne (by omega)).trans ((show Xi U1 904 69 = Xi S 904 69 from by rw [eU1]; exact Xi_ne (by omega))))
        have w69 : 0 ≤ Xi S 904 69 ∧ Xi S 904 69 ≤ 2600 := hH.c _ _
        have w70 : 0 ≤ Xi U4 904 8 ∧ Xi U4 904 8 ≤ 5010 := hHU4.c _ _
        have w71 : Xi U4 904 93 = Xi S 904 93 := (show Xi U4 904 93 = Xi U2 904 93 from by rw [eU4]; exact Xi_ne (by omega)).trans ( (show Xi U2 904 93 = Xi U1 904 93 from by rw [eU2]; exact Xi_ne (by omega)).trans ((show Xi U1 904 93 = Xi S 904 93 from by rw [eU1]; exact Xi_ne (by omega))))
        have w72 : 0 ≤ Xi S 904 93 ∧ Xi S 904 93 ≤ 1700 := hH.c _ _
        have w73 : Xi U4 904 99 = Xi S 904 99 := (show Xi U4 904 99 = Xi U2 904 99 from by rw [eU4]; exact Xi_ne (by omega)).trans ( (show Xi U2 904 99 = Xi U1 904 99 from by rw [eU2]; exact Xi_ne (by omega)).trans ((show Xi U1 904 99 = Xi S 904 99 from by rw [eU1]; exact Xi_ne (by omega))))
        have w74 : 0 ≤ Xi S 904 99 ∧ Xi S 904 99 ≤ 2600 := hH.c _ _
        exact ⟨hHU4, hFU4, rfl, (by first | exact t30.1 | exact t102.1 | assumption), (by omega), (by first | assumption | exact (RNV_FR (FR_e eU4) rfl (RNV_FR (FR_e eU2) rfl (RNV_FR (FR_e eU1) rfl (by assumption : RNV S _))))), (by omega), (by omega), (by omega)⟩
    · refine l_aload_n rfl rfl ?_
      refine l_bipush rfl rfl ?_
      have w75 : Xi U1 904 100 = Xi S 904 100 := (show Xi U1 904 100 = Xi S 904 100 from by rw [eU1]; exact Xi_ne (by omega))
      have w76 : 0 ≤ Xi S 904 100 ∧ Xi S 904 100 ≤ 2 := hH.c _ _
      have w77 : 0 ≤ Xi U1 904 101 ∧ Xi U1 904 101 ≤ 5010 := hHU1.c _ _
      have w78 : Xi U1 904 65 = Xi S 904 65 := (show Xi U1 904 65 = Xi S 904 65 from by rw [eU1]; exact Xi_ne (by omega))
      have w79 : 0 ≤ Xi S 904 65 ∧ Xi S 904 65 ≤ 1 := hH.c _ _
      have w80 : Xi U1 904 69 = Xi S 904 69 := (show Xi U1 904 69 = Xi S 904 69 from by rw [eU1]; exact Xi_ne (by omega))
      have w81 : 0 ≤ Xi S 904 69 ∧ Xi S 904 69 ≤ 2600 := hH.c _ _
      have w82 : Xi U1 904 8 = Xi S 904 8 := (show Xi U1 904 8 = Xi S 904 8 from by rw [eU1]; exact Xi_ne (by omega))
      have w83 : 0 ≤ Xi S 904 8 ∧ Xi S 904 8 ≤ 5010 := hH.c _ _
      have w84 : Xi U1 904 93 = Xi S 904 93 := (show Xi U1 904 93 = Xi S 904 93 from by rw [eU1]; exact Xi_ne (by omega))
      have w85 : 0 ≤ Xi S 904 93 ∧ Xi S 904 93 ≤ 1700 := hH.c _ _
      have w86 : Xi U1 904 99 = Xi S 904 99 := (show Xi U1 904 99 = Xi S 904 99 from by rw [eU1]; exact Xi_ne (by omega))
      have w87 : 0 ≤ Xi S 904 99 ∧ Xi S 904 99 ≤ 2600 := hH.c _ _
      refine l_callV rfl rfl rfl (t_mo_isNext hHU1 n c 102 ⟨by omega, by omega⟩ (by first | assumption | exact (TK_FR hFU1 rfl (by assumption : TK S _))) (by first | assumption | exact (AT_FR (FR_e eU1) rfl (by assumption : AT S _ _))) _) ?_
      rintro _ _ ⟨rfl, z90, rfl, w90, w88, w89⟩
      show Rl _ _ _ _ _ [iv z90] _ _
      have i49 : z90 = 1 → Xi S 904 65 = 0 ∧ Xi S 907 (Xi S 904 8).toNat = 102 := fun q => by have t := (by assumption : z90 = 1 → Xi U1 904 65 = 0 ∧ Xi U1 907 (Xi U1 904 8).toNat = 102) q; rw [show Xi U1 904 8 = Xi S 904 8 by omega, (hFU1.cx 907 rfl _).1] at t; exact ⟨by omega, t.2⟩
      refine l_if_eq rfl rfl (by unfold rg; omega) (fun w91 => ?_) (fun w92 => ?_)
      · refine l_aload_n rfl rfl ?_
        refine l_iconst rfl ?_
        refine l_pfi rfl rfl rfl rfl ?_
        obtain ⟨U5, eU5⟩ : ∃ T : sS, T = uI U1 904 100 (Int32.ofInt 2) := ⟨_, rfl⟩
        rw [← eU5]
        have hHU5 : HI U5 := by rw [eU5]; exact HI_w hHU1 (show 0 ≤ 2 by omega) (show 2 ≤ 2 by omega)
        have hFU5 : FR md_mo_thing S U5 := by rw [eU5]; exact FR.wI hFU1 (mdf_i (r := (904, 905, 100, 101)) (List.mem_of_getElem? (i := 5) rfl) (inR_i (by omega) (by omega) (by omega) (by omega)))
        have w93 : Xi U5 904 100 = 2 := by rw [eU5]; exact Xi_same (by unfold rg; omega)
        refine l_aload_n rfl rfl ?_
        refine l_aload_n rfl rfl ?_
        have w94 : 0 ≤ Xi U5 904 100 ∧ Xi U5 904 100 ≤ 2 := hHU5.c _ _
        have w95 : Xi U5 904 101 = Xi U1 904 101 := (show Xi U5 904 101 = Xi U1 904 101 from by rw [eU5]; exact Xi_ne (by omega))
        have w96 : 0 ≤ Xi U1 904 101 ∧ Xi U1 904 101 ≤ 5010 := hHU1.c _ _
        have w97 : Xi U5 904 65 = Xi S 904 65 := (show Xi U5 904 65 = Xi U1 904 65 from by rw [eU5]; exact Xi_ne (by omega)).trans ((show Xi U1 904 65 = Xi S 904 65 from by rw [eU1]; exact Xi_ne (by omega)))
        have w98 : 0 ≤ Xi S 904 65 ∧ Xi S 904 65 ≤ 1 := hH.c _ _
        have w99 : Xi U5 904 69 = Xi S 904 69 := (show Xi U5 904 69 = Xi U1 904 69 from by rw [eU5]; exact Xi_ne (by omega)).trans ((show Xi U1 904 69 = Xi S 904 69 from by rw [eU1]; exact Xi_ne (by omega)))
        have w100 : 0 ≤ Xi S 904 69 ∧ Xi S 904 69 ≤ 2600 := hH.c _ _
        have w101 : Xi U5 904 8 = Xi S 904 8 := (show Xi U5 904 8 = Xi U1 904 8 from by rw [eU5]; exact Xi_ne (by omega)).trans ((show Xi U1 904 8 = Xi S 904 8 from by rw [eU1]; exact Xi_ne (by omega)))
        have w102 : 0 ≤ Xi S 904 8 ∧ Xi S 904 8 ≤ 5010 := hH.c _ _
        have w103 : Xi U5 904 93 = Xi S 904 93 := (show Xi U5 904 93 = Xi U1 904 93 from by rw [eU5]; exact Xi_ne (by omega)).trans ((show Xi U1 904 93 = Xi S 904 93 from by rw [eU1]; exact Xi_ne (by omega)))
        have w104 : 0 ≤ Xi S 904 93 ∧ Xi S 904 93 ≤ 1700 := hH.c _ _
        have w105 : Xi U5 904 99 = Xi S 904 99 := (show Xi U5 904 99 = Xi U1 904 99 from by rw [eU5]; exact Xi_ne (by omega)).trans ((show Xi U1 904 99 = Xi S 904 99 from by rw [eU1]; exact Xi_ne (by omega)))
        have w106 : 0 ≤ Xi S 904 99 ∧ Xi S 904 99 ≤ 2600 := hH.c _ _
        refine l_callV rfl rfl rfl (t_mo_name hHU5 n c (by first | assumption | exact (TK_FR hFU5 rfl (by assumption : TK S _))) (by first | assumption | exact (AT_FR (FR_e eU5) rfl (AT_FR (FR_e eU1) rfl (by assumption : AT S _ _)))) (by first | assumption | exact (RNV_FR (FR_e eU5) rfl (RNV_FR (FR_e eU1) rfl (by assumption : RNV S _)))) _) ?_
        rintro _ T6 ⟨hHT6, w113, z112, rfl, w112, w107, w108, w109, w110, w111⟩
        have hFT6 : FR md_mo_thing S T6 := FR.tr hFU5 w113 rfl
        show Rl _ _ _ _ _ [iv z112, .ref 904] _ _
        have q115 : Xi T6 904 65 = 0 → Xi T6 950 (z112).toNat ≤ n := fun q => by have t := (by assumption : RNV T6 n) (z112).toNat (by omega); omega
        refine l_pfi rfl rfl rfl rfl ?_
        obtain ⟨U7, eU7⟩ : ∃ T : sS, T = uI T6 904 99 (Int32.ofInt z112) := ⟨_, rfl⟩
        rw [← eU7]
        have hHU7 : HI U7 := by rw [eU7]; exact HI_w hHT6 (show 0 ≤ z112 by omega) (show z112 ≤ 2600 by omega)
        have hFU7 : FR md_mo_thing S U7 := by rw [eU7]; exact FR.wI hFT6 (mdf_i (r := (904, 905, 99, 100)) (List.mem_of_getElem? (i := 4) rfl) (inR_i (by omega) (by omega) (by omega) (by omega)))
        have w114 : Xi U7 904 99 = z112 := by rw [eU7]; exact Xi_same (by unfold rg; omega)
        have x118 : Xi U7 904 65 = Xi T6 904 65 := by rw [eU7, Xi_ne (by omega)]
        have q118 : Xi U7 904 65 = 0 → Xi U7 950 (Xi U7 904 99).toNat ≤ n := fun q => by rw [x118] at q; rw [eU7, Xi_ne (by omega), Xi_same (by unfold rg; omega)]; exact q115 q
        refine l_aload_n rfl rfl ?_
        refine l_aload_n rfl rfl ?_
        refine l_gfi rfl rfl rfl rfl rfl ?_
        have w115 : 0 ≤ (Xi U7 904 65) ∧ (Xi U7 904 65) ≤ 1 := hHU7.c _ _
        refine l_if_eq rfl rfl (by unfold rg; omega) (fun w116 => ?_) (fun w117 => ?_)
        · refine l_aload_n rfl rfl ?_
          refine l_gfr rfl rfl rfl rfl rfl (hHU7.r 904 67 950 rfl) ?_
          refine l_aload_n rfl rfl ?_
          refine l_gfi rfl rfl rfl rfl rfl ?_
          refine l_iaload (n := 2600) rfl rfl (by omega) (by omega) (by unfold rg; omega) ?_
          have w118 : 0 ≤ (Xi U7 950 (((Xi U7 904 99)).toNat)) ∧ (Xi U7 950 (((Xi U7 904 99)).toNat)) ≤ 5010 := hHU7.c _ _
          refine l_pfi rfl rfl rfl rfl ?_
          obtain ⟨U8, eU8⟩ : ∃ T : sS, T = uI U7 904 101 (Int32.ofInt (Xi U7 950 (((Xi U7 904 99)).toNat))) := ⟨_, rfl⟩
          rw [← eU8]
          have hHU8 : HI U8 := by rw [eU8]; exact HI_w hHU7 (show 0 ≤ (Xi U7 950 (((Xi U7 904 99)).toNat)) by omega) (show (Xi U7 950 (((Xi U7 904 99)).toNat)) ≤ 5010 by omega)
          have hFU8 : FR md_mo_thing S U8 := by rw [eU8]; exact FR.wI hFU7 (mdf_i (r := (904, 905, 101, 102)) (List.mem_of_getElem? (i := 6) rfl) (inR_i (by omega) (by omega) (by omega) (by omega)))
          have w119 : Xi U8 904 101 = (Xi U7 950 (((Xi U7 904 99)).toNat)) := by rw [eU8]; exact Xi_same (by unfold rg; omega)
          refine l_return rfl rfl ?_
          have w120 : Xi U8 904 100 = Xi U5 904 100 := (show Xi U8 904 100 = Xi U7 904 100 from by rw [eU8]; exact Xi_ne (by omega)).trans ( (show Xi U7 904 100 = Xi T6 904 100 from by rw [eU7]; exact Xi_ne (by omega)).trans ((show Xi T6 904 100 = Xi U5 904 100 from w113.x _ _ rfl)))
          have w121 : 0 ≤ Xi U5 904 100 ∧ Xi U5 904 100 ≤ 2 := hHU5.c _ _
          have w122 : 0 ≤ Xi U8 904 101 ∧ Xi U8 904 101 ≤ 5010 := hHU8.c _ _
          have w123 : Xi U8 904 65 = Xi T6 904 65 := (show Xi U8 904 65 = Xi U7 904 65 from by rw [eU8]; exact Xi_ne (by omega)).trans ((show Xi U7 904 65 = Xi T6 904 65 from by rw [eU7]; exact Xi_ne (by omega)))
          have w124 : 0 ≤ Xi T6 904 65 ∧ Xi T6 904 65 ≤ 1 := hHT6.c _ _
          have w125 : Xi U8 904 69 = Xi T6 904 69 := (show Xi U8 904 69 = Xi U7 904 69 from by rw [eU8]; exact Xi_ne (by omega)).trans ((show Xi U7 904 69 = Xi T6 904 69 from by rw [eU7]; exact Xi_ne (by omega)))
          have w126 : 0 ≤ Xi T6 904 69 ∧ Xi T6 904 69 ≤ 2600 := hHT6.c _ _
          have w127 : Xi U8 904 8 = Xi T6 904 8 := (show Xi U8 904 8 = Xi U7 904 8 from by rw [eU8]; exact Xi_ne (by omega)).trans ((show Xi U7 904 8 = Xi T6 904 8 from by rw [eU7]; exact Xi_ne (by omega)))
          have w128 : 0 ≤ Xi T6 904 8 ∧ Xi T6 904 8 ≤ 5010 := hHT6.c _ _
          have w129 : Xi U8 904 93 = Xi S 904 93 := (show Xi U8 904 93 = Xi U7 904 93 from by rw [eU8]; exact Xi_ne (by omega)).trans ( (show Xi U7 904 93 = Xi T6 904 93 from by rw [eU7]; exact Xi_ne (by omega)).trans ( (show Xi T6 904 93 = Xi U5 904 93 from w113.x _ _ rfl).trans ( (show Xi U5 904 93 = Xi U1 904 93 from by rw [eU5]; exact Xi_ne (by omega)).trans ((show Xi U1 904 93 = Xi S 904 93 from by rw [eU1]; exact Xi_ne (by omega))))))
          have w130 : 0 ≤ Xi S 904 93 ∧ Xi S 904 93 ≤ 1700 := hH.c _ _
          have w131 : Xi U8 904 99 = Xi U7 904 99 := (show Xi U8 904 99 = Xi U7 904 99 from by rw [eU8]; exact Xi_ne (by omega))
          have w132 : 0 ≤ Xi U7 904 99 ∧ Xi U7 904 99 ≤ 2600 := hHU7.c _ _
          exact ⟨hHU8, hFU8, rfl, (by first | exact t30.1 | exact t102.1 | assumption), (by omega), (by first | assumption | exact (RNV_FR (FR_e eU8) rfl (RNV_FR (FR_e eU7) rfl (by assumption : RNV T6 _)))), (by omega), (by omega), (by omega)⟩
        · refine l_aload_n rfl rfl ?_
          refine l_gfi rfl rfl rfl rfl rfl ?_
          have w133 : 0 ≤ (Xi U7 904 8) ∧ (Xi U7 904 8) ≤ 5010 := hHU7.c _ _
          refine l_goto rfl rfl ?_
          refine l_pfi rfl rfl rfl rfl ?_
          obtain ⟨U9, eU9⟩ : ∃ T : sS, T = uI U7 904 101 (Int32.ofInt (Xi U7 904 8)) := ⟨_, rfl⟩
          rw [← eU9]
          have hHU9 : HI U9 := by rw [eU9]; exact HI_w hHU7 (show 0 ≤ (Xi U7 904 8) by omega) (show (Xi U7 904 8) ≤ 5010 by omega)
          have hFU9 : FR md_mo_thing S U9 := by rw [eU9]; exact FR.wI hFU7 (mdf_i (r := (904, 905, 101, 102)) (List.mem_of_getElem? (i := 6) rfl) (inR_i (by omega) (by omega) (by omega) (by omega)))
          have w134 : Xi U9 904 101 = (Xi U7 904 8) := by rw [eU9]; exact Xi_same (by unfold rg; omega)
          refine l_return rfl rfl ?_
          have w135 : Xi U9 904 100 = Xi U5 904 100 := (show Xi U9 904 100 = Xi U7 904 100 from by rw [eU9]; exact Xi_ne (by omega)).trans ( (show Xi U7 904 100 = Xi T6 904 100 from by rw [eU7]; exact Xi_ne (by omega)).trans ((show Xi T6 904 100 = Xi U5 904 100 from w113.x _ _ rfl)))
          have w136 : 0 ≤ Xi U5 904 100 ∧ Xi U5 904 100 ≤ 2 := hHU5.c _ _
          have w137 : 0 ≤ Xi U9 904 101 ∧ Xi U9 904 101 ≤ 5010 := hHU9.c _ _
          have w138 : Xi U9 904 65 = Xi T6 904 65 := (show Xi U9 904 65 = Xi U7 904 65 from by rw [eU9]; exact Xi_ne (by omega)).trans ((show Xi U7 904 65 = Xi T6 904 65 from by rw [eU7]; exact Xi_ne (by omega)))
          have w139 : 0 ≤ Xi T6 904 65 ∧ Xi T6 904 65 ≤ 1 := hHT6.c _ _
          have w140 : Xi U9 904 69 = Xi T6 904 69 := (show Xi U9 904 69 = Xi U7 904 69 from by rw [eU9]; exact Xi_ne (by omega)).trans ((show Xi U7 904 69 = Xi T6 904 69 from by rw [eU7]; exact Xi_ne (by omega)))
          have w141 : 0 ≤ Xi T6 904 69 ∧ Xi T6 904 69 ≤ 2600 := hHT6.c _ _
          have w142 : Xi U9 904 8 = Xi T6 904 8 := (show Xi U9 904 8 = Xi U7 904 8 from by rw [eU9]; exact Xi_ne (by omega)).trans ((show Xi U7 904 8 = Xi T6 904 8 from by rw [eU7]; exact Xi_ne (by omega)))
          have w143 : 0 ≤ Xi T6 904 8 ∧ Xi T6 904 8 ≤ 5010 := hHT6.c _ _
          have w144 : Xi U9 904 93 = Xi S 904 93 := (show Xi U9 904 93 = Xi U7 904 93 from by rw [eU9]; exact Xi_ne (by omega)).trans ( (show Xi U7 904 93 = Xi T6 904 93 from by rw [eU7]; exact Xi_ne (by omega)).trans ( (show Xi T6 904 93 = Xi U5 904 93 from w113.x _ _ rfl).trans ( (show Xi U5 904 93 = Xi U1 904 93 from by rw [eU5]; exact Xi_ne (by omega)).trans ((show Xi U1 904 93 = Xi S 904 93 from by rw [eU1]; exact Xi_ne (by omega))))))
          have w145 : 0 ≤ Xi S 904 93 ∧ Xi S 904 93 ≤ 1700 := hH.c _ _
          have w146 : Xi U9 904 99 = Xi U7 904 99 := (show Xi U9 904 99 = Xi U7 904 99 from by rw [eU9]; exact Xi_ne (by omega))
          have w147 : 0 ≤ Xi U7 904 99 ∧ Xi U7 904 99 ≤ 2600 := hHU7.c _ _
          exact ⟨hHU9, hFU9, rfl, (by first | exact t30.1 | exact t102.1 | assumption), (by omega), (by first | assumption | exact (RNV_FR (FR_e eU9) rfl (RNV_FR (FR_e eU7) rfl (by assumption : RNV T6 _)))), (by omega), (by omega), (by omega)⟩
      · refine l_aload_n rfl rfl ?_
        refine l_gfr rfl rfl rfl rfl rfl (hHU1.r 904 4 907 rfl) ?_
        refine l_aload_n rfl rfl ?_
        refine l_gfi rfl rfl rfl rfl rfl ?_
        have w148 : (Xi U1 904 8) = (Xi S 904 8) := (show Xi U1 904 8 = Xi S 904 8 from by rw [eU1]; exact Xi_ne (by omega))
        rw [w148]
        refine l_iconst rfl ?_
        refine l_iadd rfl ?_
        refine l_iaload (n := 5002) rfl rfl (by omega) (by omega) (by unfold rg; omega) ?_
        have w149 : 0 ≤ (Xi U1 907 ((((Xi S 904 8) + 1)).toNat)) ∧ (Xi U1 907 ((((Xi S 904 8) + 1)).toNat)) ≤ 154 := hHU1.c _ _
        have e65 : (Xi U1 907 ((((Xi S 904 8) + 1)).toNat)) = Xi S 907 (Xi S 904 8 + 1).toNat := by first | rfl | exact (hFU1.cx 907 rfl _).1 | (rw [(hFU1.cx 907 rfl _).1, show Xi U1 904 8 = Xi S 904 8 by omega])
        refine l_sipush rfl rfl ?_
        refine l_icmp_ne rfl rfl (by unfold rg; omega) (by unfold rg; omega) (fun w150 => ?_) (fun w151 => ?_)
        · refine l_aload_n rfl rfl ?_
          refine l_iconst rfl ?_
          refine l_pfi rfl rfl rfl rfl ?_
          obtain ⟨U10, eU10⟩ : ∃ T : sS, T = uI U1 904 100 (Int32.ofInt 2) := ⟨_, rfl⟩
          rw [← eU10]
          have hHU10 : HI U10 := by rw [eU10]; exact HI_w hHU1 (show 0 ≤ 2 by omega) (show 2 ≤ 2 by omega)
          have hFU10 : FR md_mo_thing S U10 := by rw [eU10]; exact FR.wI hFU1 (mdf_i (r := (904, 905, 100, 101)) (List.mem_of_getElem? (i := 5) rfl) (inR_i (by omega) (by omega) (by omega) (by omega)))
          have w152 : Xi U10 904 100 = 2 := by rw [eU10]; exact Xi_same (by unfold rg; omega)
          refine l_aload_n rfl rfl ?_
          refine l_aload_n rfl rfl ?_
          have w153 : 0 ≤ Xi U10 904 100 ∧ Xi U10 904 100 ≤ 2 := hHU10.c _ _
          have w154 : Xi U10 904 101 = Xi U1 904 101 := (show Xi U10 904 101 = Xi U1 904 101 from by rw [eU10]; exact Xi_ne (by omega))
          have w155 : 0 ≤ Xi U1 904 101 ∧ Xi U1 904 101 ≤ 5010 := hHU1.c _ _
          have w156 : Xi U10 904 65 = Xi S 904 65 := (show Xi U10 904 65 = Xi U1 904 65 from by rw [eU10]; exact Xi_ne (by omega)).trans ((show Xi U1 904 65 = Xi S 904 65 from by rw [eU1]; exact Xi_ne (by omega)))
          have w157 : 0 ≤ Xi S 904 65 ∧ Xi S 904 65 ≤ 1 := hH.c _ _
          have w158 : Xi U10 904 69 = Xi S 904 69 := (show Xi U10 904 69 = Xi U1 904 69 from by rw [eU10]; exact Xi_ne (by omega)).trans ((show Xi U1 904 69 = Xi S 904 69 from by rw [eU1]; exact Xi_ne (by omega)))
          have w159 : 0 ≤ Xi S 904 69 ∧ Xi S 904 69 ≤ 2600 := hH.c _ _
          have w160 : Xi U10 904 8 = Xi S 904 8 := (show Xi U10 904 8 = Xi U1 904 8 from by rw [eU10]; exact Xi_ne (by omega)).trans ((show Xi U1 904 8 = Xi S 904 8 from by rw [eU1]; exact Xi_ne (by omega)))
          have w161 : 0 ≤ Xi S 904 8 ∧ Xi S 904 8 ≤ 5010 := hH.c _ _
          have w162 : Xi U10 904 93 = Xi S 904 93 := (show Xi U10 904 93 = Xi U1 904 93 from by rw [eU10]; exact Xi_ne (by omega)).trans ((show Xi U1 904 93 = Xi S 904 93 from by rw [eU1]; exact Xi_ne (by omega)))
          have w163 : 0 ≤ Xi S 904 93 ∧ Xi S 904 93 ≤ 1700 := hH.c _ _
          have w164 : Xi U10 904 99 = Xi S 904 99 := (show Xi U10 904 99 = Xi U1 904 99 from by rw [eU10]; exact Xi_ne (by omega)).trans ((show Xi U1 904 99 = Xi S 904 99 from by rw [eU1]; exact Xi_ne (by omega)))
          have w165 : 0 ≤ Xi S 904 99 ∧ Xi S 904 99 ≤ 2600 := hH.c _ _
          refine l_callV rfl rfl rfl (t_mo_name hHU10 n c (by first | assumption | exact (TK_FR hFU10 rfl (by assumption : TK S _))) (by first | assumption | exact (AT_FR (FR_e eU10) rfl (AT_FR (FR_e eU1) rfl (by assumption : AT S _ _)))) (by first | assumption | exact (RNV_FR (FR_e eU10) rfl (RNV_FR (FR_e eU1) rfl (by assumption : RNV S _)))) _) ?_
          rintro _ T11 ⟨hHT11, w172, z171, rfl, w171, w166, w167, w168, w169, w170⟩
          have hFT11 : FR md_mo_thing S T11 := FR.tr hFU10 w172 rfl
          show Rl _ _ _ _ _ [iv z171, .ref 904] _ _
          have q115 : Xi T11 904 65 = 0 → Xi T11 950 (z171).toNat ≤ n := fun q => by have t := (by assumption : RNV T11 n) (z171).toNat (by omega); omega
          refine l_pfi rfl rfl rfl rfl ?_
          obtain ⟨U12, eU12⟩ : ∃ T : sS, T = uI T11 904 99 (Int32.ofInt z171) := ⟨_, rfl⟩
          rw [← eU12]
          have hHU12 : HI U12 := by rw [eU12]; exact HI_w hHT11 (show 0 ≤ z171 by omega) (show z171 ≤ 2600 by omega)
          have hFU12 : FR md_mo_thing S U12 := by rw [eU12]; exact FR.wI hFT11 (mdf_i (r := (904, 905, 99, 100)) (List.mem_of_getElem? (i := 4) rfl) (inR_i (by omega) (by omega) (by omega) (by omega)))
          have w173 : Xi U12 904 99 = z171 := by rw [eU12]; exact Xi_same (by unfold rg; omega)
          have x118 : Xi U12 904 65 = Xi T11 904 65 := by rw [eU12, Xi_ne (by omega)]
          have q118 : Xi U12 904 65 = 0 → Xi U12 950 (Xi U12 904 99).toNat ≤ n := fun q => by rw [x118] at q; rw [eU12, Xi_ne (by omega), Xi_same (by unfold rg; omega)]; exact q115 q
          refine l_aload_n rfl rfl ?_
          refine l_aload_n rfl rfl ?_
          refine l_gfi rfl rfl rfl rfl rfl ?_
          have w174 : 0 ≤ (Xi U12 904 65) ∧ (Xi U12 904 65) ≤ 1 := hHU12.c _ _
          refine l_if_eq rfl rfl (by unfold rg; omega) (fun w175 => ?_) (fun w176 => ?_)
          · refine l_aload_n rfl rfl ?_
            refine l_gfr rfl rfl rfl rfl rfl (hHU12.r 904 67 950 rfl) ?_
            refine l_aload_n rfl rfl ?_
            refine l_gfi rfl rfl rfl rfl rfl ?_
            refine l_iaload (n := 2600) rfl rfl (by omega) (by omega) (by unfold rg; omega) ?_
            have w177 : 0 ≤ (Xi U12 950 (((Xi U12 904 99)).toNat)) ∧ (Xi U12 950 (((Xi U12 904 99)).toNat)) ≤ 5010 := hHU12.c _ _
            refine l_pfi rfl rfl rfl rfl ?_
            obtain ⟨U13, eU13⟩ : ∃ T : sS, T = uI U12 904 101 (Int32.ofInt (Xi U12 950 (((Xi U12 904 99)).toNat))) := ⟨_, rfl⟩
            rw [← eU13]
            have hHU13 : HI U13 := by rw [eU13]; exact HI_w hHU12 (show 0 ≤ (Xi U12 950 (((Xi U12 904 99)).toNat)) by omega) (show (Xi U12 950 (((Xi U12 904 99)).toNat)) ≤ 5010 by omega)
            have hFU13 : FR md_mo_thing S U13 := by rw [eU13]; exact FR.wI hFU12 (mdf_i (r := (904, 905, 101, 102)) (List.mem_of_getElem? (i := 6) rfl) (inR_i (by omega) (by omega) (by omega) (by omega)))
            have w178 : Xi U13 904 101 = (Xi U12 950 (((Xi U12 904 99)).toNat)) := by rw [eU13]; exact Xi_same (by unfold rg; omega)
            refine l_return rfl rfl ?_
            have w179 : Xi U13 904 100 = Xi U10 904 100 := (show Xi U13 904 100 = Xi U12 904 100 from by rw [eU13]; exact Xi_ne (by omega)).trans ( (show Xi U12 904 100 = Xi T11 904 100 from by rw [eU12]; exact Xi_ne (by omega)).trans ((show Xi T11 904 100 = Xi U10 904 100 from w172.x _ _ rfl)))
            have w180 : 0 ≤ Xi U10 904 100 ∧ Xi U10 904 100 ≤ 2 := hHU10.c _ _
            have w181 : 0 ≤ Xi U13 904 101 ∧ Xi U13 904 101 ≤ 5010 := hHU13.c _ _
            have w182 : Xi U13 904 65 = Xi T11 904 65 := (show Xi U13 904 65 = Xi U12 904 65 from by rw [eU13]; exact Xi_ne (by omega)).trans ((show Xi U12 904 65 = Xi T11 904 65 from by rw [eU12]; exact Xi_ne (by omega)))
            have w183 : 0 ≤ Xi T11 904 65 ∧ Xi T11 904 65 ≤ 1 := hHT11.c _ _
            have w184 : Xi U13 904 69 = Xi T11 904 69 := (show Xi U13 904 69 = Xi U12 904 69 from by rw [eU13]; exact Xi_ne (by omega)).trans ((show Xi U12 904 69 = Xi T11 904 69 from by rw [eU12]; exact Xi_ne (by omega)))
            have w185 : 0 ≤ Xi T11 904 69 ∧ Xi T11 904 69 ≤ 2600 := hHT11.c _ _
            have w186 : Xi U13 904 8 = Xi T11 904 8 := (show Xi U13 904 8 = Xi U12 904 8 from by rw [eU13]; exact Xi_ne (by omega)).trans ((show Xi U12 904 8 = Xi T11 904 8 from by rw [eU12]; exact Xi_ne (by omega)))
            have w187 : 0 ≤ Xi T11 904 8 ∧ Xi T11 904 8 ≤ 5010 := hHT11.c _ _
            have w188 : Xi U13 904 93 = Xi S 904 93 := (show Xi U13 904 93 = Xi U12 904 93 from by rw [eU13]; exact Xi_ne (by omega)).trans ( (show Xi U12 904 93 = Xi T11 904 93 from by rw [eU12]; exact Xi_ne (by omega)).trans ( (show Xi T11 904 93 = Xi U10 904 93 from w172.x _ _ rfl).trans ( (show Xi U10 904 93 = Xi U1 904 93 from by rw [eU10]; exact Xi_ne (by omega)).trans ((show Xi U1 904 93 = Xi S 904 93 from by rw [eU1]; exact Xi_ne (by omega))))))
            have w189 : 0 ≤ Xi S 904 93 ∧ Xi S 904 93 ≤ 1700 := hH.c _ _
            have w190 : Xi U13 904 99 = Xi U12 904 99 := (show Xi U13 904 99 = Xi U12 904 99 from by rw [eU13]; exact Xi_ne (by omega))
            have w191 : 0 ≤ Xi U12 904 99 ∧ Xi U12 904 99 ≤ 2600 := hHU12.c _ _
            exact ⟨hHU13, hFU13, rfl, (by first | exact t30.1 | exact t102.1 | assumption), (by omega), (by first | assumption | exact (RNV_FR (FR_e eU13) rfl (RNV_FR (FR_e eU12) rfl (by assumption : RNV T11 _)))), (by omega), (by omega), (by omega)⟩
          · refine l_aload_n rfl rfl ?_
            refine l_gfi rfl rfl rfl rfl rfl ?_
            have w192 : 0 ≤ (Xi U12 904 8) ∧ (Xi U12 904 8) ≤ 5010 := hHU12.c _ _
            refine l_goto rfl rfl ?_
            refine l_pfi rfl rfl rfl rfl ?_
            obtain ⟨U14, eU14⟩ : ∃ T : sS, T = uI U12 904 101 (Int32.ofInt (Xi U12 904 8)) := ⟨_, rfl⟩
            rw [← eU14]
            have hHU14 : HI U14 := by rw [eU14]; exact HI_w hHU12 (show 0 ≤ (Xi U12 904 8) by omega) (show (Xi U12 904 8) ≤ 5010 by omega)
            have hFU14 : FR md_mo_thing S U14 := by rw [eU14]; exact FR.wI hFU12 (mdf_i (r := (904, 905, 101, 102)) (List.mem_of_getElem? (i := 6) rfl) (inR_i (by omega) (by omega) (by omega) (by omega)))
            have w193 : Xi U14 904 101 = (Xi U12 904 8) := by rw [eU14]; exact Xi_same (by unfold rg; omega)
            refine l_return rfl rfl ?_
            have w194 : Xi U14 904 100 = Xi U10 904 100 := (show Xi U14 904 100 = Xi U12 904 100 from by rw [eU14]; exact Xi_ne (by omega)).trans ( (show Xi U12 904 100 = Xi T11 904 100 from by rw [eU12]; exact Xi_ne (by omega)).trans ((show Xi T11 904 100 = Xi U10 904 100 from w172.x _ _ rfl)))
            have w195 : 0 ≤ Xi U10 904 100 ∧ Xi U10 904 100 ≤ 2 := hHU10.c _ _
            have w196 : 0 ≤ Xi U14 904 101 ∧ Xi U14 904 101 ≤ 5010 := hHU14.c _ _
            have w197 : Xi U14 904 65 = Xi T11 904 65 := (show Xi U14 904 65 = Xi U12 904 65 from by rw [eU14]; exact Xi_ne (by omega)).trans ((show Xi U12 904 65 = Xi T11 904 65 from by rw [eU12]; exact Xi_ne (by omega)))
            have w198 : 0 ≤ Xi T11 904 65 ∧ Xi T11 904 65 ≤ 1 := hHT11.c _ _
            have w199 : Xi U14 904 69 = Xi T11 904 69 := (show Xi U14 904 69 = Xi U12 904 69 from by rw [eU14]; exact Xi_ne (by omega)).trans ((show Xi U12 904 69 = Xi T11 904 69 from by rw [eU12]; exact Xi_ne (by omega)))
            have w200 : 0 ≤ Xi T11 904 69 ∧ Xi T11 904 69 ≤ 2600 := hHT11.c _ _
            have w201 : Xi U14 904 8 = Xi T11 904 8 := (show Xi U14 904 8 = Xi U12 904 8 from by rw [eU14]; exact Xi_ne (by omega)).trans ((show Xi U12 904 8 = Xi T11 904 8 from by rw [eU12]; exact Xi_ne (by omega)))
            have w202 : 0 ≤ Xi T11 904 8 ∧ Xi T11 904 8 ≤ 5010 := hHT11.c _ _
            have w203 : Xi U14 904 93 = Xi S 904 93 := (show Xi U14 904 93 = Xi U12 904 93 from by rw [eU14]; exact Xi_ne (by omega)).trans ( (show Xi U12 904 93 = Xi T11 904 93 from by rw [eU12]; exact Xi_ne (by omega)).trans ( (show Xi T11 904 93 = Xi U10 904 93 from w172.x _ _ rfl).trans ( (show Xi U10 904 93 = Xi U1 904 93 from by rw [eU10]; exact Xi_ne (by omega)).trans ((show Xi U1 904 93 = Xi S 904 93 from by rw [eU1]; exact Xi_ne (by omega))))))
            have w204 : 0 ≤ Xi S 904 93 ∧ Xi S 904 93 ≤ 1700 := hH.c _ _
            have w205 : Xi U14 904 99 = Xi U12 904 99 := (show Xi U14 904 99 = Xi U12 904 99 from by rw [eU14]; exact Xi_ne (by omega))
            have w206 : 0 ≤ Xi U12 904 99 ∧ Xi U12 904 99 ≤ 2600 := hHU12.c _ _
            exact ⟨hHU14, hFU14, rfl, (by first | exact t30.1 | exact t102.1 | assumption), (by omega), (by first | assumption | exact (RNV_FR (FR_e eU14) rfl (RNV_FR (FR_e eU12) rfl (by assumption : RNV T11 _)))), (by omega), (by omega), (by omega)⟩
        · refine l_aload_n rfl rfl ?_
          refine l_iconst rfl ?_
          refine l_pfi rfl rfl rfl rfl ?_
          obtain ⟨U15, eU15⟩ : ∃ T : sS, T = uI U1 904 100 (Int32.ofInt 1) := ⟨_, rfl⟩
          rw [← eU15]
          have hHU15 : HI U15 := by rw [eU15]; exact HI_w hHU1 (show 0 ≤ 1 by omega) (show 1 ≤ 2 by omega)
          have hFU15 : FR md_mo_thing S U15 := by rw [eU15]; exact FR.wI hFU1 (mdf_i (r := (904, 905, 100, 101)) (List.mem_of_getElem? (i := 5) rfl) (inR_i (by omega) (by omega) (by omega) (by omega)))
          have w207 : Xi U15 904 100 = 1 := by rw [eU15]; exact Xi_same (by unfold rg; omega)
          refine l_aload_n rfl rfl ?_
          refine l_dup rfl rfl ?_
          refine l_gfi rfl rfl rfl rfl rfl ?_
          have w208 : (Xi U15 904 8) = (Xi S 904 8) := (show Xi U15 904 8 = Xi U1 904 8 from by rw [eU15]; exact Xi_ne (by omega)).trans ((show Xi U1 904 8 = Xi S 904 8 from by rw [eU1]; exact Xi_ne (by omega)))
          rw [w208]
          refine l_aload_n rfl rfl ?_
          refine l_gfr rfl rfl rfl rfl rfl (hHU15.r 904 4 907 rfl) ?_
          refine l_aload_n rfl rfl ?_
          refine l_gfi rfl rfl rfl rfl rfl ?_
          have w209 : (Xi U15 904 8) = (Xi S 904 8) := (show Xi U15 904 8 = Xi U1 904 8 from by rw [eU15]; exact Xi_ne (by omega)).trans ((show Xi U1 904 8 = Xi S 904 8 from by rw [eU1]; exact Xi_ne (by omega)))
          rw [w209]
          refine l_iaload (n := 5002) rfl rfl (by omega) (by omega) (by unfold rg; omega) ?_
          have w210 : 0 ≤ (Xi U15 907 (((Xi S 904 8)).toNat)) ∧ (Xi U15 907 (((Xi S 904 8)).toNat)) ≤ 154 := hHU15.c _ _
          have e90 : (Xi U15 907 (((Xi S 904 8)).toNat)) = Xi S 907 (Xi S 904 8).toNat := by first | rfl | exact (hFU15.cx 907 rfl _).1 | (rw [(hFU15.cx 907 rfl _).1, show Xi U15 904 8 = Xi S 904 8 by omega])
          refine l_bipush rfl rfl ?_
          refine l_icmp_ne rfl rfl (by unfold rg; omega) (by unfold rg; omega) (fun w211 => ?_) (fun w212 => ?_)
          · refine l_iconst rfl ?_
            refine l_iadd rfl ?_
            refine l_pfi rfl rfl rfl rfl ?_
            obtain ⟨U16, eU16⟩ : ∃ T : sS, T = uI U15 904 8 (Int32.ofInt ((Xi S 904 8) + 1)) := ⟨_, rfl⟩
            rw [← eU16]
            have hHU16 : HI U16 := by rw [eU16]; exact HI_w hHU15 (show 0 ≤ ((Xi S 904 8) + 1) by omega) (show ((Xi S 904 8) + 1) ≤ 5010 by omega)
            have hFU16 : FR md_mo_thing S U16 := by rw [eU16]; exact FR.wI hFU15 (mdf_i (r := (904, 905, 8, 9)) (List.mem_of_getElem? (i := 0) rfl) (inR_i (by omega) (by omega) (by omega) (by omega)))
            have w213 : Xi U16 904 8 = ((Xi S 904 8) + 1) := by rw [eU16]; exact Xi_same (by unfold rg; omega)
            have t102 : AT U16 n c ∧ Xi S 904 8 < Xi U16 904 8 ∧ Xi U16 904 8 ≤ n := by first | (have t := at_mv hT hA (fun j => (hFU15.cx 907 rfl j).1) (fun j => (hFU15.cx 908 rfl j).1) (by omega) (by omega) (by omega) (by omega) eU16 (by omega) (by omega) (by omega) (by omega) (Or.inl rfl); exact ⟨t.1, by omega, by omega⟩) | (have t := at_mv2 hT hA (fun j => (hFU15.cx 907 rfl j).1) (fun j => (hFU15.cx 908 rfl j).1) (by omega) (by omega) (by omega) (by omega) eU16 (by omega) (by omega) (by omega) (by omega) (by omega); exact ⟨t.1, by omega, by omega⟩)
            refine l_goto rfl rfl ?_
            refine l_return rfl rfl ?_
            have w214 : Xi U16 904 100 = Xi U15 904 100 := (show Xi U16 904 100 = Xi U15 904 100 from by rw [eU16]; exact Xi_ne (by omega))
            have w215 : 0 ≤ Xi U15 904 100 ∧ Xi U15 904 100 ≤ 2 := hHU15.c _ _
            have w216 : Xi U16 904 101 = Xi U1 904 101 := (show Xi U16 904 101 = Xi U15 904 101 from by rw [eU16]; exact Xi_ne (by omega)).trans ((show Xi U15 904 101 = Xi U1 904 101 from by rw [eU15]; exact Xi_ne (by omega)))
            have w217 : 0 ≤ Xi U1 904 101 ∧ Xi U1 904 101 ≤ 5010 := hHU1.c _ _
            have w218 : Xi U16 904 65 = Xi S 904 65 := (show Xi U16 904 65 = Xi U15 904 65 from by rw [eU16]; exact Xi_ne (by omega)).trans ( (show Xi U15 904 65 = Xi U1 904 65 from by rw [eU15]; exact Xi_ne (by omega)).trans ((show Xi U1 904 65 = Xi S 904 65 from by rw [eU1]; exact Xi_ne (by omega))))
            have w219 : 0 ≤ Xi S 904 65 ∧ Xi S 904 65 ≤ 1 := hH.c _ _
            have w220 : Xi U16 904 69 = Xi S 904 69 := (show Xi U16 904 69 = Xi U15 904 69 from by rw [eU16]; exact Xi_ne (by omega)).trans ( (show Xi U15 904 69 = Xi U1 904 69 from by rw [eU15]; exact Xi_ne (by omega)).trans ((show Xi U1 904 69 = Xi S 904 69 from by rw [eU1]; exact Xi_ne (by omega))))
            have w221 : 0 ≤ Xi S 904 69 ∧ Xi S 904 69 ≤ 2600 := hH.c _ _
            have w222 : 0 ≤ Xi U16 904 8 ∧ Xi U16 904 8 ≤ 5010 := hHU16.c _ _
            have w223 : Xi U16 904 93 = Xi S 904 93 := (show Xi U16 904 93 = Xi U15 904 93 from by rw [eU16]; exact Xi_ne (by omega)).trans ( (show Xi U15 904 93 = Xi U1 904 93 from by rw [eU15]; exact Xi_ne (by omega)).trans ((show Xi U1 904 93 = Xi S 904 93 from by rw [eU1]; exact Xi_ne (by omega))))
            have w224 : 0 ≤ Xi S 904 93 ∧ Xi S 904 93 ≤ 1700 := hH.c _ _
            have w225 : Xi U16 904 99 = Xi S 904 99 := (show Xi U16 904 99 = Xi U15 904 99 from by rw [eU16]; exact Xi_ne (by omega)).trans ( (show Xi U15 904 99 = Xi U1 904 99 from by rw [eU15]; exact Xi_ne (by omega)).trans ((show Xi U1 904 99 = Xi S 904 99 from by rw [eU1]; exact Xi_ne (by omega))))
            have w226 : 0 ≤ Xi S 904 99 ∧ Xi S 904 99 ≤ 2600 := hH.c _ _
            exact ⟨hHU16, hFU16, rfl, (by first | exact t30.1 | exact t102.1 | assumption), (by omega), (by first | assumption | exact (RNV_FR (FR_e eU16) rfl (RNV_FR (FR_e eU15) rfl (RNV_FR (FR_e eU1) rfl (by assumption : RNV S _))))), (by omega), (by omega), (by omega)⟩
          · refine l_iconst rfl ?_
            refine l_goto rfl rfl ?_
            refine l_iadd rfl ?_
            refine l_pfi rfl rfl rfl rfl ?_
            obtain ⟨U17, eU17⟩ : ∃ T : sS, T = uI U15 904 8 (Int32.ofInt ((Xi S 904 8) + 2)) := ⟨_, rfl⟩
            rw [← eU17]
            have hHU17 : HI U17 := by rw [eU17]; exact HI_w hHU15 (show 0 ≤ ((Xi S 904 8) + 2) by omega) (show ((Xi S 904 8) + 2) ≤ 5010 by omega)
            have hFU17 : FR md_mo_thing S U17 := by rw [eU17]; exact FR.wI hFU15 (mdf_i (r := (904, 905, 8, 9)) (List.mem_of_getElem? (i := 0) rfl) (inR_i (by omega) (by omega) (by omega) (by omega)))
            have w227 : Xi U17 904 8 = ((Xi S 904 8) + 2) := by rw [eU17]; exact Xi_same (by unfold rg; omega)
            have t102 : AT U17 n c ∧ Xi S 904 8 < Xi U17 904 8 ∧ Xi U17 904 8 ≤ n := by first | (have t := at_mv hT hA (fun j => (hFU15.cx 907 rfl j).1) (fun j => (hFU15.cx 908 rfl j).1) (by omega) (by omega) (by omega) (by omega) eU17 (by omega) (by omega) (by omega) (by omega) (Or.inl rfl); exact ⟨t.1, by omega, by omega⟩) | (have t := at_mv2 hT hA (fun j => (hFU15.cx 907 rfl j).1) (fun j => (hFU15.cx 908 rfl j).1) (by omega) (by omega) (by omega) (by omega) eU17 (by omega) (by omega) (by omega) (by omega) (by omega); exact ⟨t.1, by omega, by omega⟩)
            refine l_goto rfl rfl ?_
            refine l_return rfl rfl ?_
            have w228 : Xi U17 904 100 = Xi U15 904 100 := (show Xi U17 904 100 = Xi U15 904 100 from by rw [eU17]; exact Xi_ne (by omega))
            have w229 : 0 ≤ Xi U15 904 100 ∧ Xi U15 904 100 ≤ 2 := hHU15.c _ _
            have w230 : Xi U17 904 101 = Xi U1 904 101 := (show Xi U17 904 101 = Xi U15 904 101 from by rw [eU17]; exact Xi_ne (by omega)).trans ((show Xi U15 904 101 = Xi U1 904 101 from by rw [eU15]; exact Xi_ne (by omega)))
            have w231 : 0 ≤ Xi U1 904 101 ∧ Xi U1 904 101 ≤ 5010 := hHU1.c _ _
            have w232 : Xi U17 904 65 = Xi S 904 65 := (show Xi U17 904 65 = Xi U15 904 65 from by rw [eU17]; exact Xi_ne (by omega)).trans ( (show Xi U15 904 65 = Xi U1 904 65 from by rw [eU15]; exact Xi_ne (by omega)).trans ((show Xi U1 904 65 = Xi S 904 65 from by rw [eU1]; exact Xi_ne (by omega))))
            have w233 : 0 ≤ Xi S 904 65 ∧ Xi S 904 65 ≤ 1 := hH.c _ _
            have w234 : Xi U17 904 69 = Xi S 904 69 := (show Xi U17 904 69 = Xi U15 904 69 from by rw [eU17]; exact Xi_ne (by omega)).trans ( (show Xi U15 904 69 = Xi U1 904 69 from by rw [eU15]; exact Xi_ne (by omega)).trans ((show Xi U1 904 69 = Xi S 904 69 from by rw [eU1]; exact Xi_ne (by omega))))
            have w235 : 0 ≤ Xi S 904 69 ∧ Xi S 904 69 ≤ 2600 := hH.c _ _
            have w236 : 0 ≤ Xi U17 904 8 ∧ Xi U17 904 8 ≤ 5010 := hHU17.c _ _
            have w237 : Xi U17 904 93 = Xi S 904 93 := (show Xi U17 904 93 = Xi U15 904 93 from by rw [eU17]; exact Xi_ne (by omega)).trans ( (show Xi U15 904 93 = Xi U1 904 93 from by rw [eU15]; exact Xi_ne (by omega)).trans ((show Xi U1 904 93 = Xi S 904 93 from by rw [eU1]; exact Xi_ne (by omega))))
            have w238 : 0 ≤ Xi S 904 93 ∧ Xi S 904 93 ≤ 1700 := hH.c _ _
            have w239 : Xi U17 904 99 = Xi S 904 99 := (show Xi U17 904 99 = Xi U15 904 99 from by rw [eU17]; exact Xi_ne (by omega)).trans ( (show Xi U15 904 99 = Xi U1 904 99 from by rw [eU15]; exact Xi_ne (by omega)).trans ((show Xi U1 904 99 = Xi S 904 99 from by rw [eU1]; exact Xi_ne (by omega))))
            have w240 : 0 ≤ Xi S 904 99 ∧ Xi S 904 99 ≤ 2600 := hH.c _ _
            exact ⟨hHU17, hFU17, rfl, (by first | exact t30.1 | exact t102.1 | assumption), (by omega), (by first | assumption | exact (RNV_FR (FR_e eU17) rfl (RNV_FR (FR_e eU15) rfl (RNV_FR (FR_e eU1) rfl (by assumption : RNV S _))))), (by omega), (by omega), (by omega)⟩
  · refine l_aload_n rfl rfl ?_
    refine l_iconst rfl ?_
    refine l_pfi rfl rfl rfl rfl ?_
    obtain ⟨U18, eU18⟩ : ∃ T : sS, T = uI U1 904 100 (Int32.ofInt 0) := ⟨_, rfl⟩
    rw [← eU18]
    have hHU18 : HI U18 := by rw [eU18]; exact HI_w hHU1 (show 0 ≤ 0 by omega) (show 0 ≤ 2 by omega)
    have hFU18 : FR md_mo_thing S U18 := by rw [eU18]; exact FR.wI hFU1 (mdf_i (r := (904, 905, 100, 101)) (List.mem_of_getElem? (i := 5) rfl) (inR_i (by omega) (by omega) (by omega) (by omega)))
    have w241 : Xi U18 904 100 = 0 := by rw [eU18]; exact Xi_same (by unfold rg; omega)
    refine l_aload_n rfl rfl ?_
    refine l_dup rfl rfl ?_
    refine l_gfi rfl rfl rfl rfl rfl ?_
    have w242 : (Xi U18 904 8) = (Xi S 904 8) := (show Xi U18 904 8 = Xi U1 904 8 from by rw [eU18]; exact Xi_ne (by omega)).trans ((show Xi U1 904 8 = Xi S 904 8 from by rw [eU1]; exact Xi_ne (by omega)))
    rw [w242]
    refine l_iconst rfl ?_
    refine l_iadd rfl ?_
    refine l_pfi rfl rfl rfl rfl ?_
    obtain ⟨U19, eU19⟩ : ∃ T : sS, T = uI U18 904 8 (Int32.ofInt ((Xi S 904 8) + 1)) := ⟨_, rfl⟩
    rw [← eU19]
    have hHU19 : HI U19 := by rw [eU19]; exact HI_w hHU18 (show 0 ≤ ((Xi S 904 8) + 1) by omega) (show ((Xi S 904 8) + 1) ≤ 5010 by omega)
    have hFU19 : FR md_mo_thing S U19 := by rw [eU19]; exact FR.wI hFU18 (mdf_i (r := (904, 905, 8, 9)) (List.mem_of_getElem? (i := 0) rfl) (inR_i (by omega) (by omega) (by omega) (by omega)))
    have w243 : Xi U19 904 8 = ((Xi S 904 8) + 1) := by rw [eU19]; exact Xi_same (by unfold rg; omega)
    have t30 : AT U19 n c ∧ _ := at_mv hT hA (fun j => (hFU18.cx 907 rfl j).1) (fun j => (hFU18.cx 908 rfl j).1) (by omega) (by omega) (by omega) (by omega) eU19 (by omega) (by omega) (by omega) (by omega) (Or.inl rfl)
    refine l_goto rfl rfl ?_
    refine l_return rfl rfl ?_
    have w244 : Xi U19 904 100 = Xi U18 904 100 := (show Xi U19 904 100 = Xi U18 904 100 from by rw [eU19]; exact Xi_ne (by omega))
    have w245 : 0 ≤ Xi U18 904 100 ∧ Xi U18 904 100 ≤ 2 := hHU18.c _ _
    have w246 : Xi U19 904 101 = Xi U1 904 101 := (show Xi U19 904 101 = Xi U18 904 101 from by rw [eU19]; exact Xi_ne (by omega)).trans ((show Xi U18 904 101 = Xi U1 904 101 from by rw [eU18]; exact Xi_ne (by omega)))
    have w247 : 0 ≤ Xi U1 904 101 ∧ Xi U1 904 101 ≤ 5010 := hHU1.c _ _
    have w248 : Xi U19 904 65 = Xi S 904 65 := (show Xi U19 904 65 = Xi U18 904 65 from by rw [eU19]; exact Xi_ne (by omega)).trans ( (show Xi U18 904 65 = Xi U1 904 65 from by rw [eU18]; exact Xi_ne (by omega)).trans ((show Xi U1 904 65 = Xi S 904 65 from by rw [eU1]; exact Xi_ne (by omega))))
    have w249 : 0 ≤ Xi S 904 65 ∧ Xi S 904 65 ≤ 1 := hH.c _ _
    have w250 : Xi U19 904 69 = Xi S 904 69 := (show Xi U19 904 69 = Xi U18 904 69 from by rw [eU19]; exact Xi_ne (by omega)).trans ( (show Xi U18 904 69 = Xi U1 904 69 from by rw [eU18]; exact Xi_ne (by omega)).trans ((show Xi U1 904 69 = Xi S 904 69 from by rw [eU1]; exact Xi_ne (by omega))))
    have w251 : 0 ≤ Xi S 904 69 ∧ Xi S 904 69 ≤ 2600 := hH.c _ _
    have w252 : 0 ≤ Xi U19 904 8 ∧ Xi U19 904 8 ≤ 5010 := hHU19.c _ _
    have w253 : Xi U19 904 93 = Xi S 904 93 := (show Xi U19 904 93 = Xi U18 904 93 from by rw [eU19]; exact Xi_ne (by omega)).trans ( (show Xi U18 904 93 = Xi U1 904 93 from by rw [eU18]; exact Xi_ne (by omega)).trans ((show Xi U1 904 93 = Xi S 904 93 from by rw [eU1]; exact Xi_ne (by omega))))
    have w254 : 0 ≤ Xi S 904 93 ∧ Xi S 904 93 ≤ 1700 := hH.c _ _
    have w255 : Xi U19 904 99 = Xi S 904 99 := (show Xi U19 904 99 = Xi U18 904 99 from by rw [eU19]; exact Xi_ne (by omega)).trans ( (show Xi U18 904 99 = Xi U1 904 99 from by rw [eU18]; exact Xi_ne (by omega)).trans ((show Xi U1 904 99 = Xi S 904 99 from by rw [eU1]; exact Xi_ne (by omega))))
    have w256 : 0 ≤ Xi S 904 99 ∧ Xi S 904 99 ≤ 2600 := hH.c _ _
    exact ⟨hHU19, hFU19, rfl, (by first | exact t30.1 | exact t102.1 | assumption), (by omega), (by first | assumption | exact (RNV_FR (FR_e eU19) rfl (RNV_FR (FR_e eU18) rfl (RNV_FR (FR_e eU1) rfl (by assumption : RNV S _))))), (by omega), (by omega), (by omega)⟩
def md_mo_property : List rec := [(904, 905, 8, 9), (904, 905, 65, 66), (904, 905, 66, 67), (904, 905, 69, 70), (950, 951, 0, 100000), (951, 952, 0, 100000), (956, 957, 0, 100000)]
abbrev Q_mo_property (S : sS) (n : Nat) (c : Nat) : pst := fun r S1 => HI S1 ∧ FR md_mo_property S S1 ∧ (r = none ∧ (AT S1 n c) ∧ (Xi S 904 8 ≤ Xi S1 904 8 ∧ (Xi S1 904 8 ≤ n ∨ Xi S1 904 8 = Xi S 904 8)) ∧ (RNV S1 n) ∧ (Xi S1 904 65 = 0 → Xi S 904 65 = 0) ∧ (Xi S 904 69 ≤ Xi S1 904 69) ∧ (KT S1 S (Xi S 904 93)) ∧ (Xi S1 904 65 = 0 → Xi S1 956 (Xi S 904 93).toNat < Xi S1 904 69))
set_option maxRecDepth 100000 in
theorem t_mo_property {S : sS} (hH : HI S) (n : Nat) (c : Nat) (hT : TK S n) (hA : AT S n c) (hv : RNV S n) (tc : Xi S 904 93 ≤ 1699) (d : Nat) : Mt lay0 (d + 3) m_mo_property [.ref 904] S (Q_mo_property S n c) := by
  refine Mt_R rfl rfl ?_
  have hF : FR md_mo_property S S := FR.rf
  have w1 : 0 ≤ Xi S 904 65 ∧ Xi S 904 65 ≤ 1 := hH.c _ _
  have w2 : 0 ≤ Xi S 904 69 ∧ Xi S 904 69 ≤ 2600 := hH.c _ _
  have w3 : 0 ≤ Xi S 904 8 ∧ Xi S 904 8 ≤ 5010 := hH.c _ _
  have w4 : 0 ≤ Xi S 904 93 ∧ Xi S 904 93 ≤ 1700 := hH.c _ _
  have hn5 := hT.1
  have hat := hA
  have h8 : 0 ≤ Xi S 904 8 ∧ Xi S 904 8 ≤ 5010 := hH.c _ _
  have h69 : 0 ≤ Xi S 904 69 ∧ Xi S 904 69 ≤ 2600 := hH.c _ _
  have ha0 : Xi S 904 65 = 0 → Xi S 904 8 ≤ n := fun q => (hA q).1
  have ha3 : Xi S 904 65 = 0 → 2 * Xi S 904 69 ≤ Xi S 904 8 + 1 := fun q => (hA q).2.1
  clear hat
  refine l_aload_n rfl rfl ?_
  refine l_bipush rfl rfl ?_
  have w5 : 0 ≤ Xi S 904 65 ∧ Xi S 904 65 ≤ 1 := hH.c _ _
  have w6 : 0 ≤ Xi S 904 69 ∧ Xi S 904 69 ≤ 2600 := hH.c _ _
  have w7 : 0 ≤ Xi S 904 8 ∧ Xi S 904 8 ≤ 5010 := hH.c _ _
  have w8 : 0 ≤ Xi S 904 93 ∧ Xi S 904 93 ≤ 1700 := hH.c _ _
  refine l_callV rfl rfl rfl (t_mo_take__2 hH n c 102 ⟨by omega, by omega⟩ (by first | assumption | exact (TK_FR hF rfl (by assumption : TK S _))) (by first | assumption | exact (by assumption : AT S _ _)) (by first | assumption | omega) _) ?_
  rintro _ T1 ⟨hHT1, w14, rfl, w9, w10, w11, w12⟩
  have hFT1 : FR md_mo_property S T1 := FR.tr hF w14 rfl
  show Rl _ _ _ _ _ [] _ _
  refine l_aload_n rfl rfl ?_
  refine l_gfr rfl rfl rfl rfl rfl (hHT1.r 904 86 956 rfl) ?_
  refine l_aload_n rfl rfl ?_
  refine l_gfi rfl rfl rfl rfl rfl ?_
  have w15 : (Xi T1 904 93) = (Xi S 904 93) := (show Xi T1 904 93 = Xi S 904 93 from w14.x _ _ rfl)
  rw [w15]
  refine l_aload_n rfl rfl ?_
  have w16 : 0 ≤ Xi T1 904 65 ∧ Xi T1 904 65 ≤ 1 := hHT1.c _ _
  have w17 : Xi T1 904 69 = Xi S 904 69 := (show Xi T1 904 69 = Xi S 904 69 from w14.x _ _ rfl)
  have w18 : 0 ≤ Xi S 904 69 ∧ Xi S 904 69 ≤ 2600 := hH.c _ _
  have w19 : 0 ≤ Xi T1 904 8 ∧ Xi T1 904 8 ≤ 5010 := hHT1.c _ _
  have w20 : Xi T1 904 93 = Xi S 904 93 := (show Xi T1 904 93 = Xi S 904 93 from w14.x _ _ rfl)
  have w21 : 0 ≤ Xi S 904 93 ∧ Xi S 904 93 ≤ 1700 := hH.c _ _
  refine l_callV rfl rfl rfl (t_mo_run hHT1 n c (by first | assumption | exact (TK_FR hFT1 rfl (by assumption : TK S _))) (by first | assumption | exact (by assumption : AT T1 _ _)) (by first | assumption | exact (RNV_FR w14 rfl (by assumption : RNV S _))) _) ?_
  rintro _ T2 ⟨hHT2, w28, z27, rfl, w27, w22, w23, w24, w25, w26⟩
  have hFT2 : FR md_mo_property S T2 := FR.tr hFT1 w28 rfl
  show Rl _ _ _ _ _ [iv z27, iv (Xi S 904 93), .ref 956] _ _
  refine l_iastore (n := 1700) rfl rfl (by omega) (by omega) (by unfold rg; omega) ?_
  obtain ⟨U3, eU3⟩ : ∃ T : sS, T = uI T2 956 (((Xi S 904 93)).toNat) (Int32.ofInt z27) := ⟨_, rfl⟩
  rw [← eU3]
  have hHU3 : HI U3 := by rw [eU3]; exact HI_w hHT2 (show 0 ≤ z27 by omega) (show z27 ≤ 2600 by omega)
  have hFU3 : FR md_mo_property S U3 := by rw [eU3]; exact FR.wI hFT2 (mdf_i (r := (956, 957, 0, 100000)) (List.mem_of_getElem? (i := 6) rfl) (inR_i (by omega) (by omega) (by omega) (by omega)))
  have w29 : Xi U3 956 (((Xi S 904 93)).toNat) = z27 := by rw [eU3]; exact Xi_same (by unfold rg; omega)
  refine l_aload_n rfl rfl ?_
  refine l_bipush rfl rfl ?_
  have w30 : Xi U3 904 65 = Xi T2 904 65 := (show Xi U3 904 65 = Xi T2 904 65 from by rw [eU3]; exact Xi_ne (by omega))
  have w31 : 0 ≤ Xi T2 904 65 ∧ Xi T2 904 65 ≤ 1 := hHT2.c _ _
  have w32 : Xi U3 904 69 = Xi T2 904 69 := (show Xi U3 904 69 = Xi T2 904 69 from by rw [eU3]; exact Xi_ne (by omega))
  have w33 : 0 ≤ Xi T2 904 69 ∧ Xi T2 904 69 ≤ 2600 := hHT2.c _ _
  have w34 : Xi U3 904 8 = Xi T2 904 8 := (show Xi U3 904 8 = Xi T2 904 8 from by rw [eU3]; exact Xi_ne (by omega))
  have w35 : 0 ≤ Xi T2 904 8 ∧ Xi T2 904 8 ≤ 5010 := hHT2.c _ _
  have w36 : Xi U3 904 93 = Xi S 904 93 := (show Xi U3 904 93 = Xi T2 904 93 from by rw [eU3]; exact Xi_ne (by omega)).trans ( (show Xi T2 904 93 = Xi T1 904 93 from w28.x _ _ rfl).trans ((show Xi T1 904 93 = Xi S 904 93 from w14.x _ _ rfl)))
  have w37 : 0 ≤ Xi S 904 93 ∧ Xi S 904 93 ≤ 1700 := hH.c _ _
  refine l_callV rfl rfl rfl (t_mo_take__2 hHU3 n c 107 ⟨by omega, by omega⟩ (by first | assumption | exact (TK_FR hFU3 rfl (by assumption : TK S _))) (by first | assumption | exact (AT_FR (FR_e eU3) rfl (by assumption : AT T2 _ _))) (by first | assumption | omega) _) ?_
  rintro _ T4 ⟨hHT4, w43, rfl, w38, w39, w40, w41⟩
  have hFT4 : FR md_mo_property S T4 := FR.tr hFU3 w43 rfl
  show Rl _ _ _ _ _ [] _ _
  refine l_return rfl rfl ?_
  have w44 : Xi T4 956 (Xi S 904 93).toNat = Xi U3 956 (Xi S 904 93).toNat := (show Xi T4 956 (Xi S 904 93).toNat = Xi U3 956 (Xi S 904 93).toNat from (w43.cx 956 rfl _).1)
  have w45 : 0 ≤ Xi T4 904 65 ∧ Xi T4 904 65 ≤ 1 := hHT4.c _ _
  have w46 : Xi T4 904 69 = Xi T2 904 69 := (show Xi T4 904 69 = Xi U3 904 69 from w43.x _ _ rfl).trans ((show Xi U3 904 69 = Xi T2 904 69 from by rw [eU3]; exact Xi_ne (by omega)))
  have w47 : 0 ≤ Xi T2 904 69 ∧ Xi T2 904 69 ≤ 2600 := hHT2.c _ _
  have w48 : 0 ≤ Xi T4 904 8 ∧ Xi T4 904 8 ≤ 5010 := hHT4.c _ _
  have w49 : Xi T4 904 93 = Xi S 904 93 := (show Xi T4 904 93 = Xi U3 904 93 from w43.x _ _ rfl).trans ( (show Xi U3 904 93 = Xi T2 904 93 from by rw [eU3]; exact Xi_ne (by omega)).trans ( (show Xi T2 904 93 = Xi T1 904 93 from w28.x _ _ rfl).trans ((show Xi T1 904 93 = Xi S 904 93 from w14.x _ _ rfl))))
  have w50 : 0 ≤ Xi S 904 93 ∧ Xi S 904 93 ≤ 1700 := hH.c _ _
  exact ⟨hHT4, hFT4, rfl, (by first | assumption | exact (by assumption : AT T4 _ _)), (by omega), (by first | assumption | exact (RNV_FR w43 rfl (RNV_FR (FR_e eU3) rfl (by assumption : RNV T2 _)))), (by omega), (by omega), ((KT_FR w43 rfl (KT.w (KT_FR w28 rfl (KT_FR w14 rfl KT.rf)) eU3 (by omega)))), (by omega)⟩
def md_mo_thingOfTest : List rec := [(904, 905, 8, 9), (904, 905, 65, 66), (904, 905, 66, 67), (904, 905, 69, 70), (904, 905, 99, 100), (904, 905, 100, 101), (904, 905, 101, 102), (950, 951, 0, 100000), (951, 952, 0, 100000), (954, 955, 0, 100000), (955, 956, 0, 100000)]
abbrev Q_mo_thingOfTest (S : sS) (n : Nat) (c : Nat) : pst := fun r S1 => HI S1 ∧ FR md_mo_thingOfTest S S1 ∧ (r = none ∧ (AT S1 n c) ∧ (Xi S 904 8 ≤ Xi S1 904 8 ∧ (Xi S1 904 8 ≤ n ∨ Xi S1 904 8 = Xi S 904 8)) ∧ (RNV S1 n) ∧ (Xi S1 904 65 = 0 → Xi S 904 65 = 0) ∧ (Xi S 904 69 ≤ Xi S1 904 69) ∧ (KT S1 S (Xi S 904 93)) ∧ (Xi S1 904 65 = 0 → THV (Xi S1 904 69) n (Xi S1 954 (Xi S 904 93).toNat) (Xi S1 955 (Xi S 904 93).toNat)))
set_option maxRecDepth 100000 in
theorem t_mo_thingOfTest {S : sS} (hH : HI S) (n : Nat) (c : Nat) (hT : TK S n) (hA : AT S n c) (hv : RNV S n) (tc : Xi S 904 93 ≤ 1699) (d : Nat) : Mt lay0 (d + 5) m_mo_thingOfTest [.ref 904] S (Q_mo_thingOfTest S n c) := by
  refine Mt_R rfl rfl ?_
  have hF : FR md_mo_thingOfTest S S := FR.rf
  have w1 : 0 ≤ Xi S 904 65 ∧ Xi S 904 65 ≤ 1 := hH.c _ _
  have w2 : 0 ≤ Xi S 904 69 ∧ Xi S 904 69 ≤ 2600 := hH.c _ _
  have w3 : 0 ≤ Xi S 904 8 ∧ Xi S 904 8 ≤ 5010 := hH.c _ _
  have w4 : 0 ≤ Xi S 904 93 ∧ Xi S 904 93 ≤ 1700 := hH.c _ _
  have hn5 := hT.1
  have hat := hA
  have h8 : 0 ≤ Xi S 904 8 ∧ Xi S 904 8 ≤ 5010 := hH.c _ _
  have h69 : 0 ≤ Xi S 904 69 ∧ Xi S 904 69 ≤ 2600 := hH.c _ _
  have ha0 : Xi S 904 65 = 0 → Xi S 904 8 ≤ n := fun q => (hA q).1
  have ha3 : Xi S 904 65 = 0 → 2 * Xi S 904 69 ≤ Xi S 904 8 + 1 := fun q => (hA q).2.1
  clear hat
  refine l_aload_n rfl rfl ?_
  have w5 : 0 ≤ Xi S 904 100 ∧ Xi S 904 100 ≤ 2 := hH.c _ _
  have w6 : 0 ≤ Xi S 904 101 ∧ Xi S 904 101 ≤ 5010 := hH.c _ _
  have w7 : 0 ≤ Xi S 904 65 ∧ Xi S 904 65 ≤ 1 := hH.c _ _
  have w8 : 0 ≤ Xi S 904 69 ∧ Xi S 904 69 ≤ 2600 := hH.c _ _
  have w9 : 0 ≤ Xi S 904 8 ∧ Xi S 904 8 ≤ 5010 := hH.c _ _
  have w10 : 0 ≤ Xi S 904 93 ∧ Xi S 904 93 ≤ 1700 := hH.c _ _
  have w11 : 0 ≤ Xi S 904 99 ∧ Xi S 904 99 ≤ 2600 := hH.c _ _
  refine l_callV rfl rfl rfl (t_mo_thing hH n c (by first | assumption | exact (TK_FR hF rfl (by assumption : TK S _))) (by first | assumption | exact (by assumption : AT S _ _)) (by first | assumption | exact (by assumption : RNV S _)) _) ?_
  rintro _ T1 ⟨hHT1, w19, rfl, w12, w13, w14, w15, w16, w17⟩
  have hFT1 : FR md_mo_thingOfTest S T1 := FR.tr hF w19 rfl
  show Rl _ _ _ _ _ [] _ _
  refine l_aload_n rfl rfl ?_
  refine l_gfr rfl rfl rfl rfl rfl (hHT1.r 904 84 954 rfl) ?_
  refine l_aload_n rfl rfl ?_
  refine l_gfi rfl rfl rfl rfl rfl ?_
  have w20 : (Xi T1 904 93) = (Xi S 904 93) := (show Xi T1 904 93 = Xi S 904 93 from w19.x _ _ rfl)
  rw [w20]
  refine l_aload_n rfl rfl ?_
  refine l_gfi rfl rfl rfl rfl rfl ?_
  have w21 : 0 ≤ (Xi T1 904 100) ∧ (Xi T1 904 100) ≤ 2 := hHT1.c _ _
  refine l_sipush rfl rfl ?_
  refine l_imul rfl ?_
  refine l_aload_n rfl rfl ?_
  refine l_gfi rfl rfl rfl rfl rfl ?_
  have w22 : 0 ≤ (Xi T1 904 101) ∧ (Xi T1 904 101) ≤ 5010 := hHT1.c _ _
  refine l_iadd rfl ?_
  refine l_iastore (n := 1700) rfl rfl (by omega) (by omega) (by unfold rg; omega) ?_
  obtain ⟨U2, eU2⟩ : ∃ T : sS, T = uI T1 954 (((Xi S 904 93)).toNat) (Int32.ofInt (((Xi T1 904 100) * 10000) + (Xi T1 904 101))) := ⟨_, rfl⟩
  rw [← eU2]
  have hHU2 : HI U2 := by rw [eU2]; exact HI_w hHT1 (show 0 ≤ (((Xi T1 904 100) * 10000) + (Xi T1 904 101)) by omega) (show (((Xi T1 904 100) * 10000) + (Xi T1 904 101)) ≤ 25010 by omega)
  have hFU2 : FR md_mo_thingOfTest S U2 := by rw [eU2]; exact FR.wI hFT1 (mdf_i (r := (954, 955, 0, 100000)) (List.mem_of_getElem? (i := 9) rfl) (inR_i (by omega) (by omega) (by omega) (by omega)))
  have w23 : Xi U2 954 (((Xi S 904 93)).toNat) = (((Xi T1 904 100) * 10000) + (Xi T1 904 101)) := by rw [eU2]; exact Xi_same (by unfold rg; omega)
  refine l_aload_n rfl rfl ?_
  refine l_gfr rfl rfl rfl rfl rfl (hHU2.r 904 85 955 rfl) ?_
  refine l_aload_n rfl rfl ?_
  refine l_gfi rfl rfl rfl rfl rfl ?_
  have w24 : (Xi U2 904 93) = (Xi S 904 93) := (show Xi U2 904 93 = Xi T1 904 93 from by rw [eU2]; exact Xi_ne (by omega)).trans ((show Xi T1 904 93 = Xi S 904 93 from w19.x _ _ rfl))
  rw [w24]
  refine l_aload_n rfl rfl ?_
  refine l_gfi rfl rfl rfl rfl rfl ?_
  have w25 : 0 ≤ (Xi U2 904 99) ∧ (Xi U2 904 99) ≤ 2600 := hHU2.c _ _
  have e35 : (Xi U2 904 99) = Xi T1 904 99 := by rw [eU2]; exact Xi_ne (by omega)
  refine l_iastore (n := 1700) rfl rfl (by omega) (by omega) (by unfold rg; omega) ?_
  obtain ⟨U3, eU3⟩ : ∃ T : sS, T = uI U2 955 (((Xi S 904 93)).toNat) (Int32.ofInt (Xi U2 904 99)) := ⟨_, rfl⟩
  rw [← eU3]
  have hHU3 : HI U3 := by rw [eU3]; exact HI_w hHU2 (show 0 ≤ (Xi U2 904 99) by omega) (show (Xi U2 904 99) ≤ 2600 by omega)
  have hFU3 : FR md_mo_thingOfTest S U3 := by rw [eU3]; exact FR.wI hFU2 (mdf_i (r := (955, 956, 0, 100000)) (List.mem_of_getElem? (i := 10) rfl) (inR_i (by omega) (by omega) (by omega) (by omega)))
  have w26 : Xi U3 955 (((Xi S 904 93)).toNat) = (Xi U2 904 99) := by rw [eU3]; exact Xi_same (by unfold rg; omega)
  refine l_return rfl rfl ?_
  have w27 : Xi U3 954 (Xi S 904 93).toNat = Xi U2 954 (Xi S 904 93).toNat := (show Xi U3 954 (Xi S 904 93).toNat = Xi U2 954 (Xi S 904 93).toNat from by rw [eU3]; exact Xi_ne (by omega))
  have w28 : Xi U3 904 100 = Xi T1 904 100 := (show Xi U3 904 100 = Xi U2 904 100 from by rw [eU3]; exact Xi_ne (by omega)).trans ((show Xi U2 904 100 = Xi T1 904 100 from by rw [eU2]; exact Xi_ne (by omega)))
  have w29 : 0 ≤ Xi T1 904 100 ∧ Xi T1 904 100 ≤ 2 := hHT1.c _ _
  have w30 : Xi U3 904 101 = Xi T1 904 101 := (show Xi U3 904 101 = Xi U2 904 101 from by rw [eU3]; exact Xi_ne (by omega)).trans ((show Xi U2 904 101 = Xi T1 904 101 from by rw [eU2]; exact Xi_ne (by omega)))
  have w31 : 0 ≤ Xi T1 904 101 ∧ Xi T1 904 101 ≤ 5010 := hHT1.c _ _
  have w32 : Xi U3 904 65 = Xi T1 904 65 := (show Xi U3 904 65 = Xi U2 904 65 from by rw [eU3]; exact Xi_ne (by omega)).trans ((show Xi U2 904 65 = Xi T1 904 65 from by rw [eU2]; exact Xi_ne (by omega)))
  have w33 : 0 ≤ Xi T1 904 65 ∧ Xi T1 904 65 ≤ 1 := hHT1.c _ _
  have w34 : Xi U3 904 69 = Xi T1 904 69 := (show Xi U3 904 69 = Xi U2 904 69 from by rw [eU3]; exact Xi_ne (by omega)).trans ((show Xi U2 904 69 = Xi T1 904 69 from by rw [eU2]; exact Xi_ne (by omega)))
  have w35 : 0 ≤ Xi T1 904 69 ∧ Xi T1 904 69 ≤ 2600 := hHT1.c _ _
  have w36 : Xi U3 904 8 = Xi T1 904 8 := (show Xi U3 904 8 = Xi U2 904 8 from by rw [eU3]; exact Xi_ne (by omega)).trans ((show Xi U2 904 8 = Xi T1 904 8 from by rw [eU2]; exact Xi_ne (by omega)))
  have w37 : 0 ≤ Xi T1 904 8 ∧ Xi T1 904 8 ≤ 5010 := hHT1.c _ _
  have w38 : Xi U3 904 93 = Xi S 904 93 := (show Xi U3 904 93 = Xi U2 904 93 from by rw [eU3]; exact Xi_ne (by omega)).trans ( (show Xi U2 904 93 = Xi T1 904 93 from by rw [eU2]; exact Xi_ne (by omega)).trans ((show Xi T1 904 93 = Xi S 904 93 from w19.x _ _ rfl)))
  have w39 : 0 ≤ Xi S 904 93 ∧ Xi S 904 93 ≤ 1700 := hH.c _ _
  have w40 : Xi U3 904 99 = Xi T1 904 99 := (show Xi U3 904 99 = Xi U2 904 99 from by rw [eU3]; exact Xi_ne (by omega)).trans ((show Xi U2 904 99 = Xi T1 904 99 from by rw [eU2]; exact Xi_ne (by omega)))
  have w41 : 0 ≤ Xi T1 904 99 ∧ Xi T1 904 99 ≤ 2600 := hHT1.c _ _
  exact ⟨hHU3, hFU3, rfl, (by first | assumption | exact (AT_FR (FR_e eU3) rfl (AT_FR (FR_e eU2) rfl (by assumption : AT T1 _ _)))), (by omega), (by first | assumption | exact (RNV_FR (FR_e eU3) rfl (RNV_FR (FR_e eU2) rfl (by assumption : RNV T1 _)))), (by omega), (by omega), ((KT.w (KT.w (KT_FR w19 rfl KT.rf) eU2 (by omega)) eU3 (by omega))), (fun q => thv_i (s := Xi U3 904 100) (t := Xi U3 904 101) (r := Xi U3 904 99) (by omega) (by omega) (by omega) (by omega) (by omega) (by omega) (by omega))⟩
def md_mo_testedWhat : List rec := [(904, 905, 8, 9), (904, 905, 65, 66), (904, 905, 66, 67), (904, 905, 69, 70), (904, 905, 78, 79), (950, 951, 0, 100000), (951, 952, 0, 100000), (952, 953, 0, 100000), (953, 954, 0, 100000), (957, 958, 0, 100000), (960, 961, 0, 100000)]
abbrev Q_mo_testedWhat (S : sS) (n : Nat) (c : Nat) (isNow : Int) : pst := fun r S1 => HI S1 ∧ FR md_mo_testedWhat S S1 ∧ (r = none ∧ (AT S1 n c) ∧ (Xi S 904 8 ≤ Xi S1 904 8 ∧ (Xi S1 904 8 ≤ n ∨ Xi S1 904 8 = Xi S 904 8)) ∧ (RNV S1 n) ∧ (Xi S1 904 65 = 0 → Xi S 904 65 = 0) ∧ (Xi S 904 69 ≤ Xi S1 904 69) ∧ (KT S1 S (Xi S 904 93)) ∧ (Xi S1 904 65 = 0 → Xi S1 952 (Xi S 904 93).toNat ≤ 2 ∧ Xi S1 957 (Xi S 904 93).toNat ≤ n ∧ (Xi S1 952 (Xi S 904 93).toNat = 0 → Xi S 907 (Xi S1 957 (Xi S 904 93).toNat).toNat ≠ 4 → Xi S 907 (Xi S1 957 (Xi S 904 93).toNat).toNat ≠ 5 → 0 ≤ Xi S1 960 (Xi S 904 93).toNat ∧ Xi S1 960 (Xi S 904 93).toNat < Xi S1 904 69)))
set_option maxRecDepth 100000 in
theorem t_mo_testedWhat {S : sS} (hH : HI S) (n : Nat) (c : Nat) (isNow : Int) (hisNow : 0 ≤ isNow ∧ isNow ≤ 1) (hT : TK S n) (hA : AT S n c) (hv : RNV S n) (tc : Xi S 904 93 ≤ 1699) (d : Nat) : Mt lay0 (d + 4) m_mo_testedWhat [.ref 904, iv isNow] S (Q_mo_testedWhat S n c isNow) := by
  refine Mt_R rfl rfl ?_
  have hF : FR md_mo_testedWhat S S := FR.rf
  have w1 : 0 ≤ Xi S 904 65 ∧ Xi S 904 65 ≤ 1 := hH.c _ _
  have w2 : 0 ≤ Xi S 904 69 ∧ Xi S 904 69 ≤ 2600 := hH.c _ _
  have w3 : 0 ≤ Xi S 904 8 ∧ Xi S 904 8 ≤ 5010 := hH.c _ _
  have w4 : 0 ≤ Xi S 904 93 ∧ Xi S 904 93 ≤ 1700 := hH.c _ _
  have hn5 := hT.1
  have hat := hA
  have h8 : 0 ≤ Xi S 904 8 ∧ Xi S 904 8 ≤ 5010 := hH.c _ _
  have h69 : 0 ≤ Xi S 904 69 ∧ Xi S 904 69 ≤ 2600 := hH.c _ _
  have ha0 : Xi S 904 65 = 0 → Xi S 904 8 ≤ n := fun q => (hA q).1
  have ha3 : Xi S 904 65 = 0 → 2 * Xi S 904 69 ≤ Xi S 904 8 + 1 := fun q => (hA q).2.1
  clear hat
  have C147 : ∀  (T1 : sS) (_ : HI T1) (_ : FR md_mo_testedWhat S T1), (AT T1 n c) → (RNV T1 n) → (Xi T1 904 65 = Xi S 904 65) → (Xi T1 904 69 = Xi S 904 69) → (Xi T1 904 93 = Xi S 904 93) → (Xi S 904 8 ≤ Xi T1 904 8 ∧ (Xi T1 904 8 ≤ n ∨ Xi T1 904 8 = Xi S 904 8)) → (Xi T1 952 (Xi S 904 93).toNat = 0) → (KT T1 S (Xi S 904 93)) → Rl lay0 (d + 3) m_mo_testedWhat 147 [(0, .ref 904)] [] T1 (Q_mo_testedWhat S n c isNow) := by
    intro T1 hHT1 hFT1 A147 V147 w5 w6 w7 w8 w9 K147
    have w10 : Xi T1 904 93 = Xi S 904 93 := hFT1.x _ _ rfl
    have w11 : 0 ≤ Xi T1 904 65 ∧ Xi T1 904 65 ≤ 1 := hHT1.c _ _
    have w12 : 0 ≤ Xi T1 904 69 ∧ Xi T1 904 69 ≤ 2600 := hHT1.c _ _
    have w13 : 0 ≤ Xi T1 904 8 ∧ Xi T1 904 8 ≤ 5010 := hHT1.c _ _
    have w14 : 0 ≤ Xi T1 904 93 ∧ Xi T1 904 93 ≤ 1700 := hHT1.c _ _
    refine l_aload_n rfl rfl ?_
    have w15 : 0 ≤ Xi T1 904 65 ∧ Xi T1 904 65 ≤ 1 := hHT1.c _ _
    have w16 : 0 ≤ Xi T1 904 69 ∧ Xi T1 904 69 ≤ 2600 := hHT1.c _ _
    have w17 : -2 ≤ Xi T1 904 78 ∧ Xi T1 904 78 ≤ 5010 := hHT1.c _ _
    have w18 : 0 ≤ Xi T1 904 8 ∧ Xi T1 904 8 ≤ 5010 := hHT1.c _ _
    have w19 : 0 ≤ Xi T1 904 93 ∧ Xi T1 904 93 ≤ 1700 := hHT1.c _ _
    refine l_callV rfl rfl rfl (t_mo_what__2 hHT1 n c (by first | assumption | exact (TK_FR hFT1 rfl (by assumption : TK S _))) (by first | assumption | exact (by assumption : AT T1 _ _)) (by first | assumption | exact (by assumption : RNV T1 _)) _) ?_
    rintro _ T2 ⟨hHT2, w28, rfl, w20, w21, w22, w23, w24, w25, w26⟩
    have hFT2 : FR md_mo_testedWhat S T2 := FR.tr hFT1 w28 rfl
    show Rl _ _ _ _ _ [] _ _
    have l148 : Xi T1 904 65 = 0 → Xi T1 904 8 ≤ n := fun q => (A147 q).1
    have W148 : Xi T2 904 65 = 0 → ∀ x : Int, x = Xi T2 904 78 → Xi S 907 x.toNat ≠ 4 → Xi S 907 x.toNat ≠ 5 → Xi T1 904 69 < Xi T2 904 69 := fun q x e a b => by have t := (by assumption : Xi T2 904 65 = 0 → Xi T1 907 (Xi T1 904 8).toNat ≠ 4 → Xi T1 907 (Xi T1 904 8).toNat ≠ 5 → _) q; rw [(hFT1.cx 907 rfl _).1, show Xi T1 904 8 = x by omega] at t; exact t a b
    refine l_aload_n rfl rfl ?_
    refine l_gfr rfl rfl rfl rfl rfl (hHT2.r 904 87 957 rfl) ?_
    refine l_aload_n rfl rfl ?_
    refine l_gfi rfl rfl rfl rfl rfl ?_
    have w29 : (Xi T2 904 93) = (Xi T1 904 93) := (show Xi T2 904 93 = Xi T1 904 93 from w28.x _ _ rfl)
    rw [w29]
    refine l_aload_n rfl rfl ?_
    refine l_gfi rfl rfl rfl rfl rfl ?_
    have w30 : -2 ≤ (Xi T2 904 78) ∧ (Xi T2 904 78) ≤ 5010 := hHT2.c _ _
    refine l_iastore (n := 1700) rfl rfl (by omega) (by omega) (by unfold rg; omega) ?_
    obtain ⟨U3, eU3⟩ : ∃ T : sS, T = uI T2 957 (((Xi T1 904 93)).toNat) (Int32.ofInt (Xi T2 904 78)) := ⟨_, rfl⟩
    rw [← eU3]
    have hHU3 : HI U3 := by rw [eU3]; exact HI_w hHT2 (show 0 ≤ (Xi T2 904 78) by omega) (show (Xi T2 904 78) ≤ 5010 by omega)
    have hFU3 : FR md_mo_testedWhat S U3 := by rw [eU3]; exact FR.wI hFT2 (mdf_i (r := (957, 958, 0, 100000)) (List.mem_of_getElem? (i := 9) rfl) (inR_i (by omega) (by omega) (by omega) (by omega)))
    have w31 : Xi U3 957 (((Xi T1 904 93)).toNat) = (Xi T2 904 78) := by rw [eU3]; exact Xi_same (by unfold rg; omega)
    refine l_aload_n rfl rfl ?_
    refine l_gfr rfl rfl rfl rfl rfl (hHU3.r 904 90 960 rfl) ?_
    refine l_aload_n rfl rfl ?_
    refine l_gfi rfl rfl rfl rfl rfl ?_
    have w32 : (Xi U3 904 93) = (Xi T1 904 93) := (show Xi U3 904 93 = Xi T2 904 93 from by rw [eU3]; exact Xi_ne (by omega)).trans ((show Xi T2 904 93 = Xi T1 904 93 from w28.x _ _ rfl))
    rw [w32]
    refine l_aload_n rfl rfl ?_
    refine l_gfi rfl rfl rfl rfl rfl ?_
    have w33 : 0 ≤ (Xi U3 904 69) ∧ (Xi U3 904 69) ≤ 2600 := hHU3.c _ _
    refine l_iconst rfl ?_
    refine l_isub rfl ?_
    refine l_iastore (n := 1700) rfl rfl (by omega) (by omega) (by unfold rg; omega) ?_
    obtain ⟨U4, eU4⟩ : ∃ T : sS, T = uI U3 960 (((Xi T1 904 93)).toNat) (Int32.ofInt ((Xi U3 904 69) - 1)) := ⟨_, rfl⟩
    rw [← eU4]
    have hHU4 : HI U4 := by rw [eU4]; exact HI_w hHU3 (show -1 ≤ ((Xi U3 904 69) - 1) by omega) (show ((Xi U3 904 69) - 1) ≤ 2600 by omega)
    have hFU4 : FR md_mo_testedWhat S U4 := by rw [eU4]; exact FR.wI hFU3 (mdf_i (r := (960, 961, 0, 100000)) (List.mem_of_getElem? (i := 10) rfl) (inR_i (by omega) (by omega) (by omega) (by omega)))
    have w34 : Xi U4 960 (((Xi T1 904 93)).toNat) = ((Xi U3 904 69) - 1) := by rw [eU4]; exact Xi_same (by unfold rg; omega)
    refine l_return rfl rfl ?_
    have w35 : Xi U4 952 (Xi S 904 93).toNat = Xi T1 952 (Xi S 904 93).toNat := (show Xi U4 952 (Xi S 904 93).toNat = Xi U3 952 (Xi S 904 93).toNat from by rw [eU4]; exact Xi_ne (by omega)).trans ( (show Xi U3 952 (Xi S 904 93).toNat = Xi T2 952 (Xi S 904 93).toNat from by rw [eU3]; exact Xi_ne (by omega)).trans ((show Xi T2 952 (Xi S 904 93).toNat = Xi T1 952 (Xi S 904 93).toNat from (w28.cx 952 rfl _).1)))
    have w36 : Xi U4 957 (Xi S 904 93).toNat = Xi U3 957 (Xi S 904 93).toNat := (show Xi U4 957 (Xi S 904 93).toNat = Xi U3 957 (Xi S 904 93).toNat from by rw [eU4]; exact Xi_ne (by omega))
    have w37 : Xi U4 904 65 = Xi T2 904 65 := (show Xi U4 904 65 = Xi U3 904 65 from by rw [eU4]; exact Xi_ne (by omega)).trans ((show Xi U3 904 65 = Xi T2 904 65 from by rw [eU3]; exact Xi_ne (by omega)))
    have w38 : 0 ≤ Xi T2 904 65 ∧ Xi T2 904 65 ≤ 1 := hHT2.c _ _
    have w39 : Xi U4 904 69 = Xi T2 904 69 := (show Xi U4 904 69 = Xi U3 904 69 from by rw [eU4]; exact Xi_ne (by omega)).trans ((show Xi U3 904 69 = Xi T2 904 69 from by rw [eU3]; exact Xi_ne (by omega)))
    have w40 : 0 ≤ Xi T2 904 69 ∧ Xi T2 904 69 ≤ 2600 := hHT2.c _ _
    have w41 : Xi U4 904 78 = Xi T2 904 78 := (show Xi U4 904 78 = Xi U3 904 78 from by rw [eU4]; exact Xi_ne (by omega)).trans ((show Xi U3 904 78 = Xi T2 904 78 from by rw [eU3]; exact Xi_ne (by omega)))
    have w42 : -2 ≤ Xi T2 904 78 ∧ Xi T2 904 78 ≤ 5010 := hHT2.c _ _
    have w43 : Xi U4 904 8 = Xi T2 904 8 := (show Xi U4 904 8 = Xi U3 904 8 from by rw [eU4]; exact Xi_ne (by omega)).trans ((show Xi U3 904 8 = Xi T2 904 8 from by rw [eU3]; exact Xi_ne (by omega)))
    have w44 : 0 ≤ Xi T2 904 8 ∧ Xi T2 904 8 ≤ 5010 := hHT2.c _ _
    have w45 : Xi U4 904 93 = Xi T1 904 93 := (show Xi U4 904 93 = Xi U3 904 93 from by rw [eU4]; exact Xi_ne (by omega)).trans ( (show Xi U3 904 93 = Xi T2 904 93 from by rw [eU3]; exact Xi_ne (by omega)).trans ((show Xi T2 904 93 = Xi T1 904 93 from w28.x _ _ rfl)))
    have w46 : 0 ≤ Xi T1 904 93 ∧ Xi T1 904 93 ≤ 1700 := hHT1.c _ _
    exact ⟨hHU4, hFU4, rfl, (by first | assumption | exact (AT_FR (FR_e eU4) rfl (AT_FR (FR_e eU3) rfl (by assumption : AT T2 _ _)))), (by omega), (by first | assumption | exact (RNV_FR (FR_e eU4) rfl (RNV_FR (FR_e eU3) rfl (by assumption : RNV T2 _)))), (by omega), (by omega), ((KT.w (KT.w (KT_FR w28 rfl (by assumption : KT T1 S _)) eU3 (by omega)) eU4 (by omega))), (by intro q; refine ⟨by omega, by omega, fun q0 => ?_⟩; first | (exfalso; omega) | (intro a b; have t := W148 (by omega) (Xi U4 957 (Xi S 904 93).toNat) (by omega) a b; omega))⟩
  refine l_iload_n rfl rfl ?_
  refine l_if_ne rfl rfl (by unfold rg; omega) (fun w47 => ?_) (fun w48 => ?_)
  · refine l_aload_n rfl rfl ?_
    refine l_gfr rfl rfl rfl rfl rfl (hH.r 904 82 952 rfl) ?_
    refine l_aload_n rfl rfl ?_
    refine l_gfi rfl rfl rfl rfl rfl ?_
    refine l_iconst rfl ?_
    refine l_iastore (n := 1700) rfl rfl (by omega) (by omega) (by unfold rg; omega) ?_
    obtain ⟨U5, eU5⟩ : ∃ T : sS, T = uI S 952 (((Xi S 904 93)).toNat) (Int32.ofInt 0) := ⟨_, rfl⟩
    rw [← eU5]
    have hHU5 : HI U5 := by rw [eU5]; exact HI_w hH (show 0 ≤ 0 by omega) (show 0 ≤ 5 by omega)
    have hFU5 : FR md_mo_testedWhat S U5 := by rw [eU5]; exact FR.wI hF (mdf_i (r := (952, 953, 0, 100000)) (List.mem_of_getElem? (i := 7) rfl) (inR_i (by omega) (by omega) (by omega) (by omega)))
    have w49 : Xi U5 952 (((Xi S 904 93)).toNat) = 0 := by rw [eU5]; exact Xi_same (by unfold rg; omega)
    have s93_8 : Xi U5 904 8 = Xi S 904 8 := by rw [eU5, Xi_ne (by omega)]
    have s93_65 : Xi U5 904 65 = Xi S 904 65 := by rw [eU5, Xi_ne (by omega)]
    have s93_69 : Xi U5 904 69 = Xi S 904 69 := by rw [eU5, Xi_ne (by omega)]
    have s93_93 : Xi U5 904 93 = Xi S 904 93 := by rw [eU5, Xi_ne (by omega)]
    refine l_aload_n rfl rfl ?_
    refine l_gfr rfl rfl rfl rfl rfl (hHU5.r 904 83 953 rfl) ?_
    refine l_aload_n rfl rfl ?_
    refine l_gfi rfl rfl rfl rfl rfl ?_
    have w50 : (Xi U5 904 93) = (Xi S 904 93) := (show Xi U5 904 93 = Xi S 904 93 from by rw [eU5]; exact Xi_ne (by omega))
    rw [w50]
    refine l_iload_n rfl rfl ?_
    refine l_if_ne rfl rfl (by unfold rg; omega) (fun w51 => ?_) (fun w52 => ?_)
    · refine l_iconst rfl ?_
      refine l_bastoreZ1 (n := 1700) rfl rfl (by omega) (by omega) (by unfold rg; omega) ⟨by omega, by omega⟩ ?_
      obtain ⟨U6, eU6⟩ : ∃ T : sS, T = uI U5 953 (((Xi S 904 93)).toNat) (Int32.ofInt 0) := ⟨_, rfl⟩
      rw [← eU6]
      have hHU6 : HI U6 := by rw [eU6]; exact HI_w hHU5 (show 0 ≤ 0 by omega) (show 0 ≤ 1 by omega)
      have hFU6 : FR md_mo_testedWhat S U6 := by rw [eU6]; exact FR.wI hFU5 (mdf_i (r := (953, 954, 0, 100000)) (List.mem_of_getElem? (i := 8) rfl) (inR_i (by omega) (by omega) (by omega) (by omega)))
      have w53 : Xi U6 953 (((Xi S 904 93)).toNat) = 0 := by rw [eU6]; exact Xi_same (by unfold rg; omega)
      have s120_8 : Xi U6 904 8 = Xi U5 904 8 := by rw [eU6, Xi_ne (by omega)]
      have s120_65 : Xi U6 904 65 = Xi U5 904 65 := by rw [eU6, Xi_ne (by omega)]
      have s120_69 : Xi U6 904 69 = Xi U5 904 69 := by rw [eU6, Xi_ne (by omega)]
      have s120_93 : Xi U6 904 93 = Xi U5 904 93 := by rw [eU6, Xi_ne (by omega)]
      have i120 : Xi U6 953 (Xi S 904 93).toNat ≠ 0 → Xi U6 904 65 = 0 ∧ Xi U6 907 (Xi U6 904 8).toNat ≠ 1 := fun q => by rw [(hFU6.cx 907 rfl _).1, show Xi U6 904 8 = Xi S 904 8 by omega]; omega
      refine l_aload_n rfl rfl ?_
      refine l_dup rfl rfl ?_
      refine l_gfi rfl rfl rfl rfl rfl ?_
      have w54 : (Xi U6 904 8) = (Xi S 904 8) := (show Xi U6 904 8 = Xi U5 904 8 from by rw [eU6]; exact Xi_ne (by omega)).trans ((show Xi U5 904 8 = Xi S 904 8 from by rw [eU5]; exact Xi_ne (by omega)))
      rw [w54]
      refine l_aload_n rfl rfl ?_
      refine l_gfr rfl rfl rfl rfl rfl (hHU6.r 904 83 953 rfl) ?_
      refine l_aload_n rfl rfl ?_
      refine l_gfi rfl rfl rfl rfl rfl ?_
      have w55 : (Xi U6 904 93) = (Xi S 904 93) := (show Xi U6 904 93 = Xi U5 904 93 from by rw [eU6]; exact Xi_ne (by omega)).trans ((show Xi U5 904 93 = Xi S 904 93 from by rw [eU5]; exact Xi_ne (by omega)))
      rw [w55]
      refine l_baload (n := 1700) rfl rfl rfl (by decide) (by omega) (by omega) (by unfold rg; omega) ?_
      refine l_if_eq rfl rfl (by unfold rg; omega) (fun w56 => ?_) (fun w57 => ?_)
      · refine l_iconst rfl ?_
        refine l_iadd rfl ?_
        refine l_pfi rfl rfl rfl rfl ?_
        obtain ⟨U7, eU7⟩ : ∃ T : sS, T = uI U6 904 8 (Int32.ofInt ((Xi S 904 8) + 0)) := ⟨_, rfl⟩
        rw [← eU7]
        have hHU7 : HI U7 := by rw [eU7]; exact HI_w hHU6 (show 0 ≤ ((Xi S 904 8) + 0) by omega) (show ((Xi S 904 8) + 0) ≤ 5010 by omega)
        have hFU7 : FR md_mo_testedWhat S U7 := by rw [eU7]; exact FR.wI hFU6 (mdf_i (r := (904, 905, 8, 9)) (List.mem_of_getElem? (i := 0) rfl) (inR_i (by omega) (by omega) (by omega) (by omega)))
        have w58 : Xi U7 904 8 = ((Xi S 904 8) + 0) := by rw [eU7]; exact Xi_same (by unfold rg; omega)
        have t144 : AT U7 n c ∧ Xi U6 904 8 ≤ Xi U7 904 8 ∧ (Xi U7 904 8 ≤ n ∨ Xi U7 904 8 = Xi U6 904 8) := at_opt (TK_FR hFU6 rfl hT) (at_fr hA (fun j => (hFU6.cx 907 rfl j).1) (fun j => (hFU6.cx 908 rfl j).1) (by omega) (by omega) (by omega) (by omega)) eU7 (by omega) (by omega)
        have w59 : Xi U7 952 (Xi S 904 93).toNat = Xi U5 952 (Xi S 904 93).toNat := (show Xi U7 952 (Xi S 904 93).toNat = Xi U6 952 (Xi S 904 93).toNat from by rw [eU7]; exact Xi_ne (by omega)).trans ((show Xi U6 952 (Xi S 904 93).toNat = Xi U5 952 (Xi S 904 93).toNat from by rw [eU6]; exact Xi_ne (by omega)))
        have w60 : Xi U7 957 (Xi S 904 93).toNat = Xi S 957 (Xi S 904 93).toNat := (show Xi U7 957 (Xi S 904 93).toNat = Xi U6 957 (Xi S 904 93).toNat from by rw [eU7]; exact Xi_ne (by omega)).trans ( (show Xi U6 957 (Xi S 904 93).toNat = Xi U5 957 (Xi S 904 93).toNat from by rw [eU6]; exact Xi_ne (by omega)).trans ((show Xi U5 957 (Xi S 904 93).toNat = Xi S 957 (Xi S 904 93).toNat from by rw [eU5]; exact Xi_ne (by omega))))
        have w61 : Xi U7 960 (Xi S 904 93).toNat = Xi S 960 (Xi S 904 93).toNat := (show Xi U7 960 (Xi S 904 93).toNat = Xi U6 960 (Xi S 904 93).toNat from by rw [eU7]; exact Xi_ne (by omega)).trans ( (show Xi U6 960 (Xi S 904 93).toNat = Xi U5 960 (Xi S 904 93).toNat from by rw [eU6]; exact Xi_ne (by omega)).trans ((show Xi U5 960 (Xi S 904 93).toNat = Xi S 960 (Xi S 904 93).toNat from by rw [eU5]; exact Xi_ne (by omega))))
        have w62 : Xi U7 904 65 = Xi S 904 65 := (show Xi U7 904 65 = Xi U6 904 65 from by rw [eU7]; exact Xi_ne (by omega)).trans ( (show Xi U6 904 65 = Xi U5 904 65 from by rw [eU6]; exact Xi_ne (by omega)).trans ((show Xi U5 904 65 = Xi S 904 65 from by rw [eU5]; exact Xi_ne (by omega))))
        have w63 : 0 ≤ Xi S 904 65 ∧ Xi S 904 65 ≤ 1 := hH.c _ _
        have w64 : Xi U7 904 69 = Xi S 904 69 := (show Xi U7 904 69 = Xi U6 904 69 from by rw [eU7]; exact Xi_ne (by omega)).trans ( (show Xi U6 904 69 = Xi U5 904 69 from by rw [eU6]; exact Xi_ne (by omega)).trans ((show Xi U5 904 69 = Xi S 904 69 from by rw [eU5]; exact Xi_ne (by omega))))
        have w65 : 0 ≤ Xi S 904 69 ∧ Xi S 904 69 ≤ 2600 := hH.c _ _
        have w66 : Xi U7 904 78 = Xi S 904 78 := (show Xi U7 904 78 = Xi U6 904 78 from by rw [eU7]; exact Xi_ne (by omega)).trans ( (show Xi U6 904 78 = Xi U5 904 78 from by rw [eU6]; exact Xi_ne (by omega)).trans ((show Xi U5 904 78 = Xi S 904 78 from by rw [eU5]; exact Xi_ne (by omega))))
        have w67 : -2 ≤ Xi S 904 78 ∧ Xi S 904 78 ≤ 5010 := hH.c _ _
        have w68 : 0 ≤ Xi U7 904 8 ∧ Xi U7 904 8 ≤ 5010 := hHU7.c _ _
        have w69 : Xi U7 904 93 = Xi S 904 93 := (show Xi U7 904 93 = Xi U6 904 93 from by rw [eU7]; exact Xi_ne (by omega)).trans ( (show Xi U6 904 93 = Xi U5 904 93 from by rw [eU6]; exact Xi_ne (by omega)).trans ((show Xi U5 904 93 = Xi S 904 93 from by rw [eU5]; exact Xi_ne (by omega))))
        have w70 : 0 ≤ Xi S 904 93 ∧ Xi S 904 93 ≤ 1700 := hH.c _ _
        exact Rl_weak (C147 U7 hHU7 hFU7  (t144.1) (by first | assumption | exact (RNV_FR (FR_e eU7) rfl (RNV_FR (FR_e eU6) rfl (RNV_FR (FR_e eU5) rfl (by assumption : RNV S _))))) (by omega) (by omega) (by omega) (by omega) (by omega) ((KT_FR (FR_e eU7) rfl (KT.w (KT.w KT.rf eU5 (by omega)) eU6 (by omega))))) (And.intro rfl (True.intro))
      · refine l_iconst rfl ?_
        refine l_goto rfl rfl ?_
        refine l_iadd rfl ?_
        refine l_pfi rfl rfl rfl rfl ?_
        obtain ⟨U8, eU8⟩ : ∃ T : sS, T = uI U6 904 8 (Int32.ofInt ((Xi S 904 8) + 1)) := ⟨_, rfl⟩
        rw [← eU8]
        have hHU8 : HI U8 := by rw [eU8]; exact HI_w hHU6 (show 0 ≤ ((Xi S 904 8) + 1) by omega) (show ((Xi S 904 8) + 1) ≤ 5010 by omega)
        have hFU8 : FR md_mo_testedWhat S U8 := by rw [eU8]; exact FR.wI hFU6 (mdf_i (r := (904, 905, 8, 9)) (List.mem_of_getElem? (i := 0) rfl) (inR_i (by omega) (by omega) (by omega) (by omega)))
        have w71 : Xi U8 904 8 = ((Xi S 904 8) + 1) := by rw [eU8]; exact Xi_same (by unfold rg; omega)
        have t144 : AT U8 n c ∧ Xi U6 904 8 ≤ Xi U8 904 8 ∧ (Xi U8 904 8 ≤ n ∨ Xi U8 904 8 = Xi U6 904 8) := at_opt (TK_FR hFU6 rfl hT) (at_fr hA (fun j => (hFU6.cx 907 rfl j).1) (fun j => (hFU6.cx 908 rfl j).1) (by omega) (by omega) (by omega) (by omega)) eU8 (by omega) (by omega)
        have w72 : Xi U8 952 (Xi S 904 93).toNat = Xi U5 952 (Xi S 904 93).toNat := (show Xi U8 952 (Xi S 904 93).toNat = Xi U6 952 (Xi S 904 93).toNat from by rw [eU8]; exact Xi_ne (by omega)).trans ((show Xi U6 952 (Xi S 904 93).toNat = Xi U5 952 (Xi S 904 93).toNat from by rw [eU6]; exact Xi_ne (by omega)))
        have w73 : Xi U8 957 (Xi S 904 93).toNat = Xi S 957 (Xi S 904 93).toNat := (show Xi U8 957 (Xi S 904 93).toNat = Xi U6 957 (Xi S 904 93).toNat from by rw [eU8]; exact Xi_ne (by omega)).trans ( (show Xi U6 957 (Xi S 904 93).toNat = Xi U5 957 (Xi S 904 93).toNat from by rw [eU6]; exact Xi_ne (by omega)).trans ((show Xi U5 957 (Xi S 904 93).toNat = Xi S 957 (Xi S 904 93).toNat from by rw [eU5]; exact Xi_ne (by omega))))
        have w74 : Xi U8 960 (Xi S 904 93).toNat = Xi S 960 (Xi S 904 93).toNat := (show Xi U8 960 (Xi S 904 93).toNat = Xi U6 960 (Xi S 904 93).toNat from by rw [eU8]; exact Xi_ne (by omega)).trans ( (show Xi U6 960 (Xi S 904 93).toNat = Xi U5 960 (Xi S 904 93).toNat from by rw [eU6]; exact Xi_ne (by omega)).trans ((show Xi U5 960 (Xi S 904 93).toNat = Xi S 960 (Xi S 904 93).toNat from by rw [eU5]; exact Xi_ne (by omega))))
        have w75 : Xi U8 904 65 = Xi S 904 65 := (show Xi U8 904 65 = Xi U6 904 65 from by rw [eU8]; exact Xi_ne (by omega)).trans ( (show Xi U6 904 65 = Xi U5 904 65 from by rw [eU6]; exact Xi_ne (by omega)).trans ((show Xi U5 904 65 = Xi S 904 65 from by rw [eU5]; exact Xi_ne (by omega))))
        have w76 : 0 ≤ Xi S 904 65 ∧ Xi S 904 65 ≤ 1 := hH.c _ _
        have w77 : Xi U8 904 69 = Xi S 904 69 := (show Xi U8 904 69 = Xi U6 904 69 from by rw [eU8]; exact Xi_ne (by omega)).trans ( (show Xi U6 904 69 = Xi U5 904 69 from by rw [eU6]; exact Xi_ne (by omega)).trans ((show Xi U5 904 69 = Xi S 904 69 from by rw [eU5]; exact Xi_ne (by omega))))
        have w78 : 0 ≤ Xi S 904 69 ∧ Xi S 904 69 ≤ 2600 := hH.c _ _
        have w79 : Xi U8 904 78 = Xi S 904 78 := (show Xi U8 904 78 = Xi U6 904 78 from by rw [eU8]; exact Xi_ne (by omega)).trans ( (show Xi U6 904 78 = Xi U5 904 78 from by rw [eU6]; exact Xi_ne (by omega)).trans ((show Xi U5 904 78 = Xi S 904 78 from by rw [eU5]; exact Xi_ne (by omega))))
        have w80 : -2 ≤ Xi S 904 78 ∧ Xi S 904 78 ≤ 5010 := hH.c _ _
        have w81 : 0 ≤ Xi U8 904 8 ∧ Xi U8 904 8 ≤ 5010 := hHU8.c _ _
        have w82 : Xi U8 904 93 = Xi S 904 93 := (show Xi U8 904 93 = Xi U6 904 93 from by rw [eU8]; exact Xi_ne (by omega)).trans ( (show Xi U6 904 93 = Xi U5 904 93 from by rw [eU6]; exact Xi_ne (by omega)).trans ((show Xi U5 904 93 = Xi S 904 93 from by rw [eU5]; exact Xi_ne (by omega))))
        have w83 : 0 ≤ Xi S 904 93 ∧ Xi S 904 93 ≤ 1700 := hH.c _ _
        exact Rl_weak (C147 U8 hHU8 hFU8  (t144.1) (by first | assumption | exact (RNV_FR (FR_e eU8) rfl (RNV_FR (FR_e eU6) rfl (RNV_FR (FR_e eU5) rfl (by assumption : RNV S _))))) (by omega) (by omega) (by omega) (by omega) (by omega) ((KT_FR (FR_e eU8) rfl (KT.w (KT.w KT.rf eU5 (by omega)) eU6 (by omega))))) (And.intro rfl (True.intro))
    · refine l_aload_n rfl rfl ?_
      refine l_bipush rfl rfl ?_
      have w84 : Xi U5 904 65 = Xi S 904 65 := (show Xi U5 904 65 = Xi S 904 65 from by rw [eU5]; exact Xi_ne (by omega))
      have w85 : 0 ≤ Xi S 904 65 ∧ Xi S 904 65 ≤ 1 := hH.c _ _
      have w86 : Xi U5 904 69 = Xi S 904 69 := (show Xi U5 904 69 = Xi S 904 69 from by rw [eU5]; exact Xi_ne (by omega))
      have w87 : 0 ≤ Xi S 904 69 ∧ Xi S 904 69 ≤ 2600 := hH.c _ _
      have w88 : Xi U5 904 78 = Xi S 904 78 := (show Xi U5 904 78 = Xi S 904 78 from by rw [eU5]; exact Xi_ne (by omega))
      have w89 : -2 ≤ Xi S 904 78 ∧ Xi S 904 78 ≤ 5010 := hH.c _ _
      have w90 : Xi U5 904 8 = Xi S 904 8 := (show Xi U5 904 8 = Xi S 904 8 from by rw [eU5]; exact Xi_ne (by omega))
      have w91 : 0 ≤ Xi S 904 8 ∧ Xi S 904 8 ≤ 5010 := hH.c _ _
      have w92 : Xi U5 904 93 = Xi S 904 93 := (show Xi U5 904 93 = Xi S 904 93 from by rw [eU5]; exact Xi_ne (by omega))
      have w93 : 0 ≤ Xi S 904 93 ∧ Xi S 904 93 ≤ 1700 := hH.c _ _
      refine l_callV rfl rfl rfl (t_mo_isNext hHU5 n c 106 ⟨by omega, by omega⟩ (by first | assumption | exact (TK_FR hFU5 rfl (by assumption : TK S _))) (by first | assumption | exact (AT_FR (FR_e eU5) rfl (by assumption : AT S _ _))) _) ?_
      rintro _ _ ⟨rfl, z96, rfl, w96, w94, w95⟩
      show Rl _ _ _ _ _ [iv z96, iv (Xi S 904 93), .ref 953] _ _
      have i109 : z96 = 1 → Xi S 904 65 = 0 ∧ Xi S 907 (Xi S 904 8).toNat = 106 := fun q => by have t := (by assumption : z96 = 1 → Xi U5 904 65 = 0 ∧ Xi U5 907 (Xi U5 904 8).toNat = 106) q; rw [show Xi U5 904 8 = Xi S 904 8 by omega, (hFU5.cx 907 rfl _).1] at t; exact ⟨by omega, t.2⟩
      refine l_if_eq rfl rfl (by unfold rg; omega) (fun w97 => ?_) (fun w98 => ?_)
      · refine l_iconst rfl ?_
        refine l_bastoreZ1 (n := 1700) rfl rfl (by omega) (by omega) (by unfold rg; omega) ⟨by omega, by omega⟩ ?_
        obtain ⟨U9, eU9⟩ : ∃ T : sS, T = uI U5 953 (((Xi S 904 93)).toNat) (Int32.ofInt 0) := ⟨_, rfl⟩
        rw [← eU9]
        have hHU9 : HI U9 := by rw [eU9]; exact HI_w hHU5 (show 0 ≤ 0 by omega) (show 0 ≤ 1 by omega)
        have hFU9 : FR md_mo_testedWhat S U9 := by rw [eU9]; exact FR.wI hFU5 (mdf_i (r := (953, 954, 0, 100000)) (List.mem_of_getElem? (i := 8) rfl) (inR_i (by omega) (by omega) (by omega) (by omega)))
        have w99 : Xi U9 953 (((Xi S 904 93)).toNat) = 0 := by rw [eU9]; exact Xi_same (by unfold rg; omega)
        have s120_8 : Xi U9 904 8 = Xi U5 904 8 := by rw [eU9, Xi_ne (by omega)]
        have s120_65 : Xi U9 904 65 = Xi U5 904 65 := by rw [eU9, Xi_ne (by omega)]
        have s120_69 : Xi U9 904 69 = Xi U5 904 69 := by rw [eU9, Xi_ne (by omega)]
        have s120_93 : Xi U9 904 93 = Xi U5 904 93 := by rw [eU9, Xi_ne (by omega)]
        have i120 : Xi U9 953 (Xi S 904 93).toNat ≠ 0 → Xi U9 904 65 = 0 ∧ Xi U9 907 (Xi U9 904 8).toNat ≠ 1 := fun q => by rw [(hFU9.cx 907 rfl _).1, show Xi U9 904 8 = Xi S 904 8 by omega]; omega
        refine l_aload_n rfl rfl ?_
        refine l_dup rfl rfl ?_
        refine l_gfi rfl rfl rfl rfl rfl ?_
        have w100 : (Xi U9 904 8) = (Xi S 904 8) := (show Xi U9 904 8 = Xi U5 904 8 from by rw [eU9]; exact Xi_ne (by omega)).trans ((show Xi U5 904 8 = Xi S 904 8 from by rw [eU5]; exact Xi_ne (by omega)))
        rw [w100]
        refine l_aload_n rfl rfl ?_
        refine l_gfr rfl rfl rfl rfl rfl (hHU9.r 904 83 953 rfl) ?_
        refine l_aload_n rfl rfl ?_
        refine l_gfi rfl rfl rfl rfl rfl ?_
        have w101 : (Xi U9 904 93) = (Xi S 904 93) := (show Xi U9 904 93 = Xi U5 904 93 from by rw [eU9]; exact Xi_ne (by omega)).trans ((show Xi U5 904 93 = Xi S 904 93 from by rw [eU5]; exact Xi_ne (by omega)))
        rw [w101]
        refine l_baload (n := 1700) rfl rfl rfl (by decide) (by omega) (by omega) (by unfold rg; omega) ?_
        refine l_if_eq rfl rfl (by unfold rg; omega) (fun w102 => ?_) (fun w103 => ?_)
        · refine l_iconst rfl ?_
          refine l_iadd rfl ?_
          refine l_pfi rfl rfl rfl rfl ?_
          obtain ⟨U10, eU10⟩ : ∃ T : sS, T = uI U9 904 8 (Int32.ofInt ((Xi S 904 8) + 0)) := ⟨_, rfl⟩
          rw [← eU10]
          have hHU10 : HI U10 := by rw [eU10]; exact HI_w hHU9 (show 0 ≤ ((Xi S 904 8) + 0) by omega) (show ((Xi S 904 8) + 0) ≤ 5010 by omega)
          have hFU10 : FR md_mo_testedWhat S U10 := by rw [eU10]; exact FR.wI hFU9 (mdf_i (r := (904, 905, 8, 9)) (List.mem_of_getElem? (i := 0) rfl) (inR_i (by omega) (by omega) (by omega) (by omega)))
          have w104 : Xi U10 904 8 = ((Xi S 904 8) + 0) := by rw [eU10]; exact Xi_same (by unfold rg; omega)
          have t144 : AT U10 n c ∧ Xi U9 904 8 ≤ Xi U10 904 8 ∧ (Xi U10 904 8 ≤ n ∨ Xi U10 904 8 = Xi U9 904 8) := at_opt (TK_FR hFU9 rfl hT) (at_fr hA (fun j => (hFU9.cx 907 rfl j).1) (fun j => (hFU9.cx 908 rfl j).1) (by omega) (by omega) (by omega) (by omega)) eU10 (by omega) (by omega)
          have w105 : Xi U10 952 (Xi S 904 93).toNat = Xi U5 952 (Xi S 904 93).toNat := (show Xi U10 952 (Xi S 904 93).toNat = Xi U9 952 (Xi S 904 93).toNat from by rw [eU10]; exact Xi_ne (by omega)).trans ((show Xi U9 952 (Xi S 904 93).toNat = Xi U5 952 (Xi S 904 93).toNat from by rw [eU9]; exact Xi_ne (by omega)))
          have w106 : Xi U10 957 (Xi S 904 93).toNat = Xi S 957 (Xi S 904 93).toNat := (show Xi U10 957 (Xi S 904 93).toNat = Xi U9 957 (Xi S 904 93).toNat from by rw [eU10]; exact Xi_ne (by omega)).trans ( (show Xi U9 957 (Xi S 904 93).toNat = Xi U5 957 (Xi S 904 93).toNat from by rw [eU9]; exact Xi_ne (by omega)).trans ((show Xi U5 957 (Xi S 904 93).toNat = Xi S 957 (Xi S 904 93).toNat from by rw [eU5]; exact Xi_ne (by omega))))
          have w107 : Xi U10 960 (Xi S 904 93).toNat = Xi S 960 (Xi S 904 93).toNat := (show Xi U10 960 (Xi S 904 93).toNat = Xi U9 960 (Xi S 904 93).toNat from by rw [eU10]; exact Xi_ne (by omega)).trans ( (show Xi U9 960 (Xi S 904 93).toNat = Xi U5 960 (Xi S 904 93).toNat from by rw [eU9]; exact Xi_ne (by omega)).trans ((show Xi U5 960 (Xi S 904 93).toNat = Xi S 960 (Xi S 904 93).toNat from by rw [eU5]; exact Xi_ne (by omega))))
          have w108 : Xi U10 904 65 = Xi S 904 65 := (show Xi U10 904 65 = Xi U9 904 65 from by rw [eU10]; exact Xi_ne (by omega)).trans ( (show Xi U9 904 65 = Xi U5 904 65 from by rw [eU9]; exact Xi_ne (by omega)).trans ((show Xi U5 904 65 = Xi S 904 65 from by rw [eU5]; exact Xi_ne (by omega))))
          have w109 : 0 ≤ Xi S 904 65 ∧ Xi S 904 65 ≤ 1 := hH.c _ _
          have w110 : Xi U10 904 69 = Xi S 904 69 := (show Xi U10 904 69 = Xi U9 904 69 from by rw [eU10]; exact Xi_ne (by omega)).trans ( (show Xi U9 904 69 = Xi U5 904 69 from by rw [eU9]; exact Xi_ne (by omega)).trans ((show Xi U5 904 69 = Xi S 904 69 from by rw [eU5]; exact Xi_ne (by omega))))
          have w111 : 0 ≤ Xi S 904 69 ∧ Xi S 904 69 ≤ 2600 := hH.c _ _
          have w112 : Xi U10 904 78 = Xi S 904 78 := (show Xi U10 904 78 = Xi U9 904 78 from by rw [eU10]; exact Xi_ne (by omega)).trans ( (show Xi U9 904 78 = Xi U5 904 78 from by rw [eU9]; exact Xi_ne (by omega)).trans ((show Xi U5 904 78 = Xi S 904 78 from by rw [eU5]; exact Xi_ne (by omega))))
          have w113 : -2 ≤ Xi S 904 78 ∧ Xi S 904 78 ≤ 5010 := hH.c _ _
          have w114 : 0 ≤ Xi U10 904 8 ∧ Xi U10 904 8 ≤ 5010 := hHU10.c _ _
          have w115 : Xi U10 904 93 = Xi S 904 93 := (show Xi U10 904 93 = Xi U9 904 93 from by rw [eU10]; exact Xi_ne (by omega)).trans ( (show Xi U9 904 93 = Xi U5 904 93 from by rw [eU9]; exact Xi_ne (by omega)).trans ((show Xi U5 904 93 = Xi S 904 93 from by rw [eU5]; exact Xi_ne (by omega))))
          have w116 : 0 ≤ Xi S 904 93 ∧ Xi S 904 93 ≤ 1700 := hH.c _ _
          exact Rl_weak (C147 U10 hHU10 hFU10  (t144.1) (by first | assumption | exact (RNV_FR (FR_e eU10) rfl (RNV_FR (FR_e eU9) rfl (RNV_FR (FR_e eU5) rfl (by assumption : RNV S _))))) (by omega) (by omega) (by omega) (by omega) (by omega) ((KT_FR (FR_e eU10) rfl (KT.w (KT.w KT.rf eU5 (by omega)) eU9 (by omega))))) (And.intro rfl (True.intro))
        · refine l_iconst rfl ?_
          refine l_goto rfl rfl ?_
          refine l_iadd rfl ?_
          refine l_pfi rfl rfl rfl rfl ?_
          obtain ⟨U11, eU11⟩ : ∃ T : sS, T = uI U9 904 8 (Int32.ofInt ((Xi S 904 8) + 1)) := ⟨_, rfl⟩
          rw [← eU11]
          have hHU11 : HI U11 := by rw [eU11]; exact HI_w hHU9 (show 0 ≤ ((Xi S 904 8) + 1) by omega) (show ((Xi S 904 8) + 1) ≤ 5010 by omega)
          have hFU11 : FR md_mo_testedWhat S U11 := by rw [eU11]; exact FR.wI hFU9 (mdf_i (r := (904, 905, 8, 9)) (List.mem_of_getElem? (i := 0) rfl) (inR_i (by omega) (by omega) (by omega) (by omega)))
          have w117 : Xi U11 904 8 = ((Xi S 904 8) + 1) := by rw [eU11]; exact Xi_same (by unfold rg; omega)
          have t144 : AT U11 n c ∧ Xi U9 904 8 ≤ Xi U11 904 8 ∧ (Xi U11 904 8 ≤ n ∨ Xi U11 904 8 = Xi U9 904 8) := at_opt (TK_FR hFU9 rfl hT) (at_fr hA (fun j => (hFU9.cx 907 rfl j).1) (fun j => (hFU9.cx 908 rfl j).1) (by omega) (by omega) (by omega) (by omega)) eU11 (by omega) (by omega)
          have w118 : Xi U11 952 (Xi S 904 93).toNat = Xi U5 952 (Xi S 904 93).toNat := (show Xi U11 952 (Xi S 904 93).toNat = Xi U9 952 (Xi S 904 93).toNat from by rw [eU11]; exact Xi_ne (by omega)).trans ((show Xi U9 952 (Xi S 904 93).toNat = Xi U5 952 (Xi S 904 93).toNat from by rw [eU9]; exact Xi_ne (by omega)))
          have w119 : Xi U11 957 (Xi S 904 93).toNat = Xi S 957 (Xi S 904 93).toNat := (show Xi U11 957 (Xi S 904 93).toNat = Xi U9 957 (Xi S 904 93).toNat from by rw [eU11]; exact Xi_ne (by omega)).trans ( (show Xi U9 957 (Xi S 904 93).toNat = Xi U5 957 (Xi S 904 93).toNat from by rw [eU9]; exact Xi_ne (by omega)).trans ((show Xi U5 957 (Xi S 904 93).toNat = Xi S 957 (Xi S 904 93).toNat from by rw [eU5]; exact Xi_ne (by omega))))
          have w120 : Xi U11 960 (Xi S 904 93).toNat = Xi S 960 (Xi S 904 93).toNat := (show Xi U11 960 (Xi S 904 93).toNat = Xi U9 960 (Xi S 904 93).toNat from by rw [eU11]; exact Xi_ne (by omega)).trans ( (show Xi U9 960 (Xi S 904 93).toNat = Xi U5 960 (Xi S 904 93).toNat from by rw [eU9]; exact Xi_ne (by omega)).trans ((show Xi U5 960 (Xi S 904 93).toNat = Xi S 960 (Xi S 904 93).toNat from by rw [eU5]; exact Xi_ne (by omega))))
          have w121 : Xi U11 904 65 = Xi S 904 65 := (show Xi U11 904 65 = Xi U9 904 65 from by rw [eU11]; exact Xi_ne (by omega)).trans ( (show Xi U9 904 65 = Xi U5 904 65 from by rw [eU9]; exact Xi_ne (by omega)).trans ((show Xi U5 904 65 = Xi S 904 65 from by rw [eU5]; exact Xi_ne (by omega))))
          have w122 : 0 ≤ Xi S 904 65 ∧ Xi S 904 65 ≤ 1 := hH.c _ _
          have w123 : Xi U11 904 69 = Xi S 904 69 := (show Xi U11 904 69 = Xi U9 904 69 from by rw [eU11]; exact Xi_ne (by omega)).trans ( (show Xi U9 904 69 = Xi U5 904 69 from by rw [eU9]; exact Xi_ne (by omega)).trans ((show Xi U5 904 69 = Xi S 904 69 from by rw [eU5]; exact Xi_ne (by omega))))
          have w124 : 0 ≤ Xi S 904 69 ∧ Xi S 904 69 ≤ 2600 := hH.c _ _
          have w125 : Xi U11 904 78 = Xi S 904 78 := (show Xi U11 904 78 = Xi U9 904 78 from by rw [eU11]; exact Xi_ne (by omega)).trans ( (show Xi U9 904 78 = Xi U5 904 78 from by rw [eU9]; exact Xi_ne (by omega)).trans ((show Xi U5 904 78 = Xi S 904 78 from by rw [eU5]; exact Xi_ne (by omega))))
          have w126 : -2 ≤ Xi S 904 78 ∧ Xi S 904 78 ≤ 5010 := hH.c _ _
          have w127 : 0 ≤ Xi U11 904 8 ∧ Xi U11 904 8 ≤ 5010 := hHU11.c _ _
          have w128 : Xi U11 904 93 = Xi S 904 93 := (show Xi U11 904 93 = Xi U9 904 93 from by rw [eU11]; exact Xi_ne (by omega)).trans ( (show Xi U9 904 93 = Xi U5 904 93 from by rw [eU9]; exact Xi_ne (by omega)).trans ((show Xi U5 904 93 = Xi S 904 93 from by rw [eU5]; exact Xi_ne (by omega))))
          have w129 : 0 ≤ Xi S 904 93 ∧ Xi S 904 93 ≤ 1700 := hH.c _ _
          exact Rl_weak (C147 U11 hHU11 hFU11  (t144.1) (by first | assumption | exact (RNV_FR (FR_e eU11) rfl (RNV_FR (FR_e eU9) rfl (RNV_FR (FR_e eU5) rfl (by assumption : RNV S _))))) (by omega) (by omega) (by omega) (by omega) (by omega) ((KT_FR (FR_e eU11) rfl (KT.w (KT.w KT.rf eU5 (by omega)) eU9 (by omega))))) (And.intro rfl (True.intro))
      · refine l_iconst rfl ?_
        refine l_goto rfl rfl ?_
        refine l_bastoreZ1 (n := 1700) rfl rfl (by omega) (by omega) (by unfold rg; omega) ⟨by omega, by omega⟩ ?_
        obtain ⟨U12, eU12⟩ : ∃ T : sS, T = uI U5 953 (((Xi S 904 93)).toNat) (Int32.ofInt 1) := ⟨_, rfl⟩
        rw [← eU12]
        have hHU12 : HI U12 := by rw [eU12]; exact HI_w hHU5 (show 0 ≤ 1 by omega) (show 1 ≤ 1 by omega)
        have hFU12 : FR md_mo_testedWhat S U12 := by rw [eU12]; exact FR.wI hFU5 (mdf_i (r := (953, 954, 0, 100000)) (List.mem_of_getElem? (i := 8) rfl) (inR_i (by omega) (by omega) (by omega) (by omega)))
        have w130 : Xi U12 953 (((Xi S 904 93)).toNat) = 1 := by rw [eU12]; exact Xi_same (by unfold rg; omega)
        have s120_8 : Xi U12 904 8 = Xi U5 904 8 := by rw [eU12, Xi_ne (by omega)]
        have s120_65 : Xi U12 904 65 = Xi U5 904 65 := by rw [eU12, Xi_ne (by omega)]
        have s120_69 : Xi U12 904 69 = Xi U5 904 69 := by rw [eU12, Xi_ne (by omega)]
        have s120_93 : Xi U12 904 93 = Xi U5 904 93 := by rw [eU12, Xi_ne (by omega)]
        have i120 : Xi U12 953 (Xi S 904 93).toNat ≠ 0 → Xi U12 904 65 = 0 ∧ Xi U12 907 (Xi U12 904 8).toNat ≠ 1 := fun q => by rw [(hFU12.cx 907 rfl _).1, show Xi U12 904 8 = Xi S 904 8 by omega]; omega
        refine l_aload_n rfl rfl ?_
        refine l_dup rfl rfl ?_
        refine l_gfi rfl rfl rfl rfl rfl ?_
        have w131 : (Xi U12 904 8) = (Xi S 904 8) := (show Xi U12 904 8 = Xi U5 904 8 from by rw [eU12]; exact Xi_ne (by omega)).trans ((show Xi U5 904 8 = Xi S 904 8 from by rw [eU5]; exact Xi_ne (by omega)))
        rw [w131]
        refine l_aload_n rfl rfl ?_
        refine l_gfr rfl rfl rfl rfl rfl (hHU12.r 904 83 953 rfl) ?_
        refine l_aload_n rfl rfl ?_
        refine l_gfi rfl rfl rfl rfl rfl ?_
        have w132 : (Xi U12 904 93) = (Xi S 904 93) := (show Xi U12 904 93 = Xi U5 904 93 from by rw [eU12]; exact Xi_ne (by omega)).trans ((show Xi U5 904 93 = Xi S 904 93 from by rw [eU5]; exact Xi_ne (by omega)))
        rw [w132]
        refine l_baload (n := 1700) rfl rfl rfl (by decide) (by omega) (by omega) (by unfold rg; omega) ?_
        refine l_if_eq rfl rfl (by unfold rg; omega) (fun w133 => ?_) (fun w134 => ?_)
        · refine l_iconst rfl ?_
          refine l_iadd rfl ?_
          refine l_pfi rfl rfl rfl rfl ?_
          obtain ⟨U13, eU13⟩ : ∃ T : sS, T = uI U12 904 8 (Int32.ofInt ((Xi S 904 8) + 0)) := ⟨_, rfl⟩
          rw [← eU13]
          have hHU13 : HI U13 := by rw [eU13]; exact HI_w hHU12 (show 0 ≤ ((Xi S 904 8) + 0) by omega) (show ((Xi S 904 8) + 0) ≤ 5010 by omega)
          have hFU13 : FR md_mo_testedWhat S U13 := by rw [eU13]; exact FR.wI hFU12 (mdf_i (r := (904, 905, 8, 9)) (List.mem_of_getElem? (i := 0) rfl) (inR_i (by omega) (by omega) (by omega) (by omega)))
          have w135 : Xi U13 904 8 = ((Xi S 904 8) + 0) := by rw [eU13]; exact Xi_same (by unfold rg; omega)
          have t144 : AT U13 n c ∧ Xi U12 904 8 ≤ Xi U13 904 8 ∧ (Xi U13 904 8 ≤ n ∨ Xi U13 904 8 = Xi U12 904 8) := at_opt (TK_FR hFU12 rfl hT) (at_fr hA (fun j => (hFU12.cx 907 rfl j).1) (fun j => (hFU12.cx 908 rfl j).1) (by omega) (by omega) (by omega) (by omega)) eU13 (by omega) (by omega)
          have w136 : Xi U13 952 (Xi S 904 93).toNat = Xi U5 952 (Xi S 904 93).toNat := (show Xi U13 952 (Xi S 904 93).toNat = Xi U12 952 (Xi S 904 93).toNat from by rw [eU13]; exact Xi_ne (by omega)).trans ((show Xi U12 952 (Xi S 904 93).toNat = Xi U5 952 (Xi S 904 93).toNat from by rw [eU12]; exact Xi_ne (by omega)))
          have w137 : Xi U13 957 (Xi S 904 93).toNat = Xi S 957 (Xi S 904 93).toNat := (show Xi U13 957 (Xi S 904 93).toNat = Xi U12 957 (Xi S 904 93).toNat from by rw [eU13]; exact Xi_ne (by omega)).trans ( (show Xi U12 957 (Xi S 904 93).toNat = Xi U5 957 (Xi S 904 93).toNat from by rw [eU12]; exact Xi_ne (by omega)).trans ((show Xi U5 957 (Xi S 904 93).toNat = Xi S 957 (Xi S 904 93).toNat from by rw [eU5]; exact Xi_ne (by omega))))
          have w138 : Xi U13 960 (Xi S 904 93).toNat = Xi S 960 (Xi S 904 93).toNat := (show Xi U13 960 (Xi S 904 93).toNat = Xi U12 960 (Xi S 904 93).toNat from by rw [eU13]; exact Xi_ne (by omega)).trans ( (show Xi U12 960 (Xi S 904 93).toNat = Xi U5 960 (Xi S 904 93).toNat from by rw [eU12]; exact Xi_ne (by omega)).trans ((show Xi U5 960 (Xi S 904 93).toNat = Xi S 960 (Xi S 904 93).toNat from by rw [eU5]; exact Xi_ne (by omega))))
          have w139 : Xi U13 904 65 = Xi S 904 65 := (show Xi U13 904 65 = Xi U12 904 65 from by rw [eU13]; exact Xi_ne (by omega)).trans ( (show Xi U12 904 65 = Xi U5 904 65 from by rw [eU12]; exact Xi_ne (by omega)).trans ((show Xi U5 904 65 = Xi S 904 65 from by rw [eU5]; exact Xi_ne (by omega))))
          have w140 : 0 ≤ Xi S 904 65 ∧ Xi S 904 65 ≤ 1 := hH.c _ _
          have w141 : Xi U13 904 69 = Xi S 904 69 := (show Xi U13 904 69 = Xi U12 904 69 from by rw [eU13]; exact Xi_ne (by omega)).trans ( (show Xi U12 904 69 = Xi U5 904 69 from by rw [eU12]; exact Xi_ne (by omega)).trans ((show Xi U5 904 69 = Xi S 904 69 from by rw [eU5]; exact Xi_ne (by omega))))
          have w142 : 0 ≤ Xi S 904 69 ∧ Xi S 904 69 ≤ 2600 := hH.c _ _
          have w143 : Xi U13 904 78 = Xi S 904 78 := (show Xi U13 904 78 = Xi U12 904 78 from by rw [eU13]; exact Xi_ne (by omega)).trans ( (show Xi U12 904 78 = Xi U5 904 78 from by rw [eU12]; exact Xi_ne (by omega)).trans ((show Xi U5 904 78 = Xi S 904 78 from by rw [eU5]; exact Xi_ne (by omega))))
          have w144 : -2 ≤ Xi S 904 78 ∧ Xi S 904 78 ≤ 5010 := hH.c _ _
          have w145 : 0 ≤ Xi U13 904 8 ∧ Xi U13 904 8 ≤ 5010 := hHU13.c _ _
          have w146 : Xi U13 904 93 = Xi S 904 93 := (show Xi U13 904 93 = Xi U12 904 93 from by rw [eU13]; exact Xi_ne (by omega)).trans ( (show Xi U12 904 93 = Xi U5 904 93 from by rw [eU12]; exact Xi_ne (by omega)).trans ((show Xi U5 904 93 = Xi S 904 93 from by rw [eU5]; exact Xi_ne (by omega))))
          have w147 : 0 ≤ Xi S 904 93 ∧ Xi S 904 93 ≤ 1700 := hH.c _ _
          exact Rl_weak (C147 U13 hHU13 hFU13  (t144.1) (by first | assumption | exact (RNV_FR (FR_e eU13) rfl (RNV_FR (FR_e eU12) rfl (RNV_FR (FR_e eU5) rfl (by assumption : RNV S _))))) (by omega) (by omega) (by omega) (by omega) (by omega) ((KT_FR (FR_e eU13) rfl (KT.w (KT.w KT.rf eU5 (by omega)) eU12 (by omega))))) (And.intro rfl (True.intro))
        · refine l_iconst rfl ?_
          refine l_goto rfl rfl ?_
          refine l_iadd rfl ?_
          refine l_pfi rfl rfl rfl rfl ?_
          obtain ⟨U14, eU14⟩ : ∃ T : sS, T = uI U12 904 8 (Int32.ofInt ((Xi S 904 8) + 1)) := ⟨_, rfl⟩
          rw [← eU14]
          have hHU14 : HI U14 := by rw [eU14]; exact HI_w hHU12 (show 0 ≤ ((Xi S 904 8) + 1) by omega) (show ((Xi S 904 8) + 1) ≤ 5010 by omega)
          have hFU14 : FR md_mo_testedWhat S U14 := by rw [eU14]; exact FR.wI hFU12 (mdf_i (r := (904, 905, 8, 9)) (List.mem_of_getElem? (i := 0) rfl) (inR_i (by omega) (by omega) (by omega) (by omega)))
          have w148 : Xi U14 904 8 = ((Xi S 904 8) + 1) := by rw [eU14]; exact Xi_same (by unfold rg; omega)
          have t144 : AT U14 n c ∧ Xi U12 904 8 ≤ Xi U14 904 8 ∧ (Xi U14 904 8 ≤ n ∨ Xi U14 904 8 = Xi U12 904 8) := at_opt (TK_FR hFU12 rfl hT) (at_fr hA (fun j => (hFU12.cx 907 rfl j).1) (fun j => (hFU12.cx 908 rfl j).1) (by omega) (by omega) (by omega) (by omega)) eU14 (by omega) (by omega)
          have w149 : Xi U14 952 (Xi S 904 93).toNat = Xi U5 952 (Xi S 904 93).toNat := (show Xi U14 952 (Xi S 904 93).toNat = Xi U12 952 (Xi S 904 93).toNat from by rw [eU14]; exact Xi_ne (by omega)).trans ((show Xi U12 952 (Xi S 904 93).toNat = Xi U5 952 (Xi S 904 93).toNat from by rw [eU12]; exact Xi_ne (by omega)))
          have w150 : Xi U14 957 (Xi S 904 93).toNat = Xi S 957 (Xi S 904 93).toNat := (show Xi U14 957 (Xi S 904 93).toNat = Xi U12 957 (Xi S 904 93).toNat from by rw [eU14]; exact Xi_ne (by omega)).trans ( (show Xi U12 957 (Xi S 904 93).toNat = Xi U5 957 (Xi S 904 93).toNat from by rw [eU12]; exact Xi_ne (by omega)).trans ((show Xi U5 957 (Xi S 904 93).toNat = Xi S 957 (Xi S 904 93).toNat from by rw [eU5]; exact Xi_ne (by omega))))
          have w151 : Xi U14 960 (Xi S 904 93).toNat = Xi S 960 (Xi S 904 93).toNat := (show Xi U14 960 (Xi S 904 93).toNat = Xi U12 960 (Xi S 904 93).toNat from by rw [eU14]; exact Xi_ne (by omega)).trans ( (show Xi U12 960 (Xi S 904 93).toNat = Xi U5 960 (Xi S 904 93).toNat from by rw [eU12]; exact Xi_ne (by omega)).trans ((show Xi U5 960 (Xi S 904 93).toNat = Xi S 960 (Xi S 904 93).toNat from by rw [eU5]; exact Xi_ne (by omega))))
          have w152 : Xi U14 904 65 = Xi S 904 65 := (show Xi U14 904 65 = Xi U12 904 65 from by rw [eU14]; exact Xi_ne (by omega)).trans ( (show Xi U12 904 65 = Xi U5 904 65 from by rw [eU12]; exact Xi_ne (by omega)).trans ((show Xi U5 904 65 = Xi S 904 65 from by rw [eU5]; exact Xi_ne (by omega))))
          have w153 : 0 ≤ Xi S 904 65 ∧ Xi S 904 65 ≤ 1 := hH.c _ _
          have w154 : Xi U14 904 69 = Xi S 904 69 := (show Xi U14 904 69 = Xi U12 904 69 from by rw [eU14]; exact Xi_ne (by omega)).trans ( (show Xi U12 904 69 = Xi U5 904 69 from by rw [eU12]; exact Xi_ne (by omega)).trans ((show Xi U5 904 69 = Xi S 904 69 from by rw [eU5]; exact Xi_ne (by omega))))
          have w155 : 0 ≤ Xi S 904 69 ∧ Xi S 904 69 ≤ 2600 := hH.c _ _
          have w156 : Xi U14 904 78 = Xi S 904 78 := (show Xi U14 904 78 = Xi U12 904 78 from by rw [eU14]; exact Xi_ne (by omega)).trans ( (show Xi U12 904 78 = Xi U5 904 78 from by rw [eU12]; exact Xi_ne (by omega)).trans ((show Xi U5 904 78 = Xi S 904 78 from by rw [eU5]; exact Xi_ne (by omega))))
          have w157 : -2 ≤ Xi S 904 78 ∧ Xi S 904 78 ≤ 5010 := hH.c _ _
          have w158 : 0 ≤ Xi U14 904 8 ∧ Xi U14 904 8 ≤ 5010 := hHU14.c _ _
          have w159 : Xi U14 904 93 = Xi S 904 93 := (show Xi U14 904 93 = Xi U12 904 93 from by rw [eU14]; exact Xi_ne (by omega)).trans ( (show Xi U12 904 93 = Xi U5 904 93 from by rw [eU12]; exact Xi_ne (by omega)).trans ((show Xi U5 904 93 = Xi S 904 93 from by rw [eU5]; exact Xi_ne (by omega))))
          have w160 : 0 ≤ Xi S 904 93 ∧ Xi S 904 93 ≤ 1700 := hH.c _ _
          exact Rl_weak (C147 U14 hHU14 hFU14  (t144.1) (by first | assumption | exact (RNV_FR (FR_e eU14) rfl (RNV_FR (FR_e eU12) rfl (RNV_FR (FR_e eU5) rfl (by assumption : RNV S _))))) (by omega) (by omega) (by omega) (by omega) (by omega) ((KT_FR (FR_e eU14) rfl (KT.w (KT.w KT.rf eU5 (by omega)) eU12 (by omega))))) (And.intro rfl (True.intro))
  · refine l_aload_n rfl rfl ?_
    refine l_sipush rfl rfl ?_
    have w161 : 0 ≤ Xi S 904 65 ∧ Xi S 904 65 ≤ 1 := hH.c _ _
    have w162 : 0 ≤ Xi S 904 69 ∧ Xi S 904 69 ≤ 2600 := hH.c _ _
    have w163 : -2 ≤ Xi S 904 78 ∧ Xi S 904 78 ≤ 5010 := hH.c _ _
    have w164 : 0 ≤ Xi S 904 8 ∧ Xi S 904 8 ≤ 5010 := hH.c _ _
    have w165 : 0 ≤ Xi S 904 93 ∧ Xi S 904 93 ≤ 1700 := hH.c _ _
    refine l_callV rfl rfl rfl (t_mo_isNext hH n c 151 ⟨by omega, by omega⟩ (by first | assumption | exact (TK_FR hF rfl (by assumption : TK S _))) (by first | assumption | exact (by assumption : AT S _ _)) _) ?_
    rintro _ _ ⟨rfl, z168, rfl, w168, w166, w167⟩
    show Rl _ _ _ _ _ [iv z168] _ _
    have i8 : z168 = 1 → Xi S 904 65 = 0 ∧ Xi S 907 (Xi S 904 8).toNat = 151 := fun q => by have t := (by assumption : z168 = 1 → Xi S 904 65 = 0 ∧ Xi S 907 (Xi S 904 8).toNat = 151) q; rw [show Xi S 904 8 = Xi S 904 8 by omega, (hF.cx 907 rfl _).1] at t; exact ⟨by omega, t.2⟩
    refine l_if_ne rfl rfl (by unfold rg; omega) (fun w169 => ?_) (fun w170 => ?_)
    · refine l_aload_n rfl rfl ?_
      refine l_gfr rfl rfl rfl rfl rfl (hH.r 904 82 952 rfl) ?_
      refine l_aload_n rfl rfl ?_
      refine l_gfi rfl rfl rfl rfl rfl ?_
      refine l_aload_n rfl rfl ?_
      refine l_sipush rfl rfl ?_
      have w171 : 0 ≤ Xi S 904 65 ∧ Xi S 904 65 ≤ 1 := hH.c _ _
      have w172 : 0 ≤ Xi S 904 69 ∧ Xi S 904 69 ≤ 2600 := hH.c _ _
      have w173 : -2 ≤ Xi S 904 78 ∧ Xi S 904 78 ≤ 5010 := hH.c _ _
      have w174 : 0 ≤ Xi S 904 8 ∧ Xi S 904 8 ≤ 5010 := hH.c _ _
      have w175 : 0 ≤ Xi S 904 93 ∧ Xi S 904 93 ≤ 1700 := hH.c _ _
      refine l_callV rfl rfl rfl (t_mo_isNext hH n c 151 ⟨by omega, by omega⟩ (by first | assumption | exact (TK_FR hF rfl (by assumption : TK S _))) (by first | assumption | exact (by assumption : AT S _ _)) _) ?_
      rintro _ _ ⟨rfl, z178, rfl, w178, w176, w177⟩
      show Rl _ _ _ _ _ [iv z178, iv (Xi S 904 93), .ref 952] _ _
      refine l_if_eq rfl rfl (by unfold rg; omega) (fun w179 => ?_) (fun w180 => ?_)
      · refine l_iconst rfl ?_
        refine l_iastore (n := 1700) rfl rfl (by omega) (by omega) (by unfold rg; omega) ?_
        obtain ⟨U15, eU15⟩ : ∃ T : sS, T = uI S 952 (((Xi S 904 93)).toNat) (Int32.ofInt 2) := ⟨_, rfl⟩
        rw [← eU15]
        have hHU15 : HI U15 := by rw [eU15]; exact HI_w hH (show 0 ≤ 2 by omega) (show 2 ≤ 5 by omega)
        have hFU15 : FR md_mo_testedWhat S U15 := by rw [eU15]; exact FR.wI hF (mdf_i (r := (952, 953, 0, 100000)) (List.mem_of_getElem? (i := 7) rfl) (inR_i (by omega) (by omega) (by omega) (by omega)))
        have w181 : Xi U15 952 (((Xi S 904 93)).toNat) = 2 := by rw [eU15]; exact Xi_same (by unfold rg; omega)
        have s47_8 : Xi U15 904 8 = Xi S 904 8 := by rw [eU15, Xi_ne (by omega)]
        have s47_65 : Xi U15 904 65 = Xi S 904 65 := by rw [eU15, Xi_ne (by omega)]
        have s47_69 : Xi U15 904 69 = Xi S 904 69 := by rw [eU15, Xi_ne (by omega)]
        have s47_93 : Xi U15 904 93 = Xi S 904 93 := by rw [eU15, Xi_ne (by omega)]
        refine l_aload_n rfl rfl ?_
        refine l_dup rfl rfl ?_
        refine l_gfi rfl rfl rfl rfl rfl ?_
        have w182 : (Xi U15 904 8) = (Xi S 904 8) := (show Xi U15 904 8 = Xi S 904 8 from by rw [eU15]; exact Xi_ne (by omega))
        rw [w182]
        refine l_iconst rfl ?_
        refine l_iadd rfl ?_
        refine l_pfi rfl rfl rfl rfl ?_
        obtain ⟨U16, eU16⟩ : ∃ T : sS, T = uI U15 904 8 (Int32.ofInt ((Xi S 904 8) + 1)) := ⟨_, rfl⟩
        rw [← eU16]
        have hHU16 : HI U16 := by rw [eU16]; exact HI_w hHU15 (show 0 ≤ ((Xi S 904 8) + 1) by omega) (show ((Xi S 904 8) + 1) ≤ 5010 by omega)
        have hFU16 : FR md_mo_testedWhat S U16 := by rw [eU16]; exact FR.wI hFU15 (mdf_i (r := (904, 905, 8, 9)) (List.mem_of_getElem? (i := 0) rfl) (inR_i (by omega) (by omega) (by omega) (by omega)))
        have w183 : Xi U16 904 8 = ((Xi S 904 8) + 1) := by rw [eU16]; exact Xi_same (by unfold rg; omega)
        have t55 : AT U16 n c ∧ _ := at_mv hT hA (fun j => (hFU15.cx 907 rfl j).1) (fun j => (hFU15.cx 908 rfl j).1) (by omega) (by omega) (by omega) (by omega) eU16 (by omega) (by omega) (by omega) (by omega) (Or.inl rfl)
        have a55 : AT U16 n c := t55.1
        refine l_aload_n rfl rfl ?_
        refine l_sipush rfl rfl ?_
        have w184 : Xi U16 904 65 = Xi S 904 65 := (show Xi U16 904 65 = Xi U15 904 65 from by rw [eU16]; exact Xi_ne (by omega)).trans ((show Xi U15 904 65 = Xi S 904 65 from by rw [eU15]; exact Xi_ne (by omega)))
        have w185 : 0 ≤ Xi S 904 65 ∧ Xi S 904 65 ≤ 1 := hH.c _ _
        have w186 : Xi U16 904 69 = Xi S 904 69 := (show Xi U16 904 69 = Xi U15 904 69 from by rw [eU16]; exact Xi_ne (by omega)).trans ((show Xi U15 904 69 = Xi S 904 69 from by rw [eU15]; exact Xi_ne (by omega)))
        have w187 : 0 ≤ Xi S 904 69 ∧ Xi S 904 69 ≤ 2600 := hH.c _ _
        have w188 : Xi U16 904 78 = Xi S 904 78 := (show Xi U16 904 78 = Xi U15 904 78 from by rw [eU16]; exact Xi_ne (by omega)).trans ((show Xi U15 904 78 = Xi S 904 78 from by rw [eU15]; exact Xi_ne (by omega)))
        have w189 : -2 ≤ Xi S 904 78 ∧ Xi S 904 78 ≤ 5010 := hH.c _ _
        have w190 : 0 ≤ Xi U16 904 8 ∧ Xi U16 904 8 ≤ 5010 := hHU16.c _ _
        have w191 : Xi U16 904 93 = Xi S 904 93 := (show Xi U16 904 93 = Xi U15 904 93 from by rw [eU16]; exact Xi_ne (by omega)).trans ((show Xi U15 904 93 = Xi S 904 93 from by rw [eU15]; exact Xi_ne (by omega)))
        have w192 : 0 ≤ Xi S 904 93 ∧ Xi S 904 93 ≤ 1700 := hH.c _ _
        refine l_callV rfl rfl rfl (t_mo_take__2 hHU16 n c 150 ⟨by omega, by omega⟩ (by first | assumption | exact (TK_FR hFU16 rfl (by assumption : TK S _))) (by first | assumption | exact (by assumption : AT U16 _ _)) (by first | assumption | omega) _) ?_
        rintro _ T17 ⟨hHT17, w198, rfl, w193, w194, w195, w196⟩
        have hFT17 : FR md_mo_testedWhat S T17 := FR.tr hFU16 w198 rfl
        show Rl _ _ _ _ _ [] _ _
        refine l_aload_n rfl rfl ?_
        refine l_gfr rfl rfl rfl rfl rfl (hHT17.r 904 87 957 rfl) ?_
        refine l_aload_n rfl rfl ?_
        refine l_gfi rfl rfl rfl rfl rfl ?_
        have w199 : (Xi T17 904 93) = (Xi S 904 93) := (show Xi T17 904 93 = Xi U16 904 93 from w198.x _ _ rfl).trans ( (show Xi U16 904 93 = Xi U15 904 93 from by rw [eU16]; exact Xi_ne (by omega)).trans ((show Xi U15 904 93 = Xi S 904 93 from by rw [eU15]; exact Xi_ne (by omega))))
        rw [w199]
        refine l_aload_n rfl rfl ?_
        refine l_gfi rfl rfl rfl rfl rfl ?_
        have w200 : 0 ≤ (Xi T17 904 8) ∧ (Xi T17 904 8) ≤ 5010 := hHT17.c _ _
        refine l_iastore (n := 1700) rfl rfl (by omega) (by omega) (by unfold rg; omega) ?_
        obtain ⟨U18, eU18⟩ : ∃ T : sS, T = uI T17 957 (((Xi S 904 93)).toNat) (Int32.ofInt (Xi T17 904 8)) := ⟨_, rfl⟩
        rw [← eU18]
        have hHU18 : HI U18 := by rw [eU18]; exact HI_w hHT17 (show 0 ≤ (Xi T17 904 8) by omega) (show (Xi T17 904 8) ≤ 5010 by omega)
        have hFU18 : FR md_mo_testedWhat S U18 := by rw [eU18]; exact FR.wI hFT17 (mdf_i (r := (957, 958, 0, 100000)) (List.mem_of_getElem? (i := 9) rfl) (inR_i (by omega) (by omega) (by omega) (by omega)))
        have w201 : Xi U18 957 (((Xi S 904 93)).toNat) = (Xi T17 904 8) := by rw [eU18]; exact Xi_same (by unfold rg; omega)
        refine l_aload_n rfl rfl ?_
        refine l_iconst rfl ?_
        have w202 : Xi U18 904 65 = Xi T17 904 65 := (show Xi U18 904 65 = Xi T17 904 65 from by rw [eU18]; exact Xi_ne (by omega))
        have w203 : 0 ≤ Xi T17 904 65 ∧ Xi T17 904 65 ≤ 1 := hHT17.c _ _
        have w204 : Xi U18 904 69 = Xi S 904 69 := (show Xi U18 904 69 = Xi T17 904 69 from by rw [eU18]; exact Xi_ne (by omega)).trans ( (show Xi T17 904 69 = Xi U16 904 69 from w198.x _ _ rfl).trans ( (show Xi U16 904 69 = Xi U15 904 69 from by rw [eU16]; exact Xi_ne (by omega)).trans ((show Xi U15 904 69 = Xi S 904 69 from by rw [eU15]; exact Xi_ne (by omega)))))
        have w205 : 0 ≤ Xi S 904 69 ∧ Xi S 904 69 ≤ 2600 := hH.c _ _
        have w206 : Xi U18 904 78 = Xi S 904 78 := (show Xi U18 904 78 = Xi T17 904 78 from by rw [eU18]; exact Xi_ne (by omega)).trans ( (show Xi T17 904 78 = Xi U16 904 78 from w198.x _ _ rfl).trans ( (show Xi U16 904 78 = Xi U15 904 78 from by rw [eU16]; exact Xi_ne (by omega)).trans ((show Xi U15 904 78 = Xi S 904 78 from by rw [eU15]; exact Xi_ne (by omega)))))
        have w207 : -2 ≤ Xi S 904 78 ∧ Xi S 904 78 ≤ 5010 := hH.c _ _
        have w208 : Xi U18 904 8 = Xi T17 904 8 := (show Xi U18 904 8 = Xi T17 904 8 from by rw [eU18]; exact Xi_ne (by omega))
        have w209 : 0 ≤ Xi T17 904 8 ∧ Xi T17 904 8 ≤ 5010 := hHT17.c _ _
        have w210 : Xi U18 904 93 = Xi S 904 93 := (show Xi U18 904 93 = Xi T17 904 93 from by rw [eU18]; exact Xi_ne (by omega)).trans ( (show Xi T17 904 93 = Xi U16 904 93 from w198.x _ _ rfl).trans ( (show Xi U16 904 93 = Xi U15 904 93 from by rw [eU16]; exact Xi_ne (by omega)).trans ((show Xi U15 904 93 = Xi S 904 93 from by rw [eU15]; exact Xi_ne (by omega)))))
        have w211 : 0 ≤ Xi S 904 93 ∧ Xi S 904 93 ≤ 1700 := hH.c _ _
        refine l_callV rfl rfl rfl (t_mo_take__2 hHU18 n c 4 ⟨by omega, by omega⟩ (by first | assumption | exact (TK_FR hFU18 rfl (by assumption : TK S _))) (by first | assumption | exact (AT_FR (FR_e eU18) rfl (by assumption : AT T17 _ _))) (by first | assumption | omega) _) ?_
        rintro _ T19 ⟨hHT19, w217, rfl, w212, w213, w214, w215⟩
        have hFT19 : FR md_mo_testedWhat S T19 := FR.tr hFU18 w217 rfl
        show Rl _ _ _ _ _ [] _ _
        refine l_return rfl rfl ?_
        have w218 : Xi T19 952 (Xi S 904 93).toNat = Xi U15 952 (Xi S 904 93).toNat := (show Xi T19 952 (Xi S 904 93).toNat = Xi U18 952 (Xi S 904 93).toNat from (w217.cx 952 rfl _).1).trans ( (show Xi U18 952 (Xi S 904 93).toNat = Xi T17 952 (Xi S 904 93).toNat from by rw [eU18]; exact Xi_ne (by omega)).trans ( (show Xi T17 952 (Xi S 904 93).toNat = Xi U16 952 (Xi S 904 93).toNat from (w198.cx 952 rfl _).1).trans ((show Xi U16 952 (Xi S 904 93).toNat = Xi U15 952 (Xi S 904 93).toNat from by rw [eU16]; exact Xi_ne (by omega)))))
        have w219 : Xi T19 957 (Xi S 904 93).toNat = Xi U18 957 (Xi S 904 93).toNat := (show Xi T19 957 (Xi S 904 93).toNat = Xi U18 957 (Xi S 904 93).toNat from (w217.cx 957 rfl _).1)
        have w220 : Xi T19 960 (Xi S 904 93).toNat = Xi S 960 (Xi S 904 93).toNat := (show Xi T19 960 (Xi S 904 93).toNat = Xi U18 960 (Xi S 904 93).toNat from (w217.cx 960 rfl _).1).trans ( (show Xi U18 960 (Xi S 904 93).toNat = Xi T17 960 (Xi S 904 93).toNat from by rw [eU18]; exact Xi_ne (by omega)).trans ( (show Xi T17 960 (Xi S 904 93).toNat = Xi U16 960 (Xi S 904 93).toNat from (w198.cx 960 rfl _).1).trans ( (show Xi U16 960 (Xi S 904 93).toNat = Xi U15 960 (Xi S 904 93).toNat from by rw [eU16]; exact Xi_ne (by omega)).trans ((show Xi U15 960 (Xi S 904 93).toNat = Xi S 960 (Xi S 904 93).toNat from by rw [eU15]; exact Xi_ne (by omega))))))
        have w221 : 0 ≤ Xi T19 904 65 ∧ Xi T19 904 65 ≤ 1 := hHT19.c _ _
        have w222 : Xi T19 904 69 = Xi S 904 69 := (show Xi T19 904 69 = Xi U18 904 69 from w217.x _ _ rfl).trans ( (show Xi U18 904 69 = Xi T17 904 69 from by rw [eU18]; exact Xi_ne (by omega)).trans ( (show Xi T17 904 69 = Xi U16 904 69 from w198.x _ _ rfl).trans ( (show Xi U16 904 69 = Xi U15 904 69 from by rw [eU16]; exact Xi_ne (by omega)).trans ((show Xi U15 904 69 = Xi S 904 69 from by rw [eU15]; exact Xi_ne (by omega))))))
        have w223 : 0 ≤ Xi S 904 69 ∧ Xi S 904 69 ≤ 2600 := hH.c _ _
        have w224 : Xi T19 904 78 = Xi S 904 78 := (show Xi T19 904 78 = Xi U18 904 78 from w217.x _ _ rfl).trans ( (show Xi U18 904 78 = Xi T17 904 78 from by rw [eU18]; exact Xi_ne (by omega)).trans ( (show Xi T17 904 78 = Xi U16 904 78 from w198.x _ _ rfl).trans ( (show Xi U16 904 78 = Xi U15 904 78 from by rw [eU16]; exact Xi_ne (by omega)).trans ((show Xi U15 904 78 = Xi S 904 78 from by rw [eU15]; exact Xi_ne (by omega))))))
        have w225 : -2 ≤ Xi S 904 78 ∧ Xi S 904 78 ≤ 5010 := hH.c _ _
        have w226 : 0 ≤ Xi T19 904 8 ∧ Xi T19 904 8 ≤ 5010 := hHT19.c _ _
        have w227 : Xi T19 904 93 = Xi S 904 93 := (show Xi T19 904 93 = Xi U18 904 93 from w217.x _ _ rfl).trans ( (show Xi U18 904 93 = Xi T17 904 93 from by rw [eU18]; exact Xi_ne (by omega)).trans ( (show Xi T17 904 93 = Xi U16 904 93 from w198.x _ _ rfl).trans ( (show Xi U16 904 93 = Xi U15 904 93 from by rw [eU16]; exact Xi_ne (by omega)).trans ((show Xi U15 904 93 = Xi S 904 93 from by rw [eU15]; exact Xi_ne (by omega))))))
        have w228 : 0 ≤ Xi S 904 93 ∧ Xi S 904 93 ≤ 1700 := hH.c _ _
        exact ⟨hHT19, hFT19, rfl, (by first | assumption | exact (by assumption : AT T19 _ _)), (by omega), (by first | assumption | exact (RNV_FR w217 rfl (RNV_FR (FR_e eU18) rfl (RNV_FR w198 rfl (RNV_FR (FR_e eU16) rfl (RNV_FR (FR_e eU15) rfl (by assumption : RNV S _))))))), (by omega), (by omega), ((KT_FR w217 rfl (KT.w (KT_FR w198 rfl (KT_FR (FR_e eU16) rfl (KT.w KT.rf eU15 (by omega)))) eU18 (by omega)))), (by intro q; refine ⟨by omega, by omega, fun q0 => ?_⟩; first | (exfalso; omega) | (intro a b; have t := W148 (by omega) (Xi T19 957 (Xi S 904 93).toNat) (by omega) a b; omega))⟩
      · refine l_iconst rfl ?_
        refine l_goto rfl rfl ?_
        refine l_iastore (n := 1700) rfl rfl (by omega) (by omega) (by unfold rg; omega) ?_
        obtain ⟨U20, eU20⟩ : ∃ T : sS, T = uI S 952 (((Xi S 904 93)).toNat) (Int32.ofInt 1) := ⟨_, rfl⟩
        rw [← eU20]
        have hHU20 : HI U20 := by rw [eU20]; exact HI_w hH (show 0 ≤ 1 by omega) (show 1 ≤ 5 by omega)
        have hFU20 : FR md_mo_testedWhat S U20 := by rw [eU20]; exact FR.wI hF (mdf_i (r := (952, 953, 0, 100000)) (List.mem_of_getElem? (i := 7) rfl) (inR_i (by omega) (by omega) (by omega) (by omega)))
        have w229 : Xi U20 952 (((Xi S 904 93)).toNat) = 1 := by rw [eU20]; exact Xi_same (by unfold rg; omega)
        have s47_8 : Xi U20 904 8 = Xi S 904 8 := by rw [eU20, Xi_ne (by omega)]
        have s47_65 : Xi U20 904 65 = Xi S 904 65 := by rw [eU20, Xi_ne (by omega)]
        have s47_69 : Xi U20 904 69 = Xi S 904 69 := by rw [eU20, Xi_ne (by omega)]
        have s47_93 : Xi U20 904 93 = Xi S 904 93 := by rw [eU20, Xi_ne (by omega)]
        refine l_aload_n rfl rfl ?_
        refine l_dup rfl rfl ?_
        refine l_gfi rfl rfl rfl rfl rfl ?_
        have w230 : (Xi U20 904 8) = (Xi S 904 8) := (show Xi U20 904 8 = Xi S 904 8 from by rw [eU20]; exact Xi_ne (by omega))
        rw [w230]
        refine l_iconst rfl ?_
        refine l_iadd rfl ?_
        refine l_pfi rfl rfl rfl rfl ?_
        obtain ⟨U21, eU21⟩ : ∃ T : sS, T = uI U20 904 8 (Int32.ofInt ((Xi S 904 8) + 1)) := ⟨_, rfl⟩
        rw [← eU21]
        have hHU21 : HI U21 := by rw [eU21]; exact HI_w hHU20 (show 0 ≤ ((Xi S 904 8) + 1) by omega) (show ((Xi S 904 8) + 1) ≤ 5010 by omega)
        have hFU21 : FR md_mo_testedWhat S U21 := by rw [eU21]; exact FR.wI hFU20 (mdf_i (r := (904, 905, 8, 9)) (List.mem_of_getElem? (i := 0) rfl) (inR_i (by omega) (by omega) (by omega) (by omega)))
        have w231 : Xi U21 904 8 = ((Xi S 904 8) + 1) := by rw [eU21]; exact Xi_same (by unfold rg; omega)
        have t55 : AT U21 n c ∧ _ := at_mv hT hA (fun j => (hFU20.cx 907 rfl j).1) (fun j => (hFU20.cx 908 rfl j).1) (by omega) (by omega) (by omega) (by omega) eU21 (by omega) (by omega) (by omega) (by omega) (Or.inl rfl)
        have a55 : AT U21 n c := t55.1
        refine l_aload_n rfl rfl ?_
        refine l_sipush rfl rfl ?_
        have w232 : Xi U21 904 65 = Xi S 904 65 := (show Xi U21 904 65 = Xi U20 904 65 from by rw [eU21]; exact Xi_ne (by omega)).trans ((show Xi U20 904 65 = Xi S 904 65 from by rw [eU20]; exact Xi_ne (by omega)))
        have w233 : 0 ≤ Xi S 904 65 ∧ Xi S 904 65 ≤ 1 := hH.c _ _
        have w234 : Xi U21 904 69 = Xi S 904 69 := (show Xi U21 904 69 = Xi U20 904 69 from by rw [eU21]; exact Xi_ne (by omega)).trans ((show Xi U20 904 69 = Xi S 904 69 from by rw [eU20]; exact Xi_ne (by omega)))
        have w235 : 0 ≤ Xi S 904 69 ∧ Xi S 904 69 ≤ 2600 := hH.c _ _
        have w236 : Xi U21 904 78 = Xi S 904 78 := (show Xi U21 904 78 = Xi U20 904 78 from by rw [eU21]; exact Xi_ne (by omega)).trans ((show Xi U20 904 78 = Xi S 904 78 from by rw [eU20]; exact Xi_ne (by omega)))
        have w237 : -2 ≤ Xi S 904 78 ∧ Xi S 904 78 ≤ 5010 := hH.c _ _
        have w238 : 0 ≤ Xi U21 904 8 ∧ Xi U21 904 8 ≤ 5010 := hHU21.c _ _
        have w239 : Xi U21 904 93 = Xi S 904 93 := (show Xi U21 904 93 = Xi U20 904 93 from by rw [eU21]; exact Xi_ne (by omega)).trans ((show Xi U20 904 93 = Xi S 904 93 from by rw [eU20]; exact Xi_ne (by omega)))
        have w240 : 0 ≤ Xi S 904 93 ∧ Xi S 904 93 ≤ 1700 := hH.c _ _
        refine l_callV rfl rfl rfl (t_mo_take__2 hHU21 n c 150 ⟨by omega, by omega⟩ (by first | assumption | exact (TK_FR hFU21 rfl (by assumption : TK S _))) (by first | assumption | exact (by assumption : AT U21 _ _)) (by first | assumption | omega) _) ?_
        rintro _ T22 ⟨hHT22, w246, rfl, w241, w242, w243, w244⟩
        have hFT22 : FR md_mo_testedWhat S T22 := FR.tr hFU21 w246 rfl
        show Rl _ _ _ _ _ [] _ _
        refine l_aload_n rfl rfl ?_
        refine l_gfr rfl rfl rfl rfl rfl (hHT22.r 904 87 957 rfl) ?_
        refine l_aload_n rfl rfl ?_
        refine l_gfi rfl rfl rfl rfl rfl ?_
        have w247 : (Xi T22 904 93) = (Xi S 904 93) := (show Xi T22 904 93 = Xi U21 904 93 from w246.x _ _ rfl).trans ( (show Xi U21 904 93 = Xi U20 904 93 from by rw [eU21]; exact Xi_ne (by omega)).trans ((show Xi U20 904 93 = Xi S 904 93 from by rw [eU20]; exact Xi_ne (by omega))))
        rw [w247]
        refine l_aload_n rfl rfl ?_
        refine l_gfi rfl rfl rfl rfl rfl ?_
        have w248 : 0 ≤ (Xi T22 904 8) ∧ (Xi T22 904 8) ≤ 5010 := hHT22.c _ _
        refine l_iastore (n := 1700) rfl rfl (by omega) (by omega) (by unfold rg; omega) ?_
        obtain ⟨U23, eU23⟩ : ∃ T : sS, T = uI T22 957 (((Xi S 904 93)).toNat) (Int32.ofInt (Xi T22 904 8)) := ⟨_, rfl⟩
        rw [← eU23]
        have hHU23 : HI U23 := by rw [eU23]; exact HI_w hHT22 (show 0 ≤ (Xi T22 904 8) by omega) (show (Xi T22 904 8) ≤ 5010 by omega)
        have hFU23 : FR md_mo_testedWhat S U23 := by rw [eU23]; exact FR.wI hFT22 (mdf_i (r := (957, 958, 0, 100000)) (List.mem_of_getElem? (i := 9) rfl) (inR_i (by omega) (by omega) (by omega) (by omega)))
        have w249 : Xi U23 957 (((Xi S 904 93)).toNat) = (Xi T22 904 8) := by rw [eU23]; exact Xi_same (by unfold rg; omega)
        refine l_aload_n rfl rfl ?_
        refine l_iconst rfl ?_
        have w250 : Xi U23 904 65 = Xi T22 904 65 := (show Xi U23 904 65 = Xi T22 904 65 from by rw [eU23]; exact Xi_ne (by omega))
        have w251 : 0 ≤ Xi T22 904 65 ∧ Xi T22 904 65 ≤ 1 := hHT22.c _ _
        have w252 : Xi U23 904 69 = Xi S 904 69 := (show Xi U23 904 69 = Xi T22 904 69 from by rw [eU23]; exact Xi_ne (by omega)).trans ( (show Xi T22 904 69 = Xi U21 904 69 from w246.x _ _ rfl).trans ( (show Xi U21 904 69 = Xi U20 904 69 from by rw [eU21]; exact Xi_ne (by omega)).trans ((show Xi U20 904 69 = Xi S 904 69 from by rw [eU20]; exact Xi_ne (by omega)))))
        have w253 : 0 ≤ Xi S 904 69 ∧ Xi S 904 69 ≤ 2600 := hH.c _ _
        have w254 : Xi U23 904 78 = Xi S 904 78 := (show Xi U23 904 78 = Xi T22 904 78 from by rw [eU23]; exact Xi_ne (by omega)).trans ( (show Xi T22 904 78 = Xi U21 904 78 from w246.x _ _ rfl).trans ( (show Xi U21 904 78 = Xi U20 904 78 from by rw [eU21]; exact Xi_ne (by omega)).trans ((show Xi U20 904 78 = Xi S 904 78 from by rw [eU20]; exact Xi_ne (by omega)))))
        have w255 : -2 ≤ Xi S 904 78 ∧ Xi S 904 78 ≤ 5010 := hH.c _ _
        have w256 : Xi U23 904 8 = Xi T22 904 8 := (show Xi U23 904 8 = Xi T22 904 8 from by rw [eU23]; exact Xi_ne (by omega))
        have w257 : 0 ≤ Xi T22 904 8 ∧ Xi T22 904 8 ≤ 5010 := hHT22.c _ _
        have w258 : Xi U23 904 93 = Xi S 904 93 := (show Xi U23 904 93 = Xi T22 904 93 from by rw [eU23]; exact Xi_ne (by omega)).trans ( (show Xi T22 904 93 = Xi U21 904 93 from w246.x _ _ rfl).trans ( (show Xi U21 904 93 = Xi U20 904 93 from by rw [eU21]; exact Xi_ne (by omega)).trans ((show Xi U20 904 93 = Xi S 904 93 from by rw [eU20]; exact Xi_ne (by omega)))))
        have w259 : 0 ≤ Xi S 904 93 ∧ Xi S 904 93 ≤ 1700 := hH.c _ _
        refine l_callV rfl rfl rfl (t_mo_take__2 hHU23 n c 4 ⟨by omega, by omega⟩ (by first | assumption | exact (TK_FR hFU23 rfl (by assumption : TK S _))) (by first | assumption | exact (AT_FR (FR_e eU23) rfl (by assumption : AT T22 _ _))) (by first | assumption | omega) _) ?_
        rintro _ T24 ⟨hHT24, w265, rfl, w260, w261, w262, w263⟩
        have hFT24 : FR md_mo_testedWhat S T24 := FR.tr hFU23 w265 rfl
        show Rl _ _ _ _ _ [] _ _
        refine l_return rfl rfl ?_
        have w266 : Xi T24 952 (Xi S 904 93).toNat = Xi U20 952 (Xi S 904 93).toNat := (show Xi T24 952 (Xi S 904 93).toNat = Xi U23 952 (Xi S 904 93).toNat from (w265.cx 952 rfl _).1).trans ( (show Xi U23 952 (Xi S 904 93).toNat = Xi T22 952 (Xi S 904 93).toNat from by rw [eU23]; exact Xi_ne (by omega)).trans ( (show Xi T22 952 (Xi S 904 93).toNat = Xi U21 952 (Xi S 904 93).toNat from (w246.cx 952 rfl _).1).trans ((show Xi U21 952 (Xi S 904 93).toNat = Xi U20 952 (Xi S 904 93).toNat from by rw [eU21]; exact Xi_ne (by omega)))))
        have w267 : Xi T24 957 (Xi S 904 93).toNat = Xi U23 957 (Xi S 904 93).toNat := (show Xi T24 957 (Xi S 904 93).toNat = Xi U23 957 (Xi S 904 93).toNat from (w265.cx 957 rfl _).1)
        have w268 : Xi T24 960 (Xi S 904 93).toNat = Xi S 960 (Xi S 904 93).toNat := (show Xi T24 960 (Xi S 904 93).toNat = Xi U23 960 (Xi S 904 93).toNat from (w265.cx 960 rfl _).1).trans ( (show Xi U23 960 (Xi S 904 93).toNat = Xi T22 960 (Xi S 904 93).toNat from by rw [eU23]; exact Xi_ne (by omega)).trans ( (show Xi T22 960 (Xi S 904 93).toNat = Xi U21 960 (Xi S 904 93).toNat from (w246.cx 960 rfl _).1).trans ( (show Xi U21 960 (Xi S 904 93).toNat = Xi U20 960 (Xi S 904 93).toNat from by rw [eU21]; exact Xi_ne (by omega)).trans ((show Xi U20 960 (Xi S 904 93).toNat = Xi S 960 (Xi S 904 93).toNat from by rw [eU20]; exact Xi_ne (by omega))))))
        have w269 : 0 ≤ Xi T24 904 65 ∧ Xi T24 904 65 ≤ 1 := hHT24.c _ _
        have w270 : Xi T24 904 69 = Xi S 904 69 := (show Xi T24 904 69 = Xi U23 904 69 from w265.x _ _ rfl).trans ( (show Xi U23 904 69 = Xi T22 904 69 from by rw [eU23]; exact Xi_ne (by omega)).trans ( (show Xi T22 904 69 = Xi U21 904 69 from w246.x _ _ rfl).trans ( (show Xi U21 904 69 = Xi U20 904 69 from by rw [eU21]; exact Xi_ne (by omega)).trans ((show Xi U20 904 69 = Xi S 904 69 from by rw [eU20]; exact Xi_ne (by omega))))))
        have w271 : 0 ≤ Xi S 904 69 ∧ Xi S 904 69 ≤ 2600 := hH.c _ _
        have w272 : Xi T24 904 78 = Xi S 904 78 := (show Xi T24 904 78 = Xi U23 904 78 from w265.x _ _ rfl).trans ( (show Xi U23 904 78 = Xi T22 904 78 from by rw [eU23]; exact Xi_ne (by omega)).trans ( (show Xi T22 904 78 = Xi U21 904 78 from w246.x _ _ rfl).trans ( (show Xi U21 904 78 = Xi U20 904 78 from by rw [eU21]; exact Xi_ne (by omega)).trans ((show Xi U20 904 78 = Xi S 904 78 from by rw [eU20]; exact Xi_ne (by omega))))))
        have w273 : -2 ≤ Xi S 904 78 ∧ Xi S 904 78 ≤ 5010 := hH.c _ _
        have w274 : 0 ≤ Xi T24 904 8 ∧ Xi T24 904 8 ≤ 5010 := hHT24.c _ _
        have w275 : Xi T24 904 93 = Xi S 904 93 := (show Xi T24 904 93 = Xi U23 904 93 from w265.x _ _ rfl).trans ( (show Xi U23 904 93 = Xi T22 904 93 from by rw [eU23]; exact Xi_ne (by omega)).trans ( (show Xi T22 904 93 = Xi U21 904 93 from w246.x _ _ rfl).trans ( (show Xi U21 904 93 = Xi U20 904 93 from by rw [eU21]; exact Xi_ne (by omega)).trans ((show Xi U20 904 93 = Xi S 904 93 from by rw [eU20]; exact Xi_ne (by omega))))))
        have w276 : 0 ≤ Xi S 904 93 ∧ Xi S 904 93 ≤ 1700 := hH.c _ _
        exact ⟨hHT24, hFT24, rfl, (by first | assumption | exact (by assumption : AT T24 _ _)), (by omega), (by first | assumption | exact (RNV_FR w265 rfl (RNV_FR (FR_e eU23) rfl (RNV_FR w246 rfl (RNV_FR (FR_e eU21) rfl (RNV_FR (FR_e eU20) rfl (by assumption : RNV S _))))))), (by omega), (by omega), ((KT_FR w265 rfl (KT.w (KT_FR w246 rfl (KT_FR (FR_e eU21) rfl (KT.w KT.rf eU20 (by omega)))) eU23 (by omega)))), (by intro q; refine ⟨by omega, by omega, fun q0 => ?_⟩; first | (exfalso; omega) | (intro a b; have t := W148 (by omega) (Xi T24 957 (Xi S 904 93).toNat) (by omega) a b; omega))⟩
    · refine l_aload_n rfl rfl ?_
      refine l_sipush rfl rfl ?_
      have w277 : 0 ≤ Xi S 904 65 ∧ Xi S 904 65 ≤ 1 := hH.c _ _
      have w278 : 0 ≤ Xi S 904 69 ∧ Xi S 904 69 ≤ 2600 := hH.c _ _
      have w279 : -2 ≤ Xi S 904 78 ∧ Xi S 904 78 ≤ 5010 := hH.c _ _
      have w280 : 0 ≤ Xi S 904 8 ∧ Xi S 904 8 ≤ 5010 := hH.c _ _
      have w281 : 0 ≤ Xi S 904 93 ∧ Xi S 904 93 ≤ 1700 := hH.c _ _
      refine l_callV rfl rfl rfl (t_mo_isNext hH n c 152 ⟨by omega, by omega⟩ (by first | assumption | exact (TK_FR hF rfl (by assumption : TK S _))) (by first | assumption | exact (by assumption : AT S _ _)) _) ?_
      rintro _ _ ⟨rfl, z284, rfl, w284, w282, w283⟩
      show Rl _ _ _ _ _ [iv z284] _ _
      have i18 : z284 = 1 → Xi S 904 65 = 0 ∧ Xi S 907 (Xi S 904 8).toNat = 152 := fun q => by have t := (by assumption : z284 = 1 → Xi S 904 65 = 0 ∧ Xi S 907 (Xi S 904 8).toNat = 152) q; rw [show Xi S 904 8 = Xi S 904 8 by omega, (hF.cx 907 rfl _).1] at t; exact ⟨by omega, t.2⟩
      refine l_if_eq rfl rfl (by unfold rg; omega) (fun w285 => ?_) (fun w286 => ?_)
      · refine l_aload_n rfl rfl ?_
        refine l_gfr rfl rfl rfl rfl rfl (hH.r 904 82 952 rfl) ?_
        refine l_aload_n rfl rfl ?_
        refine l_gfi rfl rfl rfl rfl rfl ?_
        refine l_iconst rfl ?_
        refine l_iastore (n := 1700) rfl rfl (by omega) (by omega) (by unfold rg; omega) ?_
        obtain ⟨U25, eU25⟩ : ∃ T : sS, T = uI S 952 (((Xi S 904 93)).toNat) (Int32.ofInt 0) := ⟨_, rfl⟩
        rw [← eU25]
        have hHU25 : HI U25 := by rw [eU25]; exact HI_w hH (show 0 ≤ 0 by omega) (show 0 ≤ 5 by omega)
        have hFU25 : FR md_mo_testedWhat S U25 := by rw [eU25]; exact FR.wI hF (mdf_i (r := (952, 953, 0, 100000)) (List.mem_of_getElem? (i := 7) rfl) (inR_i (by omega) (by omega) (by omega) (by omega)))
        have w287 : Xi U25 952 (((Xi S 904 93)).toNat) = 0 := by rw [eU25]; exact Xi_same (by unfold rg; omega)
        have s93_8 : Xi U25 904 8 = Xi S 904 8 := by rw [eU25, Xi_ne (by omega)]
        have s93_65 : Xi U25 904 65 = Xi S 904 65 := by rw [eU25, Xi_ne (by omega)]
        have s93_69 : Xi U25 904 69 = Xi S 904 69 := by rw [eU25, Xi_ne (by omega)]
        have s93_93 : Xi U25 904 93 = Xi S 904 93 := by rw [eU25, Xi_ne (by omega)]
        refine l_aload_n rfl rfl ?_
        refine l_gfr rfl rfl rfl rfl rfl (hHU25.r 904 83 953 rfl) ?_
        refine l_aload_n rfl rfl ?_
        refine l_gfi rfl rfl rfl rfl rfl ?_
        have w288 : (Xi U25 904 93) = (Xi S 904 93) := (show Xi U25 904 93 = Xi S 904 93 from by rw [eU25]; exact Xi_ne (by omega))
        rw [w288]
        refine l_iload_n rfl rfl ?_
        refine l_if_ne rfl rfl (by unfold rg; omega) (fun w289 => ?_) (fun w290 => ?_)
        · refine l_iconst rfl ?_
          refine l_bastoreZ1 (n := 1700) rfl rfl (by omega) (by omega) (by unfold rg; omega) ⟨by omega, by omega⟩ ?_
          obtain ⟨U26, eU26⟩ : ∃ T : sS, T = uI U25 953 (((Xi S 904 93)).toNat) (Int32.ofInt 0) := ⟨_, rfl⟩
          rw [← eU26]
          have hHU26 : HI U26 := by rw [eU26]; exact HI_w hHU25 (show 0 ≤ 0 by omega) (show 0 ≤ 1 by omega)
          have hFU26 : FR md_mo_testedWhat S U26 := by rw [eU26]; exact FR.wI hFU25 (mdf_i (r := (953, 954, 0, 100000)) (List.mem_of_getElem? (i := 8) rfl) (inR_i (by omega) (by omega) (by omega) (by omega)))
          have w291 : Xi U26 953 (((Xi S 904 93)).toNat) = 0 := by rw [eU26]; exact Xi_same (by unfold rg; omega)
          have s120_8 : Xi U26 904 8 = Xi U25 904 8 := by rw [eU26, Xi_ne (by omega)]
          have s120_65 : Xi U26 904 65 = Xi U25 904 65 := by rw [eU26, Xi_ne (by omega)]
          have s120_69 : Xi U26 904 69 = Xi U25 904 69 := by rw [eU26, Xi_ne (by omega)]
          have s120_93 : Xi U26 904 93 = Xi U25 904 93 := by rw [eU26, Xi_ne (by omega)]
          have i120 : Xi U26 953 (Xi S 904 93).toNat ≠ 0 → Xi U26 904 65 = 0 ∧ Xi U26 907 (Xi U26 904 8).toNat ≠ 1 := fun q => by rw [(hFU26.cx 907 rfl _).1, show Xi U26 904 8 = Xi S 904 8 by omega]; omega
          refine l_aload_n rfl rfl ?_
          refine l_dup rfl rfl ?_
          refine l_gfi rfl rfl rfl rfl rfl ?_
          have w292 : (Xi U26 904 8) = (Xi S 904 8) := (show Xi U26 904 8 = Xi U25 904 8 from by rw [eU26]; exact Xi_ne (by omega)).trans ((show Xi U25 904 8 = Xi S 904 8 from by rw [eU25]; exact Xi_ne (by omega)))
          rw [w292]
          refine l_aload_n rfl rfl ?_
          refine l_gfr rfl rfl rfl rfl rfl (hHU26.r 904 83 953 rfl) ?_
          refine l_aload_n rfl rfl ?_
          refine l_gfi rfl rfl rfl rfl rfl ?_
          have w293 : (Xi U26 904 93) = (Xi S 904 93) := (show Xi U26 904 93 = Xi U25 904 93 from by rw [eU26]; exact Xi_ne (by omega)).trans ((show Xi U25 904 93 = Xi S 904 93 from by rw [eU25]; exact Xi_ne (by omega)))
          rw [w293]
          refine l_baload (n := 1700) rfl rfl rfl (by decide) (by omega) (by omega) (by unfold rg; omega) ?_
          refine l_if_eq rfl rfl (by unfold rg; omega) (fun w294 => ?_) (fun w295 => ?_)
          · refine l_iconst rfl ?_
            refine l_iadd rfl ?_
            refine l_pfi rfl rfl rfl rfl ?_
            obtain ⟨U27, eU27⟩ : ∃ T : sS, T = uI U26 904 8 (Int32.ofInt ((Xi S 904 8) + 0)) := ⟨_, rfl⟩
            rw [← eU27]
            have hHU27 : HI U27 := by rw [eU27]; exact HI_w hHU26 (show 0 ≤ ((Xi S 904 8) + 0) by omega) (show ((Xi S 904 8) + 0) ≤ 5010 by omega)
            have hFU27 : FR md_mo_testedWhat S U27 := by rw [eU27]; exact FR.wI hFU26 (mdf_i (r := (904, 905, 8, 9)) (List.mem_of_getElem? (i := 0) rfl) (inR_i (by omega) (by omega) (by omega) (by omega)))
            have w296 : Xi U27 904 8 = ((Xi S 904 8) + 0) := by rw [eU27]; exact Xi_same (by unfold rg; omega)
            have t144 : AT U27 n c ∧ Xi U26 904 8 ≤ Xi U27 904 8 ∧ (Xi U27 904 8 ≤ n ∨ Xi U27 904 8 = Xi U26 904 8) := at_opt (TK_FR hFU26 rfl hT) (at_fr hA (fun j => (hFU26.cx 907 rfl j).1) (fun j => (hFU26.cx 908 rfl j).1) (by omega) (by omega) (by omega) (by omega)) eU27 (by omega) (by omega)
            have w297 : Xi U27 952 (Xi S 904 93).toNat = Xi U25 952 (Xi S 904 93).toNat := (show Xi U27 952 (Xi S 904 93).toNat = Xi U26 952 (Xi S 904 93).toNat from by rw [eU27]; exact Xi_ne (by omega)).trans ((show Xi U26 952 (Xi S 904 93).toNat = Xi U25 952 (Xi S 904 93).toNat from by rw [eU26]; exact Xi_ne (by omega)))
            have w298 : Xi U27 957 (Xi S 904 93).toNat = Xi S 957 (Xi S 904 93).toNat := (show Xi U27 957 (Xi S 904 93).toNat = Xi U26 957 (Xi S 904 93).toNat from by rw [eU27]; exact Xi_ne (by omega)).trans ( (show Xi U26 957 (Xi S 904 93).toNat = Xi U25 957 (Xi S 904 93).toNat from by rw [eU26]; exact Xi_ne (by omega)).trans ((show Xi U25 957 (Xi S 904 93).toNat = Xi S 957 (Xi S 904 93).toNat from by rw [eU25]; exact Xi_ne (by omega))))
            have w299 : Xi U27 960 (Xi S 904 93).toNat = Xi S 960 (Xi S 904 93).toNat := (show Xi U27 960 (Xi S 904 93).toNat = Xi U26 960 (Xi S 904 93).toNat from by rw [eU27]; exact Xi_ne (by omega)).trans ( (show Xi U26 960 (Xi S 904 93).toNat = Xi U25 960 (Xi S 904 93).toNat from by rw [eU26]; exact Xi_ne (by omega)).trans ((show Xi U25 960 (Xi S 904 93).toNat = Xi S 960 (Xi S 904 93).toNat from by rw [eU25]; exact Xi_ne (by omega))))
            have w300 : Xi U27 904 65 = Xi S 904 65 := (show Xi U27 904 65 = Xi U26 904 65 from by rw [eU27]; exact Xi_ne (by omega)).trans ( (show Xi U26 904 65 = Xi U25 904 65 from by rw [eU26]; exact Xi_ne (by omega)).trans ((show Xi U25 904 65 = Xi S 904 65 from by rw [eU25]; exact Xi_ne (by omega))))
            have w301 : 0 ≤ Xi S 904 65 ∧ Xi S 904 65 ≤ 1 := hH.c _ _
            have w302 : Xi U27 904 69 = Xi S 904 69 := (show Xi U27 904 69 = Xi U26 904 69 from by rw [eU27]; exact Xi_ne (by omega)).trans ( (show Xi U26 904 69 = Xi U25 904 69 from by rw [eU26]; exact Xi_ne (by omega)).trans ((show Xi U25 904 69 = Xi S 904 69 from by rw [eU25]; exact Xi_ne (by omega))))
            have w303 : 0 ≤ Xi S 904 69 ∧ Xi S 904 69 ≤ 2600 := hH.c _ _
            have w304 : Xi U27 904 78 = Xi S 904 78 := (show Xi U27 904 78 = Xi U26 904 78 from by rw [eU27]; exact Xi_ne (by omega)).trans ( (show Xi U26 904 78 = Xi U25 904 78 from by rw [eU26]; exact Xi_ne (by omega)).trans ((show Xi U25 904 78 = Xi S 904 78 from by rw [eU25]; exact Xi_ne (by omega))))
            have w305 : -2 ≤ Xi S 904 78 ∧ Xi S 904 78 ≤ 5010 := hH.c _ _
            have w306 : 0 ≤ Xi U27 904 8 ∧ Xi U27 904 8 ≤ 5010 := hHU27.c _ _
            have w307 : Xi U27 904 93 = Xi S 904 93 := (show Xi U27 904 93 = Xi U26 904 93 from by rw [eU27]; exact Xi_ne (by omega)).trans ( (show Xi U26 904 93 = Xi U25 904 93 from by rw [eU26]; exact Xi_ne (by omega)).trans ((show Xi U25 904 93 = Xi S 904 93 from by rw [eU25]; exact Xi_ne (by omega))))
            have w308 : 0 ≤ Xi S 904 93 ∧ Xi S 904 93 ≤ 1700 := hH.c _ _
            exact Rl_weak (C147 U27 hHU27 hFU27  (t144.1) (by first | assumption | exact (RNV_FR (FR_e eU27) rfl (RNV_FR (FR_e eU26) rfl (RNV_FR (FR_e eU25) rfl (by assumption : RNV S _))))) (by omega) (by omega) (by omega) (by omega) (by omega) ((KT_FR (FR_e eU27) rfl (KT.w (KT.w KT.rf eU25 (by omega)) eU26 (by omega))))) (And.intro rfl (True.intro))
          · refine l_iconst rfl ?_
            refine l_goto rfl rfl ?_
            refine l_iadd rfl ?_
            refine l_pfi rfl rfl rfl rfl ?_
            obtain ⟨U28, eU28⟩ : ∃ T : sS, T = uI U26 904 8 (Int32.ofInt ((Xi S 904 8) + 1)) := ⟨_, rfl⟩
            rw [← eU28]
            have hHU28 : HI U28 := by rw [eU28]; exact HI_w hHU26 (show 0 ≤ ((Xi S 904 8) + 1) by omega) (show ((Xi S 904 8) + 1) ≤ 5010 by omega)
            have hFU28 : FR md_mo_testedWhat S U28 := by rw [eU28]; exact FR.wI hFU26 (mdf_i (r := (904, 905, 8, 9)) (List.mem_of_getElem? (i := 0) rfl) (inR_i (by omega) (by omega) (by omega) (by omega)))
            have w309 : Xi U28 904 8 = ((Xi S 904 8) + 1) := by rw [eU28]; exact Xi_same (by unfold rg; omega)
            have t144 : AT U28 n c ∧ Xi U26 904 8 ≤ Xi U28 904 8 ∧ (Xi U28 904 8 ≤ n ∨ Xi U28 904 8 = Xi U26 904 8) := at_opt (TK_FR hFU26 rfl hT) (at_fr hA (fun j => (hFU26.cx 907 rfl j).1) (fun j => (hFU26.cx 908 rfl j).1) (by omega) (by omega) (by omega) (by omega)) eU28 (by omega) (by omega)
            have w310 : Xi U28 952 (Xi S 904 93).toNat = Xi U25 952 (Xi S 904 93).toNat := (show Xi U28 952 (Xi S 904 93).toNat = Xi U26 952 (Xi S 904 93).toNat from by rw [eU28]; exact Xi_ne (by omega)).trans ((show Xi U26 952 (Xi S 904 93).toNat = Xi U25 952 (Xi S 904 93).toNat from by rw [eU26]; exact Xi_ne (by omega)))
            have w311 : Xi U28 957 (Xi S 904 93).toNat = Xi S 957 (Xi S 904 93).toNat := (show Xi U28 957 (Xi S 904 93).toNat = Xi U26 957 (Xi S 904 93).toNat from by rw [eU28]; exact Xi_ne (by omega)).trans ( (show Xi U26 957 (Xi S 904 93).toNat = Xi U25 957 (Xi S 904 93).toNat from by rw [eU26]; exact Xi_ne (by omega)).trans ((show Xi U25 957 (Xi S 904 93).toNat = Xi S 957 (Xi S 904 93).toNat from by rw [eU25]; exact Xi_ne (by omega))))
            have w312 : Xi U28 960 (Xi S 904 93).toNat = Xi S 960 (Xi S 904 93).toNat := (show Xi U28 960 (Xi S 904 93).toNat = Xi U26 960 (Xi S 904 93).toNat from by rw [eU28]; exact Xi_ne (by omega)).trans ( (show Xi U26 960 (Xi S 904 93).toNat = Xi U25 960 (Xi S 904 93).toNat from by rw [eU26]; exact Xi_ne (by omega)).trans ((show Xi U25 960 (Xi S 904 93).toNat = Xi S 960 (Xi S 904 93).toNat from by rw [eU25]; exact Xi_ne (by omega))))
            have w313 : Xi U28 904 65 = Xi S 904 65 := (show Xi U28 904 65 = Xi U26 904 65 from by rw [eU28]; exact Xi_ne (by omega)).trans ( (show Xi U26 904 65 = Xi U25 904 65 from by rw [eU26]; exact Xi_ne (by omega)).trans ((show Xi U25 904 65 = Xi S 904 65 from by rw [eU25]; exact Xi_ne (by omega))))
            have w314 : 0 ≤ Xi S 904 65 ∧ Xi S 904 65 ≤ 1 := hH.c _ _
            have w315 : Xi U28 904 69 = Xi S 904 69 := (show Xi U28 904 69 = Xi U26 904 69 from by rw [eU28]; exact Xi_ne (by omega)).trans ( (show Xi U26 904 69 = Xi U25 904 69 from by rw [eU26]; exact Xi_ne (by omega)).trans ((show Xi U25 904 69 = Xi S 904 69 from by rw [eU25]; exact Xi_ne (by omega))))
            have w316 : 0 ≤ Xi S 904 69 ∧ Xi S 904 69 ≤ 2600 := hH.c _ _
            have w317 : Xi U28 904 78 = Xi S 904 78 := (show Xi U28 904 78 = Xi U26 904 78 from by rw [eU28]; exact Xi_ne (by omega)).trans ( (show Xi U26 904 78 = Xi U25 904 78 from by rw [eU26]; exact Xi_ne (by omega)).trans ((show Xi U25 904 78 = Xi S 904 78 from by rw [eU25]; exact Xi_ne (by omega))))
            have w318 : -2 ≤ Xi S 904 78 ∧ Xi S 904 78 ≤ 5010 := hH.c _ _
            have w319 : 0 ≤ Xi U28 904 8 ∧ Xi U28 904 8 ≤ 5010 := hHU28.c _ _
            have w320 : Xi U28 904 93 = Xi S 904 93 := (show Xi U28 904 93 = Xi U26 904 93 from by rw [eU28]; exact Xi_ne (by omega)).trans ( (show Xi U26 904 93 = Xi U25 904 93 from by rw [eU26]; exact Xi_ne (by omega)).trans ((show Xi U25 904 93 = Xi S 904 93 from by rw [eU25]; exact Xi_ne (by omega))))
            have w321 : 0 ≤ Xi S 904 93 ∧ Xi S 904 93 ≤ 1700 := hH.c _ _
            exact Rl_weak (C147 U28 hHU28 hFU28  (t144.1) (by first | assumption | exact (RNV_FR (FR_e eU28) rfl (RNV_FR (FR_e eU26) rfl (RNV_FR (FR_e eU25) rfl (by assumption : RNV S _))))) (by omega) (by omega) (by omega) (by omega) (by omega) ((KT_FR (FR_e eU28) rfl (KT.w (KT.w KT.rf eU25 (by omega)) eU26 (by omega))))) (And.intro rfl (True.intro))
        · refine l_aload_n rfl rfl ?_
          refine l_bipush rfl rfl ?_
          have w322 : Xi U25 904 65 = Xi S 904 65 := (show Xi U25 904 65 = Xi S 904 65 from by rw [eU25]; exact Xi_ne (by omega))
          have w323 : 0 ≤ Xi S 904 65 ∧ Xi S 904 65 ≤ 1 := hH.c _ _
          have w324 : Xi U25 904 69 = Xi S 904 69 := (show Xi U25 904 69 = Xi S 904 69 from by rw [eU25]; exact Xi_ne (by omega))
          have w325 : 0 ≤ Xi S 904 69 ∧ Xi S 904 69 ≤ 2600 := hH.c _ _
          have w326 : Xi U25 904 78 = Xi S 904 78 := (show Xi U25 904 78 = Xi S 904 78 from by rw [eU25]; exact Xi_ne (by omega))
          have w327 : -2 ≤ Xi S 904 78 ∧ Xi S 904 78 ≤ 5010 := hH.c _ _
          have w328 : Xi U25 904 8 = Xi S 904 8 := (show Xi U25 904 8 = Xi S 904 8 from by rw [eU25]; exact Xi_ne (by omega))
          have w329 : 0 ≤ Xi S 904 8 ∧ Xi S 904 8 ≤ 5010 := hH.c _ _
          have w330 : Xi U25 904 93 = Xi S 904 93 := (show Xi U25 904 93 = Xi S 904 93 from by rw [eU25]; exact Xi_ne (by omega))
          have w331 : 0 ≤ Xi S 904 93 ∧ Xi S 904 93 ≤ 1700 := hH.c _ _
          refine l_callV rfl rfl rfl (t_mo_isNext hHU25 n c 106 ⟨by omega, by omega⟩ (by first | assumption | exact (TK_FR hFU25 rfl (by assumption : TK S _))) (by first | assumption | exact (AT_FR (FR_e eU25) rfl (by assumption : AT S _ _))) _) ?_
          rintro _ _ ⟨rfl, z334, rfl, w334, w332, w333⟩
          show Rl _ _ _ _ _ [iv z334, iv (Xi S 904 93), .ref 953] _ _
          have i109 : z334 = 1 → Xi S 904 65 = 0 ∧ Xi S 907 (Xi S 904 8).toNat = 106 := fun q => by have t := (by assumption : z334 = 1 → Xi U25 904 65 = 0 ∧ Xi U25 907 (Xi U25 904 8).toNat = 106) q; rw [show Xi U25 904 8 = Xi S 904 8 by omega, (hFU25.cx 907 rfl _).1] at t; exact ⟨by omega, t.2⟩
          refine l_if_eq rfl rfl (by unfold rg; omega) (fun w335 => ?_) (fun w336 => ?_)
          · refine l_iconst rfl ?_
            refine l_bastoreZ1 (n := 1700) rfl rfl (by omega) (by omega) (by unfold rg; omega) ⟨by omega, by omega⟩ ?_
            obtain ⟨U29, eU29⟩ : ∃ T : sS, T = uI U25 953 (((Xi S 904 93)).toNat) (Int32.ofInt 0) := ⟨_, rfl⟩
            rw [← eU29]
            have hHU29 : HI U29 := by rw [eU29]; exact HI_w hHU25 (show 0 ≤ 0 by omega) (show 0 ≤ 1 by omega)
            have hFU29 : FR md_mo_testedWhat S U29 := by rw [eU29]; exact FR.wI hFU25 (mdf_i (r := (953, 954, 0, 100000)) (List.mem_of_getElem? (i := 8) rfl) (inR_i (by omega) (by omega) (by omega) (by omega)))
            have w337 : Xi U29 953 (((Xi S 904 93)).toNat) = 0 := by rw [eU29]; exact Xi_same (by unfold rg; omega)
            have s120_8 : Xi U29 904 8 = Xi U25 904 8 := by rw [eU29, Xi_ne (by omega)]
            have s120_65 : Xi U29 904 65 = Xi U25 904 65 := by rw [eU29, Xi_ne (by omega)]
            have s120_69 : Xi U29 904 69 = Xi U25 904 69 := by rw [eU29, Xi_ne (by omega)]
            have s120_93 : Xi U29 904 93 = Xi U25 904 93 := by rw [eU29, Xi_ne (by omega)]
            have i120 : Xi U29 953 (Xi S 904 93).toNat ≠ 0 → Xi U29 904 65 = 0 ∧ Xi U29 907 (Xi U29 904 8).toNat ≠ 1 := fun q => by rw [(hFU29.cx 907 rfl _).1, show Xi U29 904 8 = Xi S 904 8 by omega]; omega
            refine l_aload_n rfl rfl ?_
            refine l_dup rfl rfl ?_
            refine l_gfi rfl rfl rfl rfl rfl ?_
            have w338 : (Xi U29 904 8) = (Xi S 904 8) := (show Xi U29 904 8 = Xi U25 904 8 from by rw [eU29]; exact Xi_ne (by omega)).trans ((show Xi U25 904 8 = Xi S 904 8 from by rw [eU25]; exact Xi_ne (by omega)))
            rw [w338]
            refine l_aload_n rfl rfl ?_
            refine l_gfr rfl rfl rfl rfl rfl (hHU29.r 904 83 953 rfl) ?_
            refine l_aload_n rfl rfl ?_
            refine l_gfi rfl rfl rfl rfl rfl ?_
            have w339 : (Xi U29 904 93) = (Xi S 904 93) := (show Xi U29 904 93 = Xi U25 904 93 from by rw [eU29]; exact Xi_ne (by omega)).trans ((show Xi U25 904 93 = Xi S 904 93 from by rw [eU25]; exact Xi_ne (by omega)))
            rw [w339]
            refine l_baload (n := 1700) rfl rfl rfl (by decide) (by omega) (by omega) (by unfold rg; omega) ?_
            refine l_if_eq rfl rfl (by unfold rg; omega) (fun w340 => ?_) (fun w341 => ?_)
            · refine l_iconst rfl ?_
              refine l_iadd rfl ?_
              refine l_pfi rfl rfl rfl rfl ?_
              obtain ⟨U30, eU30⟩ : ∃ T : sS, T = uI U29 904 8 (Int32.ofInt ((Xi S 904 8) + 0)) := ⟨_, rfl⟩
              rw [← eU30]
              have hHU30 : HI U30 := by rw [eU30]; exact HI_w hHU29 (show 0 ≤ ((Xi S 904 8) + 0) by omega) (show ((Xi S 904 8) + 0) ≤ 5010 by omega)
              have hFU30 : FR md_mo_testedWhat S U30 := by rw [eU30]; exact FR.wI hFU29 (mdf_i (r := (904, 905, 8, 9)) (List.mem_of_getElem? (i := 0) rfl) (inR_i (by omega) (by omega) (by omega) (by omega)))
              have w342 : Xi U30 904 8 = ((Xi S 904 8) + 0) := by rw [eU30]; exact Xi_same (by unfold rg; omega)
              have t144 : AT U30 n c ∧ Xi U29 904 8 ≤ Xi U30 904 8 ∧ (Xi U30 904 8 ≤ n ∨ Xi U30 904 8 = Xi U29 904 8) := at_opt (TK_FR hFU29 rfl hT) (at_fr hA (fun j => (hFU29.cx 907 rfl j).1) (fun j => (hFU29.cx 908 rfl j).1) (by omega) (by omega) (by omega) (by omega)) eU30 (by omega) (by omega)
              have w343 : Xi U30 952 (Xi S 904 93).toNat = Xi U25 952 (Xi S 904 93).toNat := (show Xi U30 952 (Xi S 904 93).toNat = Xi U29 952 (Xi S 904 93).toNat from by rw [eU30]; exact Xi_ne (by omega)).trans ((show Xi U29 952 (Xi S 904 93).toNat = Xi U25 952 (Xi S 904 93).toNat from by rw [eU29]; exact Xi_ne (by omega)))
              have w344 : Xi U30 957 (Xi S 904 93).toNat = Xi S 957 (Xi S 904 93).toNat := (show Xi U30 957 (Xi S 904 93).toNat = Xi U29 957 (Xi S 904 93).toNat from by rw [eU30]; exact Xi_ne (by omega)).trans ( (show Xi U29 957 (Xi S 904 93).toNat = Xi U25 957 (Xi S 904 93).toNat from by rw [eU29]; exact Xi_ne (by omega)).trans ((show Xi U25 957 (Xi S 904 93).toNat = Xi S 957 (Xi S 904 93).toNat from by rw [eU25]; exact Xi_ne (by omega))))
              have w345 : Xi U30 960 (Xi S 904 93).toNat = Xi S 960 (Xi S 904 93).toNat := (show Xi U30 960 (Xi S 904 93).toNat = Xi U29 960 (Xi S 904 93).toNat from by rw [eU30]; exact Xi_ne (by omega)).trans ( (show Xi U29 960 (Xi S 904 93).toNat = Xi U25 960 (Xi S 904 93).toNat from by rw [eU29]; exact Xi_ne (by omega)).trans ((show Xi U25 960 (Xi S 904 93).toNat = Xi S 960 (Xi S 904 93).toNat from by rw [eU25]; exact Xi_ne (by omega))))
              have w346 : Xi U30 904 65 = Xi S 904 65 := (show Xi U30 904 65 = Xi U29 904 65 from by rw [eU30]; exact Xi_ne (by omega)).trans ( (show Xi U29 904 65 = Xi U25 904 65 from by rw [eU29]; exact Xi_ne (by omega)).trans ((show Xi U25 904 65 = Xi S 904 65 from by rw [eU25]; exact Xi_ne (by omega))))
              have w347 : 0 ≤ Xi S 904 65 ∧ Xi S 904 65 ≤ 1 := hH.c _ _
              have w348 : Xi U30 904 69 = Xi S 904 69 := (show Xi U30 904 69 = Xi U29 904 69 from by rw [eU30]; exact Xi_ne (by omega)).trans ( (show Xi U29 904 69 = Xi U25 904 69 from by rw [eU29]; exact Xi_ne (by omega)).trans ((show Xi U25 904 69 = Xi S 904 69 from by rw [eU25]; exact Xi_ne (by omega))))
              have w349 : 0 ≤ Xi S 904 69 ∧ Xi S 904 69 ≤ 2600 := hH.c _ _
              have w350 : Xi U30 904 78 = Xi S 904 78 := (show Xi U30 904 78 = Xi U29 904 78 from by rw [eU30]; exact Xi_ne (by omega)).trans ( (show Xi U29 904 78 = Xi U25 904 78 from by rw [eU29]; exact Xi_ne (by omega)).trans ((show Xi U25 904 78 = Xi S 904 78 from by rw [eU25]; exact Xi_ne (by omega))))
              have w351 : -2 ≤ Xi S 904 78 ∧ Xi S 904 78 ≤ 5010 := hH.c _ _
              have w352 : 0 ≤ Xi U30 904 8 ∧ Xi U30 904 8 ≤ 5010 := hHU30.c _ _
              have w353 : Xi U30 904 93 = Xi S 904 93 := (show Xi U30 904 93 = Xi U29 904 93 from by rw [eU30]; exact Xi_ne (by omega)).trans ( (show Xi U29 904 93 = Xi U25 904 93 from by rw [eU29]; exact Xi_ne (by omega)).trans ((show Xi U25 904 93 = Xi S 904 93 from by rw [eU25]; exact Xi_ne (by omega))))
              have w354 : 0 ≤ Xi S 904 93 ∧ Xi S 904 93 ≤ 1700 := hH.c _ _
              exact Rl_weak (C147 U30 hHU30 hFU30  (t144.1) (by first | assumption | exact (RNV_FR (FR_e eU30) rfl (RNV_FR (FR_e eU29) rfl (RNV_FR (FR_e eU25) rfl (by assumption : RNV S _))))) (by omega) (by omega) (by omega) (by omega) (by omega) ((KT_FR (FR_e eU30) rfl (KT.w (KT.w KT.rf eU25 (by omega)) eU29 (by omega))))) (And.intro rfl (True.intro))
            · refine l_iconst rfl ?_
              refine l_goto rfl rfl ?_
              refine l_iadd rfl ?_
              refine l_pfi rfl rfl rfl rfl ?_
              obtain ⟨U31, eU31⟩ : ∃ T : sS, T = uI U29 904 8 (Int32.ofInt ((Xi S 904 8) + 1)) := ⟨_, rfl⟩
              rw [← eU31]
              have hHU31 : HI U31 := by rw [eU31]; exact HI_w hHU29 (show 0 ≤ ((Xi S 904 8) + 1) by omega) (show ((Xi S 904 8) + 1) ≤ 5010 by omega)
              have hFU31 : FR md_mo_testedWhat S U31 := by rw [eU31]; exact FR.wI hFU29 (mdf_i (r := (904, 905, 8, 9)) (List.mem_of_getElem? (i := 0) rfl) (inR_i (by omega) (by omega) (by omega) (by omega)))
              have w355 : Xi U31 904 8 = ((Xi S 904 8) + 1) := by rw [eU31]; exact Xi_same (by unfold rg; omega)
              have t144 : AT U31 n c ∧ Xi U29 904 8 ≤ Xi U31 904 8 ∧ (Xi U31 904 8 ≤ n ∨ Xi U31 904 8 = Xi U29 904 8) := at_opt (TK_FR hFU29 rfl hT) (at_fr hA (fun j => (hFU29.cx 907 rfl j).1) (fun j => (hFU29.cx 908 rfl j).1) (by omega) (by omega) (by omega) (by omega)) eU31 (by omega) (by omega)
              have w356 : Xi U31 952 (Xi S 904 93).toNat = Xi U25 952 (Xi S 904 93).toNat := (show Xi U31 952 (Xi S 904 93).toNat = Xi U29 952 (Xi S 904 93).toNat from by rw [eU31]; exact Xi_ne (by omega)).trans ((show Xi U29 952 (Xi S 904 93).toNat = Xi U25 952 (Xi S 904 93).toNat from by rw [eU29]; exact Xi_ne (by omega)))
              have w357 : Xi U31 957 (Xi S 904 93).toNat = Xi S 957 (Xi S 904 93).toNat := (show Xi U31 957 (Xi S 904 93).toNat = Xi U29 957 (Xi S 904 93).toNat from by rw [eU31]; exact Xi_ne (by omega)).trans ( (show Xi U29 957 (Xi S 904 93).toNat = Xi U25 957 (Xi S 904 93).toNat from by rw [eU29]; exact Xi_ne (by omega)).trans ((show Xi U25 957 (Xi S 904 93).toNat = Xi S 957 (Xi S 904 93).toNat from by rw [eU25]; exact Xi_ne (by omega))))
              have w358 : Xi U31 960 (Xi S 904 93).toNat = Xi S 960 (Xi S 904 93).toNat := (show Xi U31 960 (Xi S 904 93).toNat = Xi U29 960 (Xi S 904 93).toNat from by rw [eU31]; exact Xi_ne (by omega)).trans ( (show Xi U29 960 (Xi S 904 93).toNat = Xi U25 960 (Xi S 904 93).toNat from by rw [eU29]; exact Xi_ne (by omega)).trans ((show Xi U25 960 (Xi S 904 93).toNat = Xi S 960 (Xi S 904 93).toNat from by rw [eU25]; exact Xi_ne (by omega))))
              have w359 : Xi U31 904 65 = Xi S 904 65 := (show Xi U31 904 65 = Xi U29 904 65 from by rw [eU31]; exact Xi_ne (by omega)).trans ( (show Xi U29 904 65 = Xi U25 904 65 from by rw [eU29]; exact Xi_ne (by omega)).trans ((show Xi U25 904 65 = Xi S 904 65 from by rw [eU25]; exact Xi_ne (by omega))))
              have w360 : 0 ≤ Xi S 904 65 ∧ Xi S 904 65 ≤ 1 := hH.c _ _
              have w361 : Xi U31 904 69 = Xi S 904 69 := (show Xi U31 904 69 = Xi U29 904 69 from by rw [eU31]; exact Xi_ne (by omega)).trans ( (show Xi U29 904 69 = Xi U25 904 69 from by rw [eU29]; exact Xi_ne (by omega)).trans ((show Xi U25 904 69 = Xi S 904 69 from by rw [eU25]; exact Xi_ne (by omega))))
              have w362 : 0 ≤ Xi S 904 69 ∧ Xi S 904 69 ≤ 2600 := hH.c _ _
              have w363 : Xi U31 904 78 = Xi S 904 78 := (show Xi U31 904 78 = Xi U29 904 78 from by rw [eU31]; exact Xi_ne (by omega)).trans ( (show Xi U29 904 78 = Xi U25 904 78 from by rw [eU29]; exact Xi_ne (by omega)).trans ((show Xi U25 904 78 = Xi S 904 78 from by rw [eU25]; exact Xi_ne (by omega))))
              have w364 : -2 ≤ Xi S 904 78 ∧ Xi S 904 78 ≤ 5010 := hH.c _ _
              have w365 : 0 ≤ Xi U31 904 8 ∧ Xi U31 904 8 ≤ 5010 := hHU31.c _ _
              have w366 : Xi U31 904 93 = Xi S 904 93 := (show Xi U31 904 93 = Xi U29 904 93 from by rw [eU31]; exact Xi_ne (by omega)).trans ( (show Xi U29 904 93 = Xi U25 904 93 from by rw [eU29]; exact Xi_ne (by omega)).trans ((show Xi U25 904 93 = Xi S 904 93 from by rw [eU25]; exact Xi_ne (by omega))))
              have w367 : 0 ≤ Xi S 904 93 ∧ Xi S 904 93 ≤ 1700 := hH.c _ _
              exact Rl_weak (C147 U31 hHU31 hFU31  (t144.1) (by first | assumption | exact (RNV_FR (FR_e eU31) rfl (RNV_FR (FR_e eU29) rfl (RNV_FR (FR_e eU25) rfl (by assumption : RNV S _))))) (by omega) (by omega) (by omega) (by omega) (by omega) ((KT_FR (FR_e eU31) rfl (KT.w (KT.w KT.rf eU25 (by omega)) eU29 (by omega))))) (And.intro rfl (True.intro))
          · refine l_iconst rfl ?_
            refine l_goto rfl rfl ?_
            refine l_bastoreZ1 (n := 1700) rfl rfl (by omega) (by omega) (by unfold rg; omega) ⟨by omega, by omega⟩ ?_
            obtain ⟨U32, eU32⟩ : ∃ T : sS, T = uI U25 953 (((Xi S 904 93)).toNat) (Int32.ofInt 1) := ⟨_, rfl⟩
            rw [← eU32]
            have hHU32 : HI U32 := by rw [eU32]; exact HI_w hHU25 (show 0 ≤ 1 by omega) (show 1 ≤ 1 by omega)
            have hFU32 : FR md_mo_testedWhat S U32 := by rw [eU32]; exact FR.wI hFU25 (mdf_i (r := (953, 954, 0, 100000)) (List.mem_of_getElem? (i := 8) rfl) (inR_i (by omega) (by omega) (by omega) (by omega)))
            have w368 : Xi U32 953 (((Xi S 904 93)).toNat) = 1 := by rw [eU32]; exact Xi_same (by unfold rg; omega)
            have s120_8 : Xi U32 904 8 = Xi U25 904 8 := by rw [eU32, Xi_ne (by omega)]
            have s120_65 : Xi U32 904 65 = Xi U25 904 65 := by rw [eU32, Xi_ne (by omega)]
            have s120_69 : Xi U32 904 69 = Xi U25 904 69 := by rw [eU32, Xi_ne (by omega)]
            have s120_93 : Xi U32 904 93 = Xi U25 904 93 := by rw [eU32, Xi_ne (by omega)]
            have i120 : Xi U32 953 (Xi S 904 93).toNat ≠ 0 → Xi U32 904 65 = 0 ∧ Xi U32 907 (Xi U32 904 8).toNat ≠ 1 := fun q => by rw [(hFU32.cx 907 rfl _).1, show Xi U32 904 8 = Xi S 904 8 by omega]; omega
            refine l_aload_n rfl rfl ?_
            refine l_dup rfl rfl ?_
            refine l_gfi rfl rfl rfl rfl rfl ?_
            have w369 : (Xi U32 904 8) = (Xi S 904 8) := (show Xi U32 904 8 = Xi U25 904 8 from by rw [eU32]; exact Xi_ne (by omega)).trans ((show Xi U25 904 8 = Xi S 904 8 from by rw [eU25]; exact Xi_ne (by omega)))
            rw [w369]
            refine l_aload_n rfl rfl ?_
            refine l_gfr rfl rfl rfl rfl rfl (hHU32.r 904 83 953 rfl) ?_
            refine l_aload_n rfl rfl ?_
            refine l_gfi rfl rfl rfl rfl rfl ?_
            have w370 : (Xi U32 904 93) = (Xi S 904 93) := (show Xi U32 904 93 = Xi U25 904 93 from by rw [eU32]; exact Xi_ne (by omega)).trans ((show Xi U25 904 93 = Xi S 904 93 from by rw [eU25]; exact Xi_ne (by omega)))
            rw [w370]
            refine l_baload (n := 1700) rfl rfl rfl (by decide) (by omega) (by omega) (by unfold rg; omega) ?_
            refine l_if_eq rfl rfl (by unfold rg; omega) (fun w371 => ?_) (fun w372 => ?_)
            · refine l_iconst rfl ?_
              refine l_iadd rfl ?_
              refine l_pfi rfl rfl rfl rfl ?_
              obtain ⟨U33, eU33⟩ : ∃ T : sS, T = uI U32 904 8 (Int32.ofInt ((Xi S 904 8) + 0)) := ⟨_, rfl⟩
              rw [← eU33]
              have hHU33 : HI U33 := by rw [eU33]; exact HI_w hHU32 (show 0 ≤ ((Xi S 904 8) + 0) by omega) (show ((Xi S 904 8) + 0) ≤ 5010 by omega)
              have hFU33 : FR md_mo_testedWhat S U33 := by rw [eU33]; exact FR.wI hFU32 (mdf_i (r := (904, 905, 8, 9)) (List.mem_of_getElem? (i := 0) rfl) (inR_i (by omega) (by omega) (by omega) (by omega)))
              have w373 : Xi U33 904 8 = ((Xi S 904 8) + 0) := by rw [eU33]; exact Xi_same (by unfold rg; omega)
              have t144 : AT U33 n c ∧ Xi U32 904 8 ≤ Xi U33 904 8 ∧ (Xi U33 904 8 ≤ n ∨ Xi U33 904 8 = Xi U32 904 8) := at_opt (TK_FR hFU32 rfl hT) (at_fr hA (fun j => (hFU32.cx 907 rfl j).1) (fun j => (hFU32.cx 908 rfl j).1) (by omega) (by omega) (by omega) (by omega)) eU33 (by omega) (by omega)
              have w374 : Xi U33 952 (Xi S 904 93).toNat = Xi U25 952 (Xi S 904 93).toNat := (show Xi U33 952 (Xi S 904 93).toNat = Xi U32 952 (Xi S 904 93).toNat from by rw [eU33]; exact Xi_ne (by omega)).trans ((show Xi U32 952 (Xi S 904 93).toNat = Xi U25 952 (Xi S 904 93).toNat from by rw [eU32]; exact Xi_ne (by omega)))
              have w375 : Xi U33 957 (Xi S 904 93).toNat = Xi S 957 (Xi S 904 93).toNat := (show Xi U33 957 (Xi S 904 93).toNat = Xi U32 957 (Xi S 904 93).toNat from by rw [eU33]; exact Xi_ne (by omega)).trans ( (show Xi U32 957 (Xi S 904 93).toNat = Xi U25 957 (Xi S 904 93).toNat from by rw [eU32]; exact Xi_ne (by omega)).trans ((show Xi U25 957 (Xi S 904 93).toNat = Xi S 957 (Xi S 904 93).toNat from by rw [eU25]; exact Xi_ne (by omega))))
              have w376 : Xi U33 960 (Xi S 904 93).toNat = Xi S 960 (Xi S 904 93).toNat := (show Xi U33 960 (Xi S 904 93).toNat = Xi U32 960 (Xi S 904 93).toNat from by rw [eU33]; exact Xi_ne (by omega)).trans ( (show Xi U32 960 (Xi S 904 93).toNat = Xi U25 960 (Xi S 904 93).toNat from by rw [eU32]; exact Xi_ne (by omega)).trans ((show Xi U25 960 (Xi S 904 93).toNat = Xi S 960 (Xi S 904 93).toNat from by rw [eU25]; exact Xi_ne (by omega))))
              have w377 : Xi U33 904 65 = Xi S 904 65 := (show Xi U33 904 65 = Xi U32 904 65 from by rw [eU33]; exact Xi_ne (by omega)).trans ( (show Xi U32 904 65 = Xi U25 904 65 from by rw [eU32]; exact Xi_ne (by omega)).trans ((show Xi U25 904 65 = Xi S 904 65 from by rw [eU25]; exact Xi_ne (by omega))))
              have w378 : 0 ≤ Xi S 904 65 ∧ Xi S 904 65 ≤ 1 := hH.c _ _
              have w379 : Xi U33 904 69 = Xi S 904 69 := (show Xi U33 904 69 = Xi U32 904 69 from by rw [eU33]; exact Xi_ne (by omega)).trans ( (show Xi U32 904 69 = Xi U25 904 69 from by rw [eU32]; exact Xi_ne (by omega)).trans ((show Xi U25 904 69 = Xi S 904 69 from by rw [eU25]; exact Xi_ne (by omega))))
              have w380 : 0 ≤ Xi S 904 69 ∧ Xi S 904 69 ≤ 2600 := hH.c _ _
              have w381 : Xi U33 904 78 = Xi S 904 78 := (show Xi U33 904 78 = Xi U32 904 78 from by rw [eU33]; exact Xi_ne (by omega)).trans ( (show Xi U32 904 78 = Xi U25 904 78 from by rw [eU32]; exact Xi_ne (by omega)).trans ((show Xi U25 904 78 = Xi S 904 78 from by rw [eU25]; exact Xi_ne (by omega))))
              have w382 : -2 ≤ Xi S 904 78 ∧ Xi S 904 78 ≤ 5010 := hH.c _ _
              have w383 : 0 ≤ Xi U33 904 8 ∧ Xi U33 904 8 ≤ 5010 := hHU33.c _ _
              have w384 : Xi U33 904 93 = Xi S 904 93 := (show Xi U33 904 93 = Xi U32 904 93 from by rw [eU33]; exact Xi_ne (by omega)).trans ( (show Xi U32 904 93 = Xi U25 904 93 from by rw [eU32]; exact Xi_ne (by omega)).trans ((show Xi U25 904 93 = Xi S 904 93 from by rw [eU25]; exact Xi_ne (by omega))))
              have w385 : 0 ≤ Xi S 904 93 ∧ Xi S 904 93 ≤ 1700 := hH.c _ _
              exact Rl_weak (C147 U33 hHU33 hFU33  (t144.1) (by first | assumption | exact (RNV_FR (FR_e eU33) rfl (RNV_FR (FR_e eU32) rfl (RNV_FR (FR_e eU25) rfl (by assumption : RNV S _))))) (by omega) (by omega) (by omega) (by omega) (by omega) ((KT_FR (FR_e eU33) rfl (KT.w (KT.w KT.rf eU25 (by omega)) eU32 (by omega))))) (And.intro rfl (True.intro))
            · refine l_iconst rfl ?_
              refine l_goto rfl rfl ?_
              refine l_iadd rfl ?_
              refine l_pfi rfl rfl rfl rfl ?_
              obtain ⟨U34, eU34⟩ : ∃ T : sS, T = uI U32 904 8 (Int32.ofInt ((Xi S 904 8) + 1)) := ⟨_, rfl⟩
              rw [← eU34]
              have hHU34 : HI U34 := by rw [eU34]; exact HI_w hHU32 (show 0 ≤ ((Xi S 904 8) + 1) by omega) (show ((Xi S 904 8) + 1) ≤ 5010 by omega)
              have hFU34 : FR md_mo_testedWhat S U34 := by rw [eU34]; exact FR.wI hFU32 (mdf_i (r := (904, 905, 8, 9)) (List.mem_of_getElem? (i := 0) rfl) (inR_i (by omega) (by omega) (by omega) (by omega)))
              have w386 : Xi U34 904 8 = ((Xi S 904 8) + 1) := by rw [eU34]; exact Xi_same (by unfold rg; omega)
              have t144 : AT U34 n c ∧ Xi U32 904 8 ≤ Xi U34 904 8 ∧ (Xi U34 904 8 ≤ n ∨ Xi U34 904 8 = Xi U32 904 8) := at_opt (TK_FR hFU32 rfl hT) (at_fr hA (fun j => (hFU32.cx 907 rfl j).1) (fun j => (hFU32.cx 908 rfl j).1) (by omega) (by omega) (by omega) (by omega)) eU34 (by omega) (by omega)
              have w387 : Xi U34 952 (Xi S 904 93).toNat = Xi U25 952 (Xi S 904 93).toNat := (show Xi U34 952 (Xi S 904 93).toNat = Xi U32 952 (Xi S 904 93).toNat from by rw [eU34]; exact Xi_ne (by omega)).trans ((show Xi U32 952 (Xi S 904 93).toNat = Xi U25 952 (Xi S 904 93).toNat from by rw [eU32]; exact Xi_ne (by omega)))
              have w388 : Xi U34 957 (Xi S 904 93).toNat = Xi S 957 (Xi S 904 93).toNat := (show Xi U34 957 (Xi S 904 93).toNat = Xi U32 957 (Xi S 904 93).toNat from by rw [eU34]; exact Xi_ne (by omega)).trans ( (show Xi U32 957 (Xi S 904 93).toNat = Xi U25 957 (Xi S 904 93).toNat from by rw [eU32]; exact Xi_ne (by omega)).trans ((show Xi U25 957 (Xi S 904 93).toNat = Xi S 957 (Xi S 904 93).toNat from by rw [eU25]; exact Xi_ne (by omega))))
              have w389 : Xi U34 960 (Xi S 904 93).toNat = Xi S 960 (Xi S 904 93).toNat := (show Xi U34 960 (Xi S 904 93).toNat = Xi U32 960 (Xi S 904 93).toNat from by rw [eU34]; exact Xi_ne (by omega)).trans ( (show Xi U32 960 (Xi S 904 93).toNat = Xi U25 960 (Xi S 904 93).toNat from by rw [eU32]; exact Xi_ne (by omega)).trans ((show Xi U25 960 (Xi S 904 93).toNat = Xi S 960 (Xi S 904 93).toNat from by rw [eU25]; exact Xi_ne (by omega))))
              have w390 : Xi U34 904 65 = Xi S 904 65 := (show Xi U34 904 65 = Xi U32 904 65 from by rw [eU34]; exact Xi_ne (by omega)).trans ( (show Xi U32 904 65 = Xi U25 904 65 from by rw [eU32]; exact Xi_ne (by omega)).trans ((show Xi U25 904 65 = Xi S 904 65 from by rw [eU25]; exact Xi_ne (by omega))))
              have w391 : 0 ≤ Xi S 904 65 ∧ Xi S 904 65 ≤ 1 := hH.c _ _
              have w392 : Xi U34 904 69 = Xi S 904 69 := (show Xi U34 904 69 = Xi U32 904 69 from by rw [eU34]; exact Xi_ne (by omega)).trans ( (show Xi U32 904 69 = Xi U25 904 69 from by rw [eU32]; exact Xi_ne (by omega)).trans ((show Xi U25 904 69 = Xi S 904 69 from by rw [eU25]; exact Xi_ne (by omega))))
              have w393 : 0 ≤ Xi S 904 69 ∧ Xi S 904 69 ≤ 2600 := hH.c _ _
              have w394 : Xi U34 904 78 = Xi S 904 78 := (show Xi U34 904 78 = Xi U32 904 78 from by rw [eU34]; exact Xi_ne (by omega)).trans ( (show Xi U32 904 78 = Xi U25 904 78 from by rw [eU32]; exact Xi_ne (by omega)).trans ((show Xi U25 904 78 = Xi S 904 78 from by rw [eU25]; exact Xi_ne (by omega))))
              have w395 : -2 ≤ Xi S 904 78 ∧ Xi S 904 78 ≤ 5010 := hH.c _ _
              have w396 : 0 ≤ Xi U34 904 8 ∧ Xi U34 904 8 ≤ 5010 := hHU34.c _ _
              have w397 : Xi U34 904 93 = Xi S 904 93 := (show Xi U34 904 93 = Xi U32 904 93 from by rw [eU34]; exact Xi_ne (by omega)).trans ( (show Xi U32 904 93 = Xi U25 904 93 from by rw [eU32]; exact Xi_ne (by omega)).trans ((show Xi U25 904 93 = Xi S 904 93 from by rw [eU25]; exact Xi_ne (by omega))))
              have w398 : 0 ≤ Xi S 904 93 ∧ Xi S 904 93 ≤ 1700 := hH.c _ _
              exact Rl_weak (C147 U34 hHU34 hFU34  (t144.1) (by first | assumption | exact (RNV_FR (FR_e eU34) rfl (RNV_FR (FR_e eU32) rfl (RNV_FR (FR_e eU25) rfl (by assumption : RNV S _))))) (by omega) (by omega) (by omega) (by omega) (by omega) ((KT_FR (FR_e eU34) rfl (KT.w (KT.w KT.rf eU25 (by omega)) eU32 (by omega))))) (And.intro rfl (True.intro))
      · refine l_aload_n rfl rfl ?_
        refine l_gfr rfl rfl rfl rfl rfl (hH.r 904 82 952 rfl) ?_
        refine l_aload_n rfl rfl ?_
        refine l_gfi rfl rfl rfl rfl rfl ?_
        refine l_aload_n rfl rfl ?_
        refine l_sipush rfl rfl ?_
        have w399 : 0 ≤ Xi S 904 65 ∧ Xi S 904 65 ≤ 1 := hH.c _ _
        have w400 : 0 ≤ Xi S 904 69 ∧ Xi S 904 69 ≤ 2600 := hH.c _ _
        have w401 : -2 ≤ Xi S 904 78 ∧ Xi S 904 78 ≤ 5010 := hH.c _ _
        have w402 : 0 ≤ Xi S 904 8 ∧ Xi S 904 8 ≤ 5010 := hH.c _ _
        have w403 : 0 ≤ Xi S 904 93 ∧ Xi S 904 93 ≤ 1700 := hH.c _ _
        refine l_callV rfl rfl rfl (t_mo_isNext hH n c 151 ⟨by omega, by omega⟩ (by first | assumption | exact (TK_FR hF rfl (by assumption : TK S _))) (by first | assumption | exact (by assumption : AT S _ _)) _) ?_
        rintro _ _ ⟨rfl, z406, rfl, w406, w404, w405⟩
        show Rl _ _ _ _ _ [iv z406, iv (Xi S 904 93), .ref 952] _ _
        refine l_if_eq rfl rfl (by unfold rg; omega) (fun w407 => ?_) (fun w408 => ?_)
        · refine l_iconst rfl ?_
          refine l_iastore (n := 1700) rfl rfl (by omega) (by omega) (by unfold rg; omega) ?_
          obtain ⟨U35, eU35⟩ : ∃ T : sS, T = uI S 952 (((Xi S 904 93)).toNat) (Int32.ofInt 2) := ⟨_, rfl⟩
          rw [← eU35]
          have hHU35 : HI U35 := by rw [eU35]; exact HI_w hH (show 0 ≤ 2 by omega) (show 2 ≤ 5 by omega)
          have hFU35 : FR md_mo_testedWhat S U35 := by rw [eU35]; exact FR.wI hF (mdf_i (r := (952, 953, 0, 100000)) (List.mem_of_getElem? (i := 7) rfl) (inR_i (by omega) (by omega) (by omega) (by omega)))
          have w409 : Xi U35 952 (((Xi S 904 93)).toNat) = 2 := by rw [eU35]; exact Xi_same (by unfold rg; omega)
          have s47_8 : Xi U35 904 8 = Xi S 904 8 := by rw [eU35, Xi_ne (by omega)]
          have s47_65 : Xi U35 904 65 = Xi S 904 65 := by rw [eU35, Xi_ne (by omega)]
          have s47_69 : Xi U35 904 69 = Xi S 904 69 := by rw [eU35, Xi_ne (by omega)]
          have s47_93 : Xi U35 904 93 = Xi S 904 93 := by rw [eU35, Xi_ne (by omega)]
          refine l_aload_n rfl rfl ?_
          refine l_dup rfl rfl ?_
          refine l_gfi rfl rfl rfl rfl rfl ?_
          have w410 : (Xi U35 904 8) = (Xi S 904 8) := (show Xi U35 904 8 = Xi S 904 8 from by rw [eU35]; exact Xi_ne (by omega))
          rw [w410]
          refine l_iconst rfl ?_
          refine l_iadd rfl ?_
          refine l_pfi rfl rfl rfl rfl ?_
          obtain ⟨U36, eU36⟩ : ∃ T : sS, T = uI U35 904 8 (Int32.ofInt ((Xi S 904 8) + 1)) := ⟨_, rfl⟩
          rw [← eU36]
          have hHU36 : HI U36 := by rw [eU36]; exact HI_w hHU35 (show 0 ≤ ((Xi S 904 8) + 1) by omega) (show ((Xi S 904 8) + 1) ≤ 5010 by omega)
          have hFU36 : FR md_mo_testedWhat S U36 := by rw [eU36]; exact FR.wI hFU35 (mdf_i (r := (904, 905, 8, 9)) (List.mem_of_getElem? (i := 0) rfl) (inR_i (by omega) (by omega) (by omega) (by omega)))
          have w411 : Xi U36 904 8 = ((Xi S 904 8) + 1) := by rw [eU36]; exact Xi_same (by unfold rg; omega)
          have t55 : AT U36 n c ∧ _ := at_mv hT hA (fun j => (hFU35.cx 907 rfl j).1) (fun j => (hFU35.cx 908 rfl j).1) (by omega) (by omega) (by omega) (by omega) eU36 (by omega) (by omega) (by omega) (by omega) (Or.inl rfl)
          have a55 : AT U36 n c := t55.1
          refine l_aload_n rfl rfl ?_
          refine l_sipush rfl rfl ?_
          have w412 : Xi U36 904 65 = Xi S 904 65 := (show Xi U36 904 65 = Xi U35 904 65 from by rw [eU36]; exact Xi_ne (by omega)).trans ((show Xi U35 904 65 = Xi S 904 65 from by rw [eU35]; exact Xi_ne (by omega)))
          have w413 : 0 ≤ Xi S 904 65 ∧ Xi S 904 65 ≤ 1 := hH.c _ _
          have w414 : Xi U36 904 69 = Xi S 904 69 := (show Xi U36 904 69 = Xi U35 904 69 from by rw [eU36]; exact Xi_ne (by omega)).trans ((show Xi U35 904 69 = Xi S 904 69 from by rw [eU35]; exact Xi_ne (by omega)))
          have w415 : 0 ≤ Xi S 904 69 ∧ Xi S 904 69 ≤ 2600 := hH.c _ _
          have w416 : Xi U36 904 78 = Xi S 904 78 := (show Xi U36 904 78 = Xi U35 904 78 from by rw [eU36]; exact Xi_ne (by omega)).trans ((show Xi U35 904 78 = Xi S 904 78 from by rw [eU35]; exact Xi_ne (by omega)))
          have w417 : -2 ≤ Xi S 904 78 ∧ Xi S 904 78 ≤ 5010 := hH.c _ _
          have w418 : 0 ≤ Xi U36 904 8 ∧ Xi U36 904 8 ≤ 5010 := hHU36.c _ _
          have w419 : Xi U36 904 93 = Xi S 904 93 := (show Xi U36 904 93 = Xi U35 904 93 from by rw [eU36]; exact Xi_ne (by omega)).trans ((show Xi U35 904 93 = Xi S 904 93 from by rw [eU35]; exact Xi_ne (by omega)))
          have w420 : 0 ≤ Xi S 904 93 ∧ Xi S 904 93 ≤ 1700 := hH.c _ _
          refine l_callV rfl rfl rfl (t_mo_take__2 hHU36 n c 150 ⟨by omega, by omega⟩ (by first | assumption | exact (TK_FR hFU36 rfl (by assumption : TK S _))) (by first | assumption | exact (by assumption : AT U36 _ _)) (by first | assumption | omega) _) ?_
          rintro _ T37 ⟨hHT37, w426, rfl, w421, w422, w423, w424⟩
          have hFT37 : FR md_mo_testedWhat S T37 := FR.tr hFU36 w426 rfl
          show Rl _ _ _ _ _ [] _ _
          refine l_aload_n rfl rfl ?_
          refine l_gfr rfl rfl rfl rfl rfl (hHT37.r 904 87 957 rfl) ?_
          refine l_aload_n rfl rfl ?_
          refine l_gfi rfl rfl rfl rfl rfl ?_
          have w427 : (Xi T37 904 93) = (Xi S 904 93) := (show Xi T37 904 93 = Xi U36 904 93 from w426.x _ _ rfl).trans ( (show Xi U36 904 93 = Xi U35 904 93 from by rw [eU36]; exact Xi_ne (by omega)).trans ((show Xi U35 904 93 = Xi S 904 93 from by rw [eU35]; exact Xi_ne (by omega))))
          rw [w427]
          refine l_aload_n rfl rfl ?_
          refine l_gfi rfl rfl rfl rfl rfl ?_
          have w428 : 0 ≤ (Xi T37 904 8) ∧ (Xi T37 904 8) ≤ 5010 := hHT37.c _ _
          refine l_iastore (n := 1700) rfl rfl (by omega) (by omega) (by unfold rg; omega) ?_
          obtain ⟨U38, eU38⟩ : ∃ T : sS, T = uI T37 957 (((Xi S 904 93)).toNat) (Int32.ofInt (Xi T37 904 8)) := ⟨_, rfl⟩
          rw [← eU38]
          have hHU38 : HI U38 := by rw [eU38]; exact HI_w hHT37 (show 0 ≤ (Xi T37 904 8) by omega) (show (Xi T37 904 8) ≤ 5010 by omega)
          have hFU38 : FR md_mo_testedWhat S U38 := by rw [eU38]; exact FR.wI hFT37 (mdf_i (r := (957, 958, 0, 100000)) (List.mem_of_getElem? (i := 9) rfl) (inR_i (by omega) (by omega) (by omega) (by omega)))
          have w429 : Xi U38 957 (((Xi S 904 93)).toNat) = (Xi T37 904 8) := by rw [eU38]; exact Xi_same (by unfold rg; omega)
          refine l_aload_n rfl rfl ?_
          refine l_iconst rfl ?_
          have w430 : Xi U38 904 65 = Xi T37 904 65 := (show Xi U38 904 65 = Xi T37 904 65 from by rw [eU38]; exact Xi_ne (by omega))
          have w431 : 0 ≤ Xi T37 904 65 ∧ Xi T37 904 65 ≤ 1 := hHT37.c _ _
          have w432 : Xi U38 904 69 = Xi S 904 69 := (show Xi U38 904 69 = Xi T37 904 69 from by rw [eU38]; exact Xi_ne (by omega)).trans ( (show Xi T37 904 69 = Xi U36 904 69 from w426.x _ _ rfl).trans ( (show Xi U36 904 69 = Xi U35 904 69 from by rw [eU36]; exact Xi_ne (by omega)).trans ((show Xi U35 904 69 = Xi S 904 69 from by rw [eU35]; exact Xi_ne (by omega)))))
          have w433 : 0 ≤ Xi S 904 69 ∧ Xi S 904 69 ≤ 2600 := hH.c _ _
          have w434 : Xi U38 904 78 = Xi S 904 78 := (show Xi U38 904 78 = Xi T37 904 78 from by rw [eU38]; exact Xi_ne (by omega)).trans ( (show Xi T37 904 78 = Xi U36 904 78 from w426.x _ _ rfl).trans ( (show Xi U36 904 78 = Xi U35 904 78 from by rw [eU36]; exact Xi_ne (by omega)).trans ((show Xi U35 904 78 = Xi S 904 78 from by rw [eU35]; exact Xi_ne (by omega)))))
          have w435 : -2 ≤ Xi S 904 78 ∧ Xi S 904 78 ≤ 5010 := hH.c _ _
          have w436 : Xi U38 904 8 = Xi T37 904 8 := (show Xi U38 904 8 = Xi T37 904 8 from by rw [eU38]; exact Xi_ne (by omega))
          have w437 : 0 ≤ Xi T37 904 8 ∧ Xi T37 904 8 ≤ 5010 := hHT37.c _ _
          have w438 : Xi U38 904 93 = Xi S 904 93 := (show Xi U38 904 93 = Xi T37 904 93 from by rw [eU38]; exact Xi_ne (by omega)).trans ( (show Xi T37 904 93 = Xi U36 904 93 from w426.x _ _ rfl).trans ( (show Xi U36 904 93 = Xi U35 904 93 from by rw [eU36]; exact Xi_ne (by omega)).trans ((show Xi U35 904 93 = Xi S 904 93 from by rw [eU35]; exact Xi_ne (by omega)))))
          have w439 : 0 ≤ Xi S 904 93 ∧ Xi S 904 93 ≤ 1700 := hH.c _ _
          refine l_callV rfl rfl rfl (t_mo_take__2 hHU38 n c 4 ⟨by omega, by omega⟩ (by first | assumption | exact (TK_FR hFU38 rfl (by assumption : TK S _))) (by first | assumption | exact (AT_FR (FR_e eU38) rfl (by assumption : AT T37 _ _))) (by first | assumption | omega) _) ?_
          rintro _ T39 ⟨hHT39, w445, rfl, w440, w441, w442, w443⟩
          have hFT39 : FR md_mo_testedWhat S T39 := FR.tr hFU38 w445 rfl
          show Rl _ _ _ _ _ [] _ _
          refine l_return rfl rfl ?_
          have w446 : Xi T39 952 (Xi S 904 93).toNat = Xi U35 952 (Xi S 904 93).toNat := (show Xi T39 952 (Xi S 904 93).toNat = Xi U38 952 (Xi S 904 93).toNat from (w445.cx 952 rfl _).1).trans ( (show Xi U38 952 (Xi S 904 93).toNat = Xi T37 952 (Xi S 904 93).toNat from by rw [eU38]; exact Xi_ne (by omega)).trans ( (show Xi T37 952 (Xi S 904 93).toNat = Xi U36 952 (Xi S 904 93).toNat from (w426.cx 952 rfl _).1).trans ((show Xi U36 952 (Xi S 904 93).toNat = Xi U35 952 (Xi S 904 93).toNat from by rw [eU36]; exact Xi_ne (by omega)))))
          have w447 : Xi T39 957 (Xi S 904 93).toNat = Xi U38 957 (Xi S 904 93).toNat := (show Xi T39 957 (Xi S 904 93).toNat = Xi U38 957 (Xi S 904 93).toNat from (w445.cx 957 rfl _).1)
          have w448 : Xi T39 960 (Xi S 904 93).toNat = Xi S 960 (Xi S 904 93).toNat := (show Xi T39 960 (Xi S 904 93).toNat = Xi U38 960 (Xi S 904 93).toNat from (w445.cx 960 rfl _).1).trans ( (show Xi U38 960 (Xi S 904 93).toNat = Xi T37 960 (Xi S 904 93).toNat from by rw [eU38]; exact Xi_ne (by omega)).trans ( (show Xi T37 960 (Xi S 904 93).toNat = Xi U36 960 (Xi S 904 93).toNat from (w426.cx 960 rfl _).1).trans ( (show Xi U36 960 (Xi S 904 93).toNat = Xi U35 960 (Xi S 904 93).toNat from by rw [eU36]; exact Xi_ne (by omega)).trans ((show Xi U35 960 (Xi S 904 93).toNat = Xi S 960 (Xi S 904 93).toNat from by rw [eU35]; exact Xi_ne (by omega))))))
          have w449 : 0 ≤ Xi T39 904 65 ∧ Xi T39 904 65 ≤ 1 := hHT39.c _ _
          have w450 : Xi T39 904 69 = Xi S 904 69 := (show Xi T39 904 69 = Xi U38 904 69 from w445.x _ _ rfl).trans ( (show Xi U38 904 69 = Xi T37 904 69 from by rw [eU38]; exact Xi_ne (by omega)).trans ( (show Xi T37 904 69 = Xi U36 904 69 from w426.x _ _ rfl).trans ( (show Xi U36 904 69 = Xi U35 904 69 from by rw [eU36]; exact Xi_ne (by omega)).trans ((show Xi U35 904 69 = Xi S 904 69 from by rw [eU35]; exact Xi_ne (by omega))))))
          have w451 : 0 ≤ Xi S 904 69 ∧ Xi S 904 69 ≤ 2600 := hH.c _ _
          have w452 : Xi T39 904 78 = Xi S 904 78 := (show Xi T39 904 78 = Xi U38 904 78 from w445.x _ _ rfl).trans ( (show Xi U38 904 78 = Xi T37 904 78 from by rw [eU38]; exact Xi_ne (by omega)).trans ( (show Xi T37 904 78 = Xi U36 904 78 from w426.x _ _ rfl).trans ( (show Xi U36 904 78 = Xi U35 904 78 from by rw [eU36]; exact Xi_ne (by omega)).trans ((show Xi U35 904 78 = Xi S 904 78 from by rw [eU35]; exact Xi_ne (by omega))))))
          have w453 : -2 ≤ Xi S 904 78 ∧ Xi S 904 78 ≤ 5010 := hH.c _ _
          have w454 : 0 ≤ Xi T39 904 8 ∧ Xi T39 904 8 ≤ 5010 := hHT39.c _ _
          have w455 : Xi T39 904 93 = Xi S 904 93 := (show Xi T39 904 93 = Xi U38 904 93 from w445.x _ _ rfl).trans ( (show Xi U38 904 93 = Xi T37 904 93 from by rw [eU38]; exact Xi_ne (by omega)).trans ( (show Xi T37 904 93 = Xi U36 904 93 from w426.x _ _ rfl).trans ( (show Xi U36 904 93 = Xi U35 904 93 from by rw [eU36]; exact Xi_ne (by omega)).trans ((show Xi U35 904 93 = Xi S 904 93 from by rw [eU35]; exact Xi_ne (by omega))))))
          have w456 : 0 ≤ Xi S 904 93 ∧ Xi S 904 93 ≤ 1700 := hH.c _ _
          exact ⟨hHT39, hFT39, rfl, (by first | assumption | exact (by assumption : AT T39 _ _)), (by omega), (by first | assumption | exact (RNV_FR w445 rfl (RNV_FR (FR_e eU38) rfl (RNV_FR w426 rfl (RNV_FR (FR_e eU36) rfl (RNV_FR (FR_e eU35) rfl (by assumption : RNV S _))))))), (by omega), (by omega), ((KT_FR w445 rfl (KT.w (KT_FR w426 rfl (KT_FR (FR_e eU36) rfl (KT.w KT.rf eU35 (by omega)))) eU38 (by omega)))), (by intro q; refine ⟨by omega, by omega, fun q0 => ?_⟩; first | (exfalso; omega) | (intro a b; have t := W148 (by omega) (Xi T39 957 (Xi S 904 93).toNat) (by omega) a b; omega))⟩
        · refine l_iconst rfl ?_
          refine l_goto rfl rfl ?_
          refine l_iastore (n := 1700) rfl rfl (by omega) (by omega) (by unfold rg; omega) ?_
          obtain ⟨U40, eU40⟩ : ∃ T : sS, T = uI S 952 (((Xi S 904 93)).toNat) (Int32.ofInt 1) := ⟨_, rfl⟩
          rw [← eU40]
          have hHU40 : HI U40 := by rw [eU40]; exact HI_w hH (show 0 ≤ 1 by omega) (show 1 ≤ 5 by omega)
          have hFU40 : FR md_mo_testedWhat S U40 := by rw [eU40]; exact FR.wI hF (mdf_i (r := (952, 953, 0, 100000)) (List.mem_of_getElem? (i := 7) rfl) (inR_i (by omega) (by omega) (by omega) (by omega)))
          have w457 : Xi U40 952 (((Xi S 904 93)).toNat) = 1 := by rw [eU40]; exact Xi_same (by unfold rg; omega)
          have s47_8 : Xi U40 904 8 = Xi S 904 8 := by rw [eU40, Xi_ne (by omega)]
          have s47_65 : Xi U40 904 65 = Xi S 904 65 := by rw [eU40, Xi_ne (by omega)]
          have s47_69 : Xi U40 904 69 = Xi S 904 69 := by rw [eU40, Xi_ne (by omega)]
          have s47_93 : Xi U40 904 93 = Xi S 904 93 := by rw [eU40, Xi_ne (by omega)]
          refine l_aload_n rfl rfl ?_
          refine l_dup rfl rfl ?_
          refine l_gfi rfl rfl rfl rfl rfl ?_
          have w458 : (Xi U40 904 8) = (Xi S 904 8) := (show Xi U40 904 8 = Xi S 904 8 from by rw [eU40]; exact Xi_ne (by omega))
          rw [w458]
          refine l_iconst rfl ?_
          refine l_iadd rfl ?_
          refine l_pfi rfl rfl rfl rfl ?_
          obtain ⟨U41, eU41⟩ : ∃ T : sS, T = uI U40 904 8 (Int32.ofInt ((Xi S 904 8) + 1)) := ⟨_, rfl⟩
          rw [← eU41]
          have hHU41 : HI U41 := by rw [eU41]; exact HI_w hHU40 (show 0 ≤ ((Xi S 904 8) + 1) by omega) (show ((Xi S 904 8) + 1) ≤ 5010 by omega)
          have hFU41 : FR md_mo_testedWhat S U41 := by rw [eU41]; exact FR.wI hFU40 (mdf_i (r := (904, 905, 8, 9)) (List.mem_of_getElem? (i := 0) rfl) (inR_i (by omega) (by omega) (by omega) (by omega)))
          have w459 : Xi U41 904 8 = ((Xi S 904 8) + 1) := by rw [eU41]; exact Xi_same (by unfold rg; omega)
          have t55 : AT U41 n c ∧ _ := at_mv hT hA (fun j => (hFU40.cx 907 rfl j).1) (fun j => (hFU40.cx 908 rfl j).1) (by omega) (by omega) (by omega) (by omega) eU41 (by omega) (by omega) (by omega) (by omega) (Or.inl rfl)
          have a55 : AT U41 n c := t55.1
          refine l_aload_n rfl rfl ?_
          refine l_sipush rfl rfl ?_
          have w460 : Xi U41 904 65 = Xi S 904 65 := (show Xi U41 904 65 = Xi U40 904 65 from by rw [eU41]; exact Xi_ne (by omega)).trans ((show Xi U40 904 65 = Xi S 904 65 from by rw [eU40]; exact Xi_ne (by omega)))
          have w461 : 0 ≤ Xi S 904 65 ∧ Xi S 904 65 ≤ 1 := hH.c _ _
          have w462 : Xi U41 904 69 = Xi S 904 69 := (show Xi U41 904 69 = Xi U40 904 69 from by rw [eU41]; exact Xi_ne (by omega)).trans ((show Xi U40 904 69 = Xi S 904 69 from by rw [eU40]; exact Xi_ne (by omega)))
          have w463 : 0 ≤ Xi S 904 69 ∧ Xi S 904 69 ≤ 2600 := hH.c _ _
          have w464 : Xi U41 904 78 = Xi S 904 78 := (show Xi U41 904 78 = Xi U40 904 78 from by rw [eU41]; exact Xi_ne (by omega)).trans ((show Xi U40 904 78 = Xi S 904 78 from by rw [eU40]; exact Xi_ne (by omega)))
          have w465 : -2 ≤ Xi S 904 78 ∧ Xi S 904 78 ≤ 5010 := hH.c _ _
          have w466 : 0 ≤ Xi U41 904 8 ∧ Xi U41 904 8 ≤ 5010 := hHU41.c _ _
          have w467 : Xi U41 904 93 = Xi S 904 93 := (show Xi U41 904 93 = Xi U40 904 93 from by rw [eU41]; exact Xi_ne (by omega)).trans ((show Xi U40 904 93 = Xi S 904 93 from by rw [eU40]; exact Xi_ne (by omega)))
          have w468 : 0 ≤ Xi S 904 93 ∧ Xi S 904 93 ≤ 1700 := hH.c _ _
          refine l_callV rfl rfl rfl (t_mo_take__2 hHU41 n c 150 ⟨by omega, by omega⟩ (by first | assumption | exact (TK_FR hFU41 rfl (by assumption : TK S _))) (by first | assumption | exact (by assumption : AT U41 _ _)) (by first | assumption | omega) _) ?_
          rintro _ T42 ⟨hHT42, w474, rfl, w469, w470, w471, w472⟩
          have hFT42 : FR md_mo_testedWhat S T42 := FR.tr hFU41 w474 rfl
          show Rl _ _ _ _ _ [] _ _
          refine l_aload_n rfl rfl ?_
          refine l_gfr rfl rfl rfl rfl rfl (hHT42.r 904 87 957 rfl) ?_
          refine l_aload_n rfl rfl ?_
          refine l_gfi rfl rfl rfl rfl rfl ?_
          have w475 : (Xi T42 904 93) = (Xi S 904 93) := (show Xi T42 904 93 = Xi U41 904 93 from w474.x _ _ rfl).trans ( (show Xi U41 904 93 = Xi U40 904 93 from by rw [eU41]; exact Xi_ne (by omega)).trans ((show Xi U40 904 93 = Xi S 904 93 from by rw [eU40]; exact Xi_ne (by omega))))
          rw [w475]
          refine l_aload_n rfl rfl ?_
          refine l_gfi rfl rfl rfl rfl rfl ?_
          have w476 : 0 ≤ (Xi T42 904 8) ∧ (Xi T42 904 8) ≤ 5010 := hHT42.c _ _
          refine l_iastore (n := 1700) rfl rfl (by omega) (by omega) (by unfold rg; omega) ?_
          obtain ⟨U43, eU43⟩ : ∃ T : sS, T = uI T42 957 (((Xi S 904 93)).toNat) (Int32.ofInt (Xi T42 904 8)) := ⟨_, rfl⟩
          rw [← eU43]
          have hHU43 : HI U43 := by rw [eU43]; exact HI_w hHT42 (show 0 ≤ (Xi T42 904 8) by omega) (show (Xi T42 904 8) ≤ 5010 by omega)
          have hFU43 : FR md_mo_testedWhat S U43 := by rw [eU43]; exact FR.wI hFT42 (mdf_i (r := (957, 958, 0, 100000)) (List.mem_of_getElem? (i := 9) rfl) (inR_i (by omega) (by omega) (by omega) (by omega)))
          have w477 : Xi U43 957 (((Xi S 904 93)).toNat) = (Xi T42 904 8) := by rw [eU43]; exact Xi_same (by unfold rg; omega)
          refine l_aload_n rfl rfl ?_
          refine l_iconst rfl ?_
          have w478 : Xi U43 904 65 = Xi T42 904 65 := (show Xi U43 904 65 = Xi T42 904 65 from by rw [eU43]; exact Xi_ne (by omega))
          have w479 : 0 ≤ Xi T42 904 65 ∧ Xi T42 904 65 ≤ 1 := hHT42.c _ _
          have w480 : Xi U43 904 69 = Xi S 904 69 := (show Xi U43 904 69 = Xi T42 904 69 from by rw [eU43]; exact Xi_ne (by omega)).trans ( (show Xi T42 904 69 = Xi U41 904 69 from w474.x _ _ rfl).trans ( (show Xi U41 904 69 = Xi U40 904 69 from by rw [eU41]; exact Xi_ne (by omega)).trans ((show Xi U40 904 69 = Xi S 904 69 from by rw [eU40]; exact Xi_ne (by omega)))))
          have w481 : 0 ≤ Xi S 904 69 ∧ Xi S 904 69 ≤ 2600 := hH.c _ _
          have w482 : Xi U43 904 78 = Xi S 904 78 := (show Xi U43 904 78 = Xi T42 904 78 from by rw [eU43]; exact Xi_ne (by omega)).trans ( (show Xi T42 904 78 = Xi U41 904 78 from w474.x _ _ rfl).trans ( (show Xi U41 904 78 = Xi U40 904 78 from by rw [eU41]; exact Xi_ne (by omega)).trans ((show Xi U40 904 78 = Xi S 904 78 from by rw [eU40]; exact Xi_ne (by omega)))))
          have w483 : -2 ≤ Xi S 904 78 ∧ Xi S 904 78 ≤ 5010 := hH.c _ _
          have w484 : Xi U43 904 8 = Xi T42 904 8 := (show Xi U43 904 8 = Xi T42 904 8 from by rw [eU43]; exact Xi_ne (by omega))
          have w485 : 0 ≤ Xi T42 904 8 ∧ Xi T42 904 8 ≤ 5010 := hHT42.c _ _
          have w486 : Xi U43 904 93 = Xi S 904 93 := (show Xi U43 904 93 = Xi T42 904 93 from by rw [eU43]; exact Xi_ne (by omega)).trans ( (show Xi T42 904 93 = Xi U41 904 93 from w474.x _ _ rfl).trans ( (show Xi U41 904 93 = Xi U40 904 93 from by rw [eU41]; exact Xi_ne (by omega)).trans ((show Xi U40 904 93 = Xi S 904 93 from by rw [eU40]; exact Xi_ne (by omega)))))
          have w487 : 0 ≤ Xi S 904 93 ∧ Xi S 904 93 ≤ 1700 := hH.c _ _
          refine l_callV rfl rfl rfl (t_mo_take__2 hHU43 n c 4 ⟨by omega, by omega⟩ (by first | assumption | exact (TK_FR hFU43 rfl (by assumption : TK S _))) (by first | assumption | exact (AT_FR (FR_e eU43) rfl (by assumption : AT T42 _ _))) (by first | assumption | omega) _) ?_
          rintro _ T44 ⟨hHT44, w493, rfl, w488, w489, w490, w491⟩
          have hFT44 : FR md_mo_testedWhat S T44 := FR.tr hFU43 w493 rfl
          show Rl _ _ _ _ _ [] _ _
          refine l_return rfl rfl ?_
          have w494 : Xi T44 952 (Xi S 904 93).toNat = Xi U40 952 (Xi S 904 93).toNat := (show Xi T44 952 (Xi S 904 93).toNat = Xi U43 952 (Xi S 904 93).toNat from (w493.cx 952 rfl _).1).trans ( (show Xi U43 952 (Xi S 904 93).toNat = Xi T42 952 (Xi S 904 93).toNat from by rw [eU43]; exact Xi_ne (by omega)).trans ( (show Xi T42 952 (Xi S 904 93).toNat = Xi U41 952 (Xi S 904 93).toNat from (w474.cx 952 rfl _).1).trans ((show Xi U41 952 (Xi S 904 93).toNat = Xi U40 952 (Xi S 904 93).toNat from by rw [eU41]; exact Xi_ne (by omega)))))
          have w495 : Xi T44 957 (Xi S 904 93).toNat = Xi U43 957 (Xi S 904 93).toNat := (show Xi T44 957 (Xi S 904 93).toNat = Xi U43 957 (Xi S 904 93).toNat from (w493.cx 957 rfl _).1)
          have w496 : Xi T44 960 (Xi S 904 93).toNat = Xi S 960 (Xi S 904 93).toNat := (show Xi T44 960 (Xi S 904 93).toNat = Xi U43 960 (Xi S 904 93).toNat from (w493.cx 960 rfl _).1).trans ( (show Xi U43 960 (Xi S 904 93).toNat = Xi T42 960 (Xi S 904 93).toNat from by rw [eU43]; exact Xi_ne (by omega)).trans ( (show Xi T42 960 (Xi S 904 93).toNat = Xi U41 960 (Xi S 904 93).toNat from (w474.cx 960 rfl _).1).trans ( (show Xi U41 960 (Xi S 904 93).toNat = Xi U40 960 (Xi S 904 93).toNat from by rw [eU41]; exact Xi_ne (by omega)).trans ((show Xi U40 960 (Xi S 904 93).toNat = Xi S 960 (Xi S 904 93).toNat from by rw [eU40]; exact Xi_ne (by omega))))))
          have w497 : 0 ≤ Xi T44 904 65 ∧ Xi T44 904 65 ≤ 1 := hHT44.c _ _
          have w498 : Xi T44 904 69 = Xi S 904 69 := (show Xi T44 904 69 = Xi U43 904 69 from w493.x _ _ rfl).trans ( (show Xi U43 904 69 = Xi T42 904 69 from by rw [eU43]; exact Xi_ne (by omega)).trans ( (show Xi T42 904 69 = Xi U41 904 69 from w474.x _ _ rfl).trans ( (show Xi U41 904 69 = Xi U40 904 69 from by rw [eU41]; exact Xi_ne (by omega)).trans ((show Xi U40 904 69 = Xi S 904 69 from by rw [eU40]; exact Xi_ne (by omega))))))
          have w499 : 0 ≤ Xi S 904 69 ∧ Xi S 904 69 ≤ 2600 := hH.c _ _
          have w500 : Xi T44 904 78 = Xi S 904 78 := (show Xi T44 904 78 = Xi U43 904 78 from w493.x _ _ rfl).trans ( (show Xi U43 904 78 = Xi T42 904 78 from by rw [eU43]; exact Xi_ne (by omega)).trans ( (show Xi T42 904 78 = Xi U41 904 78 from w474.x _ _ rfl).trans ( (show Xi U41 904 78 = Xi U40 904 78 from by rw [eU41]; exact Xi_ne (by omega)).trans ((show Xi U40 904 78 = Xi S 904 78 from by rw [eU40]; exact Xi_ne (by omega))))))
          have w501 : -2 ≤ Xi S 904 78 ∧ Xi S 904 78 ≤ 5010 := hH.c _ _
          have w502 : 0 ≤ Xi T44 904 8 ∧ Xi T44 904 8 ≤ 5010 := hHT44.c _ _
          have w503 : Xi T44 904 93 = Xi S 904 93 := (show Xi T44 904 93 = Xi U43 904 93 from w493.x _ _ rfl).trans ( (show Xi U43 904 93 = Xi T42 904 93 from by rw [eU43]; exact Xi_ne (by omega)).trans ( (show Xi T42 904 93 = Xi U41 904 93 from w474.x _ _ rfl).trans ( (show Xi U41 904 93 = Xi U40 904 93 from by rw [eU41]; exact Xi_ne (by omega)).trans ((show Xi U40 904 93 = Xi S 904 93 from by rw [eU40]; exact Xi_ne (by omega))))))
          have w504 : 0 ≤ Xi S 904 93 ∧ Xi S 904 93 ≤ 1700 := hH.c _ _
          exact ⟨hHT44, hFT44, rfl, (by first | assumption | exact (by assumption : AT T44 _ _)), (by omega), (by first | assumption | exact (RNV_FR w493 rfl (RNV_FR (FR_e eU43) rfl (RNV_FR w474 rfl (RNV_FR (FR_e eU41) rfl (RNV_FR (FR_e eU40) rfl (by assumption : RNV S _))))))), (by omega), (by omega), ((KT_FR w493 rfl (KT.w (KT_FR w474 rfl (KT_FR (FR_e eU41) rfl (KT.w KT.rf eU40 (by omega)))) eU43 (by omega)))), (by intro q; refine ⟨by omega, by omega, fun q0 => ?_⟩; first | (exfalso; omega) | (intro a b; have t := W148 (by omega) (Xi T44 957 (Xi S 904 93).toNat) (by omega) a b; omega))⟩
def md_mo_test : List rec := [(904, 905, 8, 9), (904, 905, 65, 66), (904, 905, 66, 67), (904, 905, 69, 70), (904, 905, 78, 79), (904, 905, 93, 94), (904, 905, 99, 100), (904, 905, 100, 101), (904, 905, 101, 102), (950, 951, 0, 100000), (951, 952, 0, 100000), (952, 953, 0, 100000), (953, 954, 0, 100000), (954, 955, 0, 100000), (955, 956, 0, 100000), (956, 957, 0, 100000), (957, 958, 0, 100000), (958, 959, 0, 100000), (959, 960, 0, 100000), (960, 961, 0, 100000), (961, 962, 0, 100000), (962, 963, 0, 100000)]
abbrev Q_mo_test (S : sS) (n : Nat) (c : Nat) (isNow : Int) : pst := fun r S1 => HI S1 ∧ FR md_mo_test S S1 ∧ (r = none ∧ (AT S1 n (c - 1)) ∧ (Xi S 904 8 ≤ Xi S1 904 8 ∧ (Xi S1 904 8 ≤ n ∨ Xi S1 904 8 = Xi S 904 8)) ∧ (RNV S1 n) ∧ (Xi S1 904 65 = 0 → Xi S 904 65 = 0) ∧ (Xi S 904 69 ≤ Xi S1 904 69) ∧ (KT S1 S (Xi S 904 93)) ∧ (Xi S1 904 93 = Xi S 904 93 + 1) ∧ (Xi S1 904 65 = 0 → TV S1 n (Xi S 904 93).toNat))
set_option maxRecDepth 100000 in
theorem t_mo_test {S : sS} (hH : HI S) (n : Nat) (c : Nat) (isNow : Int) (hisNow : 0 ≤ isNow ∧ isNow ≤ 1) (hT : TK S n) (hA : AT S n c) (hv : RNV S n) (tc : Xi S 904 93 ≤ 1699) (hx : Xi S 904 8 ≤ n) (hc : 1 ≤ c) (d : Nat) : Mt lay0 (d + 6) m_mo_test [.ref 904, iv isNow] S (Q_mo_test S n c isNow) := by
  refine Mt_R rfl rfl ?_
  have hF : FR md_mo_test S S := FR.rf
  have w1 : 0 ≤ Xi S 904 65 ∧ Xi S 904 65 ≤ 1 := hH.c _ _
  have w2 : 0 ≤ Xi S 904 69 ∧ Xi S 904 69 ≤ 2600 := hH.c _ _
  have w3 : 0 ≤ Xi S 904 8 ∧ Xi S 904 8 ≤ 5010 := hH.c _ _
  have w4 : 0 ≤ Xi S 904 93 ∧ Xi S 904 93 ≤ 1700 := hH.c _ _
  have hn5 := hT.1
  have hat := hA
  have h8 : 0 ≤ Xi S 904 8 ∧ Xi S 904 8 ≤ 5010 := hH.c _ _
  have h69 : 0 ≤ Xi S 904 69 ∧ Xi S 904 69 ≤ 2600 := hH.c _ _
  have ha0 : Xi S 904 65 = 0 → Xi S 904 8 ≤ n := fun q => (hA q).1
  have ha3 : Xi S 904 65 = 0 → 2 * Xi S 904 69 ≤ Xi S 904 8 + 1 := fun q => (hA q).2.1
  clear hat
  have C13 : ∀ (n13 : Nat) (v2 : Int) (v3 : Int) (v4 : Int), (0 ≤ v2 ∧ v2 ≤ 5010) → (0 ≤ v3 ∧ v3 ≤ 1) → (0 ≤ v4 ∧ v4 ≤ 5001) → (Xi S 904 8 ≤ v4 ∧ v4 ≤ n) → n13 = (5002 - v4).toNat → Rl lay0 (d + 5) m_mo_test 13 [(0, .ref 904), (1, iv isNow), (2, iv v2), (3, iv v3), (4, iv v4)] [] S (Q_mo_test S n c isNow) := by
    intro n13
    induction n13 using Nat.strongRecOn with
    | ind n13 ih13 =>
      intro v2 v3 v4 w5 w6 w7 w8 hm13
      have C351 : ∀  (T1 : sS) (_ : HI T1) (_ : FR md_mo_test S T1), (AT T1 n c) → (RNV T1 n) → (Xi S 904 8 ≤ Xi T1 904 8) → (Xi T1 904 8 ≤ n) → (Xi T1 904 93 = Xi S 904 93) → (Xi S 904 69 ≤ Xi T1 904 69) → (Xi T1 904 65 = 0 → Xi S 904 65 = 0) → (Xi T1 961 (Xi S 904 93).toNat = Xi S 904 8) → (KT T1 S (Xi S 904 93)) → (Xi T1 904 65 = 0 → TVx T1 n (Xi S 904 93).toNat) → Rl lay0 (d + 5) m_mo_test 351 [(0, .ref 904), (1, iv isNow)] [] T1 (Q_mo_test S n c isNow) := by
        intro T1 hHT1 hFT1 A351 V351 w9 w10 w11 w12 w13 w14 K351 E351
        have w15 : 0 ≤ Xi T1 904 65 ∧ Xi T1 904 65 ≤ 1 := hHT1.c _ _
        have w16 : 0 ≤ Xi T1 904 69 ∧ Xi T1 904 69 ≤ 2600 := hHT1.c _ _
        have w17 : 0 ≤ Xi T1 904 8 ∧ Xi T1 904 8 ≤ 5010 := hHT1.c _ _
        have w18 : 0 ≤ Xi T1 904 93 ∧ Xi T1 904 93 ≤ 1700 := hHT1.c _ _
        refine l_aload_n rfl rfl ?_
        refine l_gfr rfl rfl rfl rfl rfl (hHT1.r 904 92 962 rfl) ?_
        refine l_aload_n rfl rfl ?_
        refine l_gfi rfl rfl rfl rfl rfl ?_
        refine l_aload_n rfl rfl ?_
        refine l_gfi rfl rfl rfl rfl rfl ?_
        refine l_iastore (n := 1700) rfl rfl (by omega) (by omega) (by unfold rg; omega) ?_
        obtain ⟨U2, eU2⟩ : ∃ T : sS, T = uI T1 962 (((Xi T1 904 93)).toNat) (Int32.ofInt (Xi T1 904 8)) := ⟨_, rfl⟩
        rw [← eU2]
        have hHU2 : HI U2 := by rw [eU2]; exact HI_w hHT1 (show 0 ≤ (Xi T1 904 8) by omega) (show (Xi T1 904 8) ≤ 5010 by omega)
        have hFU2 : FR md_mo_test S U2 := by rw [eU2]; exact FR.wI hFT1 (mdf_i (r := (962, 963, 0, 100000)) (List.mem_of_getElem? (i := 21) rfl) (inR_i (by omega) (by omega) (by omega) (by omega)))
        have w19 : Xi U2 962 (((Xi T1 904 93)).toNat) = (Xi T1 904 8) := by rw [eU2]; exact Xi_same (by unfold rg; omega)
        have e363 : Xi U2 962 (Xi S 904 93).toNat = Xi T1 904 8 := by rw [show (Xi S 904 93).toNat = (Xi T1 904 93).toNat by omega]; assumption
        have E363 : Xi U2 904 65 = 0 → TVx U2 n (Xi S 904 93).toNat := fun q => tvx_w (E351 (by rw [eU2, Xi_ne (by omega)] at q; exact q)) eU2 (by omega)
        refine l_aload_n rfl rfl ?_
        refine l_gfi rfl rfl rfl rfl rfl ?_
        have w20 : (Xi U2 904 65) = (Xi T1 904 65) := (show Xi U2 904 65 = Xi T1 904 65 from by rw [eU2]; exact Xi_ne (by omega))
        rw [w20]
        refine l_if_ne rfl rfl (by unfold rg; omega) (fun w21 => ?_) (fun w22 => ?_)
        · refine l_aload_n rfl rfl ?_
          refine l_dup rfl rfl ?_
          refine l_gfi rfl rfl rfl rfl rfl ?_
          have w23 : (Xi U2 904 93) = (Xi T1 904 93) := (show Xi U2 904 93 = Xi T1 904 93 from by rw [eU2]; exact Xi_ne (by omega))
          rw [w23]
          refine l_iconst rfl ?_
          refine l_iadd rfl ?_
          refine l_pfi rfl rfl rfl rfl ?_
          obtain ⟨U3, eU3⟩ : ∃ T : sS, T = uI U2 904 93 (Int32.ofInt ((Xi T1 904 93) + 1)) := ⟨_, rfl⟩
          rw [← eU3]
          have hHU3 : HI U3 := by rw [eU3]; exact HI_w hHU2 (show 0 ≤ ((Xi T1 904 93) + 1) by omega) (show ((Xi T1 904 93) + 1) ≤ 1700 by omega)
          have hFU3 : FR md_mo_test S U3 := by rw [eU3]; exact FR.wI hFU2 (mdf_i (r := (904, 905, 93, 94)) (List.mem_of_getElem? (i := 5) rfl) (inR_i (by omega) (by omega) (by omega) (by omega)))
          have w24 : Xi U3 904 93 = ((Xi T1 904 93) + 1) := by rw [eU3]; exact Xi_same (by unfold rg; omega)
          have E399 : Xi U3 904 65 = 0 → TVx U3 n (Xi S 904 93).toNat := by first | exact fun q => tvx_w (E363 (by rw [eU3, Xi_ne (by omega)] at q; omega)) eU3 (by omega) | exact fun q => absurd q (by rw [eU3, Xi_ne (by omega)]; omega)
          refine l_return rfl rfl ?_
          have w25 : Xi U3 952 (Xi S 904 93).toNat = Xi T1 952 (Xi S 904 93).toNat := (show Xi U3 952 (Xi S 904 93).toNat = Xi U2 952 (Xi S 904 93).toNat from by rw [eU3]; exact Xi_ne (by omega)).trans ((show Xi U2 952 (Xi S 904 93).toNat = Xi T1 952 (Xi S 904 93).toNat from by rw [eU2]; exact Xi_ne (by omega)))
          have w26 : Xi U3 954 (Xi S 904 93).toNat = Xi T1 954 (Xi S 904 93).toNat := (show Xi U3 954 (Xi S 904 93).toNat = Xi U2 954 (Xi S 904 93).toNat from by rw [eU3]; exact Xi_ne (by omega)).trans ((show Xi U2 954 (Xi S 904 93).toNat = Xi T1 954 (Xi S 904 93).toNat from by rw [eU2]; exact Xi_ne (by omega)))
          have w27 : Xi U3 955 (Xi S 904 93).toNat = Xi T1 955 (Xi S 904 93).toNat := (show Xi U3 955 (Xi S 904 93).toNat = Xi U2 955 (Xi S 904 93).toNat from by rw [eU3]; exact Xi_ne (by omega)).trans ((show Xi U2 955 (Xi S 904 93).toNat = Xi T1 955 (Xi S 904 93).toNat from by rw [eU2]; exact Xi_ne (by omega)))
          have w28 : Xi U3 956 (Xi S 904 93).toNat = Xi T1 956 (Xi S 904 93).toNat := (show Xi U3 956 (Xi S 904 93).toNat = Xi U2 956 (Xi S 904 93).toNat from by rw [eU3]; exact Xi_ne (by omega)).trans ((show Xi U2 956 (Xi S 904 93).toNat = Xi T1 956 (Xi S 904 93).toNat from by rw [eU2]; exact Xi_ne (by omega)))
          have w29 : Xi U3 959 (Xi S 904 93).toNat = Xi T1 959 (Xi S 904 93).toNat := (show Xi U3 959 (Xi S 904 93).toNat = Xi U2 959 (Xi S 904 93).toNat from by rw [eU3]; exact Xi_ne (by omega)).trans ((show Xi U2 959 (Xi S 904 93).toNat = Xi T1 959 (Xi S 904 93).toNat from by rw [eU2]; exact Xi_ne (by omega)))
          have w30 : Xi U3 961 (Xi S 904 93).toNat = Xi T1 961 (Xi S 904 93).toNat := (show Xi U3 961 (Xi S 904 93).toNat = Xi U2 961 (Xi S 904 93).toNat from by rw [eU3]; exact Xi_ne (by omega)).trans ((show Xi U2 961 (Xi S 904 93).toNat = Xi T1 961 (Xi S 904 93).toNat from by rw [eU2]; exact Xi_ne (by omega)))
          have w31 : Xi U3 962 (Xi S 904 93).toNat = Xi U2 962 (Xi S 904 93).toNat := (show Xi U3 962 (Xi S 904 93).toNat = Xi U2 962 (Xi S 904 93).toNat from by rw [eU3]; exact Xi_ne (by omega))
          have w32 : Xi U3 904 100 = Xi T1 904 100 := (show Xi U3 904 100 = Xi U2 904 100 from by rw [eU3]; exact Xi_ne (by omega)).trans ((show Xi U2 904 100 = Xi T1 904 100 from by rw [eU2]; exact Xi_ne (by omega)))
          have w33 : 0 ≤ Xi T1 904 100 ∧ Xi T1 904 100 ≤ 2 := hHT1.c _ _
          have w34 : Xi U3 904 101 = Xi T1 904 101 := (show Xi U3 904 101 = Xi U2 904 101 from by rw [eU3]; exact Xi_ne (by omega)).trans ((show Xi U2 904 101 = Xi T1 904 101 from by rw [eU2]; exact Xi_ne (by omega)))
          have w35 : 0 ≤ Xi T1 904 101 ∧ Xi T1 904 101 ≤ 5010 := hHT1.c _ _
          have w36 : Xi U3 904 65 = Xi T1 904 65 := (show Xi U3 904 65 = Xi U2 904 65 from by rw [eU3]; exact Xi_ne (by omega)).trans ((show Xi U2 904 65 = Xi T1 904 65 from by rw [eU2]; exact Xi_ne (by omega)))
          have w37 : 0 ≤ Xi T1 904 65 ∧ Xi T1 904 65 ≤ 1 := hHT1.c _ _
          have w38 : Xi U3 904 69 = Xi T1 904 69 := (show Xi U3 904 69 = Xi U2 904 69 from by rw [eU3]; exact Xi_ne (by omega)).trans ((show Xi U2 904 69 = Xi T1 904 69 from by rw [eU2]; exact Xi_ne (by omega)))
          have w39 : 0 ≤ Xi T1 904 69 ∧ Xi T1 904 69 ≤ 2600 := hHT1.c _ _
          have w40 : Xi U3 904 8 = Xi T1 904 8 := (show Xi U3 904 8 = Xi U2 904 8 from by rw [eU3]; exact Xi_ne (by omega)).trans ((show Xi U2 904 8 = Xi T1 904 8 from by rw [eU2]; exact Xi_ne (by omega)))
          have w41 : 0 ≤ Xi T1 904 8 ∧ Xi T1 904 8 ≤ 5010 := hHT1.c _ _
          have w42 : 0 ≤ Xi U3 904 93 ∧ Xi U3 904 93 ≤ 1700 := hHU3.c _ _
          have w43 : Xi U3 904 99 = Xi T1 904 99 := (show Xi U3 904 99 = Xi U2 904 99 from by rw [eU3]; exact Xi_ne (by omega)).trans ((show Xi U2 904 99 = Xi T1 904 99 from by rw [eU2]; exact Xi_ne (by omega)))
          have w44 : 0 ≤ Xi T1 904 99 ∧ Xi T1 904 99 ≤ 2600 := hHT1.c _ _
          exact ⟨hHU3, hFU3, rfl, (by first | exact at_ct (by first | assumption | exact AT_FR (FR_e eU2) rfl (by assumption)) eU3 (by omega) (by omega) (by omega) | exact AT_bad (by omega)), (by omega), (by first | assumption | exact (RNV_FR (FR_e eU3) rfl (RNV_FR (FR_e eU2) rfl (by assumption : RNV T1 _)))), (by omega), (by omega), ((KT_FR (FR_e eU3) rfl (KT.w (by assumption : KT T1 S _) eU2 (by omega)))), (by omega), (fun q => ⟨⟨by omega, by omega⟩, E399 q⟩)⟩
        · refine l_aload_n rfl rfl ?_
          refine l_aload_n rfl rfl ?_
          refine l_gfr rfl rfl rfl rfl rfl (hHU2.r 904 4 907 rfl) ?_
          refine l_aload_n rfl rfl ?_
          refine l_gfi rfl rfl rfl rfl rfl ?_
          have w45 : (Xi U2 904 8) = (Xi T1 904 8) := (show Xi U2 904 8 = Xi T1 904 8 from by rw [eU2]; exact Xi_ne (by omega))
          rw [w45]
          refine l_iaload (n := 5002) rfl rfl (by omega) (by omega) (by unfold rg; omega) ?_
          have w46 : 0 ≤ (Xi U2 907 (((Xi T1 904 8)).toNat)) ∧ (Xi U2 907 (((Xi T1 904 8)).toNat)) ≤ 154 := hHU2.c _ _
          refine l_iload_n rfl rfl ?_
          have w47 : Xi U2 904 100 = Xi T1 904 100 := (show Xi U2 904 100 = Xi T1 904 100 from by rw [eU2]; exact Xi_ne (by omega))
          have w48 : 0 ≤ Xi T1 904 100 ∧ Xi T1 904 100 ≤ 2 := hHT1.c _ _
          have w49 : Xi U2 904 101 = Xi T1 904 101 := (show Xi U2 904 101 = Xi T1 904 101 from by rw [eU2]; exact Xi_ne (by omega))
          have w50 : 0 ≤ Xi T1 904 101 ∧ Xi T1 904 101 ≤ 5010 := hHT1.c _ _
          have w51 : Xi U2 904 65 = Xi T1 904 65 := (show Xi U2 904 65 = Xi T1 904 65 from by rw [eU2]; exact Xi_ne (by omega))
          have w52 : 0 ≤ Xi T1 904 65 ∧ Xi T1 904 65 ≤ 1 := hHT1.c _ _
          have w53 : Xi U2 904 69 = Xi T1 904 69 := (show Xi U2 904 69 = Xi T1 904 69 from by rw [eU2]; exact Xi_ne (by omega))
          have w54 : 0 ≤ Xi T1 904 69 ∧ Xi T1 904 69 ≤ 2600 := hHT1.c _ _
          have w55 : Xi U2 904 8 = Xi T1 904 8 := (show Xi U2 904 8 = Xi T1 904 8 from by rw [eU2]; exact Xi_ne (by omega))
          have w56 : 0 ≤ Xi T1 904 8 ∧ Xi T1 904 8 ≤ 5010 := hHT1.c _ _
          have w57 : Xi U2 904 93 = Xi T1 904 93 := (show Xi U2 904 93 = Xi T1 904 93 from by rw [eU2]; exact Xi_ne (by omega))
          have w58 : 0 ≤ Xi T1 904 93 ∧ Xi T1 904 93 ≤ 1700 := hHT1.c _ _
          have w59 : Xi U2 904 99 = Xi T1 904 99 := (show Xi U2 904 99 = Xi T1 904 99 from by rw [eU2]; exact Xi_ne (by omega))
          have w60 : 0 ≤ Xi T1 904 99 ∧ Xi T1 904 99 ≤ 2600 := hHT1.c _ _
          refine l_callV rfl rfl rfl (t_mo_endsTest hHU2 (Xi U2 907 (((Xi T1 904 8)).toNat)) isNow ⟨by omega, by omega⟩ ⟨by omega, by omega⟩ _) ?_
          rintro _ _ ⟨rfl, z62, rfl, w62, w61⟩
          show Rl _ _ _ _ _ [iv z62] _ _
          refine l_if_ne rfl rfl (by unfold rg; omega) (fun w63 => ?_) (fun w64 => ?_)
          · refine l_aload_n rfl rfl ?_
            refine l_dup rfl rfl ?_
            refine l_gfi rfl rfl rfl rfl rfl ?_
            have w65 : (Xi U2 904 93) = (Xi T1 904 93) := (show Xi U2 904 93 = Xi T1 904 93 from by rw [eU2]; exact Xi_ne (by omega))
            rw [w65]
            refine l_iconst rfl ?_
            refine l_iadd rfl ?_
            refine l_pfi rfl rfl rfl rfl ?_
            obtain ⟨U4, eU4⟩ : ∃ T : sS, T = uI U2 904 93 (Int32.ofInt ((Xi T1 904 93) + 1)) := ⟨_, rfl⟩
            rw [← eU4]
            have hHU4 : HI U4 := by rw [eU4]; exact HI_w hHU2 (show 0 ≤ ((Xi T1 904 93) + 1) by omega) (show ((Xi T1 904 93) + 1) ≤ 1700 by omega)
            have hFU4 : FR md_mo_test S U4 := by rw [eU4]; exact FR.wI hFU2 (mdf_i (r := (904, 905, 93, 94)) (List.mem_of_getElem? (i := 5) rfl) (inR_i (by omega) (by omega) (by omega) (by omega)))
            have w66 : Xi U4 904 93 = ((Xi T1 904 93) + 1) := by rw [eU4]; exact Xi_same (by unfold rg; omega)
            have E399 : Xi U4 904 65 = 0 → TVx U4 n (Xi S 904 93).toNat := by first | exact fun q => tvx_w (E363 (by rw [eU4, Xi_ne (by omega)] at q; omega)) eU4 (by omega) | exact fun q => absurd q (by rw [eU4, Xi_ne (by omega)]; omega)
            refine l_return rfl rfl ?_
            have w67 : Xi U4 952 (Xi S 904 93).toNat = Xi T1 952 (Xi S 904 93).toNat := (show Xi U4 952 (Xi S 904 93).toNat = Xi U2 952 (Xi S 904 93).toNat from by rw [eU4]; exact Xi_ne (by omega)).trans ((show Xi U2 952 (Xi S 904 93).toNat = Xi T1 952 (Xi S 904 93).toNat from by rw [eU2]; exact Xi_ne (by omega)))
            have w68 : Xi U4 954 (Xi S 904 93).toNat = Xi T1 954 (Xi S 904 93).toNat := (show Xi U4 954 (Xi S 904 93).toNat = Xi U2 954 (Xi S 904 93).toNat from by rw [eU4]; exact Xi_ne (by omega)).trans ((show Xi U2 954 (Xi S 904 93).toNat = Xi T1 954 (Xi S 904 93).toNat from by rw [eU2]; exact Xi_ne (by omega)))
            have w69 : Xi U4 955 (Xi S 904 93).toNat = Xi T1 955 (Xi S 904 93).toNat := (show Xi U4 955 (Xi S 904 93).toNat = Xi U2 955 (Xi S 904 93).toNat from by rw [eU4]; exact Xi_ne (by omega)).trans ((show Xi U2 955 (Xi S 904 93).toNat = Xi T1 955 (Xi S 904 93).toNat from by rw [eU2]; exact Xi_ne (by omega)))
            have w70 : Xi U4 956 (Xi S 904 93).toNat = Xi T1 956 (Xi S 904 93).toNat := (show Xi U4 956 (Xi S 904 93).toNat = Xi U2 956 (Xi S 904 93).toNat from by rw [eU4]; exact Xi_ne (by omega)).trans ((show Xi U2 956 (Xi S 904 93).toNat = Xi T1 956 (Xi S 904 93).toNat from by rw [eU2]; exact Xi_ne (by omega)))
            have w71 : Xi U4 959 (Xi S 904 93).toNat = Xi T1 959 (Xi S 904 93).toNat := (show Xi U4 959 (Xi S 904 93).toNat = Xi U2 959 (Xi S 904 93).toNat from by rw [eU4]; exact Xi_ne (by omega)).trans ((show Xi U2 959 (Xi S 904 93).toNat = Xi T1 959 (Xi S 904 93).toNat from by rw [eU2]; exact Xi_ne (by omega)))
            have w72 : Xi U4 961 (Xi S 904 93).toNat = Xi T1 961 (Xi S 904 93).toNat := (show Xi U4 961 (Xi S 904 93).toNat = Xi U2 961 (Xi S 904 93).toNat from by rw [eU4]; exact Xi_ne (by omega)).trans ((show Xi U2 961 (Xi S 904 93).toNat = Xi T1 961 (Xi S 904 93).toNat from by rw [eU2]; exact Xi_ne (by omega)))
            have w73 : Xi U4 962 (Xi S 904 93).toNat = Xi U2 962 (Xi S 904 93).toNat := (show Xi U4 962 (Xi S 904 93).toNat = Xi U2 962 (Xi S 904 93).toNat from by rw [eU4]; exact Xi_ne (by omega))
            have w74 : Xi U4 904 100 = Xi T1 904 100 := (show Xi U4 904 100 = Xi U2 904 100 from by rw [eU4]; exact Xi_ne (by omega)).trans ((show Xi U2 904 100 = Xi T1 904 100 from by rw [eU2]; exact Xi_ne (by omega)))
            have w75 : 0 ≤ Xi T1 904 100 ∧ Xi T1 904 100 ≤ 2 := hHT1.c _ _
            have w76 : Xi U4 904 101 = Xi T1 904 101 := (show Xi U4 904 101 = Xi U2 904 101 from by rw [eU4]; exact Xi_ne (by omega)).trans ((show Xi U2 904 101 = Xi T1 904 101 from by rw [eU2]; exact Xi_ne (by omega)))
            have w77 : 0 ≤ Xi T1 904 101 ∧ Xi T1 904 101 ≤ 5010 := hHT1.c _ _
            have w78 : Xi U4 904 65 = Xi T1 904 65 := (show Xi U4 904 65 = Xi U2 904 65 from by rw [eU4]; exact Xi_ne (by omega)).trans ((show Xi U2 904 65 = Xi T1 904 65 from by rw [eU2]; exact Xi_ne (by omega)))
            have w79 : 0 ≤ Xi T1 904 65 ∧ Xi T1 904 65 ≤ 1 := hHT1.c _ _
            have w80 : Xi U4 904 69 = Xi T1 904 69 := (show Xi U4 904 69 = Xi U2 904 69 from by rw [eU4]; exact Xi_ne (by omega)).trans ((show Xi U2 904 69 = Xi T1 904 69 from by rw [eU2]; exact Xi_ne (by omega)))
            have w81 : 0 ≤ Xi T1 904 69 ∧ Xi T1 904 69 ≤ 2600 := hHT1.c _ _
            have w82 : Xi U4 904 8 = Xi T1 904 8 := (show Xi U4 904 8 = Xi U2 904 8 from by rw [eU4]; exact Xi_ne (by omega)).trans ((show Xi U2 904 8 = Xi T1 904 8 from by rw [eU2]; exact Xi_ne (by omega)))
            have w83 : 0 ≤ Xi T1 904 8 ∧ Xi T1 904 8 ≤ 5010 := hHT1.c _ _
            have w84 : 0 ≤ Xi U4 904 93 ∧ Xi U4 904 93 ≤ 1700 := hHU4.c _ _
            have w85 : Xi U4 904 99 = Xi T1 904 99 := (show Xi U4 904 99 = Xi U2 904 99 from by rw [eU4]; exact Xi_ne (by omega)).trans ((show Xi U2 904 99 = Xi T1 904 99 from by rw [eU2]; exact Xi_ne (by omega)))
            have w86 : 0 ≤ Xi T1 904 99 ∧ Xi T1 904 99 ≤ 2600 := hHT1.c _ _
            exact ⟨hHU4, hFU4, rfl, (by first | exact at_ct (by first | assumption | exact AT_FR (FR_e eU2) rfl (by assumption)) eU4 (by omega) (by omega) (by omega) | exact AT_bad (by omega)), (by omega), (by first | assumption | exact (RNV_FR (FR_e eU4) rfl (RNV_FR (FR_e eU2) rfl (by assumption : RNV T1 _)))), (by omega), (by omega), ((KT_FR (FR_e eU4) rfl (KT.w (by assumption : KT T1 S _) eU2 (by omega)))), (by omega), (fun q => ⟨⟨by omega, by omega⟩, E399 q⟩)⟩
          · refine l_aload_n rfl rfl ?_
            have w87 : Xi U2 904 100 = Xi T1 904 100 := (show Xi U2 904 100 = Xi T1 904 100 from by rw [eU2]; exact Xi_ne (by omega))
            have w88 : 0 ≤ Xi T1 904 100 ∧ Xi T1 904 100 ≤ 2 := hHT1.c _ _
            have w89 : Xi U2 904 101 = Xi T1 904 101 := (show Xi U2 904 101 = Xi T1 904 101 from by rw [eU2]; exact Xi_ne (by omega))
            have w90 : 0 ≤ Xi T1 904 101 ∧ Xi T1 904 101 ≤ 5010 := hHT1.c _ _
            have w91 : Xi U2 904 65 = Xi T1 904 65 := (show Xi U2 904 65 = Xi T1 904 65 from by rw [eU2]; exact Xi_ne (by omega))
            have w92 : 0 ≤ Xi T1 904 65 ∧ Xi T1 904 65 ≤ 1 := hHT1.c _ _
            have w93 : Xi U2 904 69 = Xi T1 904 69 := (show Xi U2 904 69 = Xi T1 904 69 from by rw [eU2]; exact Xi_ne (by omega))
            have w94 : 0 ≤ Xi T1 904 69 ∧ Xi T1 904 69 ≤ 2600 := hHT1.c _ _
            have w95 : Xi U2 904 8 = Xi T1 904 8 := (show Xi U2 904 8 = Xi T1 904 8 from by rw [eU2]; exact Xi_ne (by omega))
            have w96 : 0 ≤ Xi T1 904 8 ∧ Xi T1 904 8 ≤ 5010 := hHT1.c _ _
            have w97 : Xi U2 904 93 = Xi T1 904 93 := (show Xi U2 904 93 = Xi T1 904 93 from by rw [eU2]; exact Xi_ne (by omega))
            have w98 : 0 ≤ Xi T1 904 93 ∧ Xi T1 904 93 ≤ 1700 := hHT1.c _ _
            have w99 : Xi U2 904 99 = Xi T1 904 99 := (show Xi U2 904 99 = Xi T1 904 99 from by rw [eU2]; exact Xi_ne (by omega))
            have w100 : 0 ≤ Xi T1 904 99 ∧ Xi T1 904 99 ≤ 2600 := hHT1.c _ _
            refine l_callV rfl rfl rfl (t_mo_odd hHU2 _) ?_
            rintro _ T5 ⟨hHT5, w104, rfl, w101, w102⟩
            have hFT5 : FR md_mo_test S T5 := FR.tr hFU2 w104 rfl
            show Rl _ _ _ _ _ [] _ _
            refine l_aload_n rfl rfl ?_
            refine l_dup rfl rfl ?_
            refine l_gfi rfl rfl rfl rfl rfl ?_
            have w105 : (Xi T5 904 93) = (Xi T1 904 93) := (show Xi T5 904 93 = Xi U2 904 93 from w104.x _ _ rfl).trans ((show Xi U2 904 93 = Xi T1 904 93 from by rw [eU2]; exact Xi_ne (by omega)))
            rw [w105]
            refine l_iconst rfl ?_
            refine l_iadd rfl ?_
            refine l_pfi rfl rfl rfl rfl ?_
            obtain ⟨U6, eU6⟩ : ∃ T : sS, T = uI T5 904 93 (Int32.ofInt ((Xi T1 904 93) + 1)) := ⟨_, rfl⟩
            rw [← eU6]
            have hHU6 : HI U6 := by rw [eU6]; exact HI_w hHT5 (show 0 ≤ ((Xi T1 904 93) + 1) by omega) (show ((Xi T1 904 93) + 1) ≤ 1700 by omega)
            have hFU6 : FR md_mo_test S U6 := by rw [eU6]; exact FR.wI hFT5 (mdf_i (r := (904, 905, 93, 94)) (List.mem_of_getElem? (i := 5) rfl) (inR_i (by omega) (by omega) (by omega) (by omega)))
            have w106 : Xi U6 904 93 = ((Xi T1 904 93) + 1) := by rw [eU6]; exact Xi_same (by unfold rg; omega)
            have E399 : Xi U6 904 65 = 0 → TVx U6 n (Xi S 904 93).toNat := by first | exact fun q => tvx_w (E363 (by rw [eU6, Xi_ne (by omega)] at q; omega)) eU6 (by omega) | exact fun q => absurd q (by rw [eU6, Xi_ne (by omega)]; omega)
            refine l_return rfl rfl ?_
            have w107 : Xi U6 952 (Xi S 904 93).toNat = Xi T1 952 (Xi S 904 93).toNat := (show Xi U6 952 (Xi S 904 93).toNat = Xi T5 952 (Xi S 904 93).toNat from by rw [eU6]; exact Xi_ne (by omega)).trans ( (show Xi T5 952 (Xi S 904 93).toNat = Xi U2 952 (Xi S 904 93).toNat from (w104.cx 952 rfl _).1).trans ((show Xi U2 952 (Xi S 904 93).toNat = Xi T1 952 (Xi S 904 93).toNat from by rw [eU2]; exact Xi_ne (by omega))))
            have w108 : Xi U6 954 (Xi S 904 93).toNat = Xi T1 954 (Xi S 904 93).toNat := (show Xi U6 954 (Xi S 904 93).toNat = Xi T5 954 (Xi S 904 93).toNat from by rw [eU6]; exact Xi_ne (by omega)).trans ( (show Xi T5 954 (Xi S 904 93).toNat = Xi U2 954 (Xi S 904 93).toNat from (w104.cx 954 rfl _).1).trans ((show Xi U2 954 (Xi S 904 93).toNat = Xi T1 954 (Xi S 904 93).toNat from by rw [eU2]; exact Xi_ne (by omega))))
            have w109 : Xi U6 955 (Xi S 904 93).toNat = Xi T1 955 (Xi S 904 93).toNat := (show Xi U6 955 (Xi S 904 93).toNat = Xi T5 955 (Xi S 904 93).toNat from by rw [eU6]; exact Xi_ne (by omega)).trans ( (show Xi T5 955 (Xi S 904 93).toNat = Xi U2 955 (Xi S 904 93).toNat from (w104.cx 955 rfl _).1).trans ((show Xi U2 955 (Xi S 904 93).toNat = Xi T1 955 (Xi S 904 93).toNat from by rw [eU2]; exact Xi_ne (by omega))))
            have w110 : Xi U6 956 (Xi S 904 93).toNat = Xi T1 956 (Xi S 904 93).toNat := (show Xi U6 956 (Xi S 904 93).toNat = Xi T5 956 (Xi S 904 93).toNat from by rw [eU6]; exact Xi_ne (by omega)).trans ( (show Xi T5 956 (Xi S 904 93).toNat = Xi U2 956 (Xi S 904 93).toNat from (w104.cx 956 rfl _).1).trans ((show Xi U2 956 (Xi S 904 93).toNat = Xi T1 956 (Xi S 904 93).toNat from by rw [eU2]; exact Xi_ne (by omega))))
            have w111 : Xi U6 959 (Xi S 904 93).toNat = Xi T1 959 (Xi S 904 93).toNat := (show Xi U6 959 (Xi S 904 93).toNat = Xi T5 959 (Xi S 904 93).toNat from by rw [eU6]; exact Xi_ne (by omega)).trans ( (show Xi T5 959 (Xi S 904 93).toNat = Xi U2 959 (Xi S 904 93).toNat from (w104.cx 959 rfl _).1).trans ((show Xi U2 959 (Xi S 904 93).toNat = Xi T1 959 (Xi S 904 93).toNat from by rw [eU2]; exact Xi_ne (by omega))))
            have w112 : Xi U6 961 (Xi S 904 93).toNat = Xi T1 961 (Xi S 904 93).toNat := (show Xi U6 961 (Xi S 904 93).toNat = Xi T5 961 (Xi S 904 93).toNat from by rw [eU6]; exact Xi_ne (by omega)).trans ( (show Xi T5 961 (Xi S 904 93).toNat = Xi U2 961 (Xi S 904 93).toNat from (w104.cx 961 rfl _).1).trans ((show Xi U2 961 (Xi S 904 93).toNat = Xi T1 961 (Xi S 904 93).toNat from by rw [eU2]; exact Xi_ne (by omega))))
            have w113 : Xi U6 962 (Xi S 904 93).toNat = Xi U2 962 (Xi S 904 93).toNat := (show Xi U6 962 (Xi S 904 93).toNat = Xi T5 962 (Xi S 904 93).toNat from by rw [eU6]; exact Xi_ne (by omega)).trans ((show Xi T5 962 (Xi S 904 93).toNat = Xi U2 962 (Xi S 904 93).toNat from (w104.cx 962 rfl _).1))
            have w114 : Xi U6 904 100 = Xi T1 904 100 := (show Xi U6 904 100 = Xi T5 904 100 from by rw [eU6]; exact Xi_ne (by omega)).trans ( (show Xi T5 904 100 = Xi U2 904 100 from w104.x _ _ rfl).trans ((show Xi U2 904 100 = Xi T1 904 100 from by rw [eU2]; exact Xi_ne (by omega))))
            have w115 : 0 ≤ Xi T1 904 100 ∧ Xi T1 904 100 ≤ 2 := hHT1.c _ _
            have w116 : Xi U6 904 101 = Xi T1 904 101 := (show Xi U6 904 101 = Xi T5 904 101 from by rw [eU6]; exact Xi_ne (by omega)).trans ( (show Xi T5 904 101 = Xi U2 904 101 from w104.x _ _ rfl).trans ((show Xi U2 904 101 = Xi T1 904 101 from by rw [eU2]; exact Xi_ne (by omega))))
            have w117 : 0 ≤ Xi T1 904 101 ∧ Xi T1 904 101 ≤ 5010 := hHT1.c _ _
            have w118 : Xi U6 904 65 = Xi T5 904 65 := (show Xi U6 904 65 = Xi T5 904 65 from by rw [eU6]; exact Xi_ne (by omega))
            have w119 : 0 ≤ Xi T5 904 65 ∧ Xi T5 904 65 ≤ 1 := hHT5.c _ _
            have w120 : Xi U6 904 69 = Xi T1 904 69 := (show Xi U6 904 69 = Xi T5 904 69 from by rw [eU6]; exact Xi_ne (by omega)).trans ( (show Xi T5 904 69 = Xi U2 904 69 from w104.x _ _ rfl).trans ((show Xi U2 904 69 = Xi T1 904 69 from by rw [eU2]; exact Xi_ne (by omega))))
            have w121 : 0 ≤ Xi T1 904 69 ∧ Xi T1 904 69 ≤ 2600 := hHT1.c _ _
            have w122 : Xi U6 904 8 = Xi T1 904 8 := (show Xi U6 904 8 = Xi T5 904 8 from by rw [eU6]; exact Xi_ne (by omega)).trans ( (show Xi T5 904 8 = Xi U2 904 8 from w104.x _ _ rfl).trans ((show Xi U2 904 8 = Xi T1 904 8 from by rw [eU2]; exact Xi_ne (by omega))))
            have w123 : 0 ≤ Xi T1 904 8 ∧ Xi T1 904 8 ≤ 5010 := hHT1.c _ _
            have w124 : 0 ≤ Xi U6 904 93 ∧ Xi U6 904 93 ≤ 1700 := hHU6.c _ _
            have w125 : Xi U6 904 99 = Xi T1 904 99 := (show Xi U6 904 99 = Xi T5 904 99 from by rw [eU6]; exact Xi_ne (by omega)).trans ( (show Xi T5 904 99 = Xi U2 904 99 from w104.x _ _ rfl).trans ((show Xi U2 904 99 = Xi T1 904 99 from by rw [eU2]; exact Xi_ne (by omega))))
            have w126 : 0 ≤ Xi T1 904 99 ∧ Xi T1 904 99 ≤ 2600 := hHT1.c _ _
            exact ⟨hHU6, hFU6, rfl, (by first | exact at_ct (by first | assumption | exact AT_FR (FR_e ) rfl (by assumption)) eU6 (by omega) (by omega) (by omega) | exact AT_bad (by omega)), (by omega), (by first | assumption | exact (RNV_FR (FR_e eU6) rfl (RNV_FR w104 rfl (RNV_FR (FR_e eU2) rfl (by assumption : RNV T1 _))))), (by omega), (by omega), ((KT_FR (FR_e eU6) rfl (KT_FR w104 rfl (KT.w (by assumption : KT T1 S _) eU2 (by omega))))), (by omega), (fun q => ⟨⟨by omega, by omega⟩, E399 q⟩)⟩
      have C96 : ∀ (n96 : Nat) (T7 : sS) (_ : HI T7) (_ : FR md_mo_test S T7) (v2 : Int) (v4 : Int), (0 ≤ v2 ∧ v2 ≤ 5010) → (0 ≤ v4 ∧ v4 ≤ 154) → (AT T7 n c) → (RNV T7 n) → (v4 ≠ 1 → Xi T7 904 65 = 0 ∧ Xi T7 907 (Xi T7 904 8).toNat = v4) → (Xi T7 904 65 = Xi S 904 65) → (Xi T7 904 69 = Xi S 904 69) → (Xi T7 904 93 = Xi S 904 93) → (Xi S 904 8 ≤ Xi T7 904 8 ∧ Xi T7 904 8 ≤ n) → (Xi T7 952 (Xi S 904 93).toNat = 5) → (Xi T7 961 (Xi S 904 93).toNat = Xi S 904 8) → (KT T7 S (Xi S 904 93)) → n96 = (5002 - Xi T7 904 8).toNat → Rl lay0 (d + 5) m_mo_test 96 [(0, .ref 904), (1, iv isNow), (2, iv v2), (4, iv v4)] [] T7 (Q_mo_test S n c isNow) := by
        intro n96
        induction n96 using Nat.strongRecOn with
        | ind n96 ih96 =>
          intro T7 hHT7 hFT7 v2 v4 w127 w128 A96 V96 w129 w130 w131 w132 w133 w134 w135 K96 hm96
          have w136 : 0 ≤ Xi T7 904 65 ∧ Xi T7 904 65 ≤ 1 := hHT7.c _ _
          have w137 : 0 ≤ Xi T7 904 69 ∧ Xi T7 904 69 ≤ 2600 := hHT7.c _ _
          have w138 : 0 ≤ Xi T7 904 8 ∧ Xi T7 904 8 ≤ 5010 := hHT7.c _ _
          have w139 : 0 ≤ Xi T7 904 93 ∧ Xi T7 904 93 ≤ 1700 := hHT7.c _ _
          refine l_iload rfl rfl ?_
          refine l_iconst rfl ?_
          refine l_icmp_eq rfl rfl (by unfold rg; omega) (by unfold rg; omega) (fun w140 => ?_) (fun w141 => ?_)
          · refine l_aload_n rfl rfl ?_
            refine l_dup rfl rfl ?_
            refine l_gfi rfl rfl rfl rfl rfl ?_
            refine l_iconst rfl ?_
            refine l_iadd rfl ?_
            refine l_pfi rfl rfl rfl rfl ?_
            obtain ⟨U8, eU8⟩ : ∃ T : sS, T = uI T7 904 8 (Int32.ofInt ((Xi T7 904 8) + 1)) := ⟨_, rfl⟩
            rw [← eU8]
            have hHU8 : HI U8 := by rw [eU8]; exact HI_w hHT7 (show 0 ≤ ((Xi T7 904 8) + 1) by omega) (show ((Xi T7 904 8) + 1) ≤ 5010 by omega)
            have hFU8 : FR md_mo_test S U8 := by rw [eU8]; exact FR.wI hFT7 (mdf_i (r := (904, 905, 8, 9)) (List.mem_of_getElem? (i := 0) rfl) (inR_i (by omega) (by omega) (by omega) (by omega)))
            have w142 : Xi U8 904 8 = ((Xi T7 904 8) + 1) := by rw [eU8]; exact Xi_same (by unfold rg; omega)
            have t133 : AT U8 n c ∧ _ := at_mv (S := T7) (P := T7) (TK_FR hFT7 rfl hT) A96 (fun _ => rfl) (fun _ => rfl) rfl rfl rfl rfl eU8 (by omega) (by omega) (by omega) (by omega) (Or.inl rfl)
            have a133 : AT U8 n c := t133.1
            refine l_aload_n rfl rfl ?_
            have w143 : Xi U8 904 100 = Xi T7 904 100 := (show Xi U8 904 100 = Xi T7 904 100 from by rw [eU8]; exact Xi_ne (by omega))
            have w144 : 0 ≤ Xi T7 904 100 ∧ Xi T7 904 100 ≤ 2 := hHT7.c _ _
            have w145 : Xi U8 904 101 = Xi T7 904 101 := (show Xi U8 904 101 = Xi T7 904 101 from by rw [eU8]; exact Xi_ne (by omega))
            have w146 : 0 ≤ Xi T7 904 101 ∧ Xi T7 904 101 ≤ 5010 := hHT7.c _ _
            have w147 : Xi U8 904 65 = Xi T7 904 65 := (show Xi U8 904 65 = Xi T7 904 65 from by rw [eU8]; exact Xi_ne (by omega))
            have w148 : 0 ≤ Xi T7 904 65 ∧ Xi T7 904 65 ≤ 1 := hHT7.c _ _
            have w149 : Xi U8 904 69 = Xi T7 904 69 := (show Xi U8 904 69 = Xi T7 904 69 from by rw [eU8]; exact Xi_ne (by omega))
            have w150 : 0 ≤ Xi T7 904 69 ∧ Xi T7 904 69 ≤ 2600 := hHT7.c _ _
            have w151 : 0 ≤ Xi U8 904 8 ∧ Xi U8 904 8 ≤ 5010 := hHU8.c _ _
            have w152 : Xi U8 904 93 = Xi T7 904 93 := (show Xi U8 904 93 = Xi T7 904 93 from by rw [eU8]; exact Xi_ne (by omega))
            have w153 : 0 ≤ Xi T7 904 93 ∧ Xi T7 904 93 ≤ 1700 := hHT7.c _ _
            have w154 : Xi U8 904 99 = Xi T7 904 99 := (show Xi U8 904 99 = Xi T7 904 99 from by rw [eU8]; exact Xi_ne (by omega))
            have w155 : 0 ≤ Xi T7 904 99 ∧ Xi T7 904 99 ≤ 2600 := hHT7.c _ _
            refine l_callV rfl rfl rfl (t_mo_look hHU8 n c (by first | assumption | exact (TK_FR hFU8 rfl (by assumption : TK S _))) (by first | assumption | exact (by assumption : AT U8 _ _)) _) ?_
            rintro _ _ ⟨rfl, z157, rfl, w157, w156⟩
            show Rl _ _ _ _ _ [iv z157] _ _
            have l137 : z157 ≠ 1 → Xi U8 904 65 = 0 ∧ Xi U8 907 (Xi U8 904 8).toNat = z157 := by assumption
            refine l_istore rfl rfl rfl ?_
            refine l_goto rfl rfl ?_
            have w158 : Xi U8 952 (Xi S 904 93).toNat = Xi T7 952 (Xi S 904 93).toNat := (show Xi U8 952 (Xi S 904 93).toNat = Xi T7 952 (Xi S 904 93).toNat from by rw [eU8]; exact Xi_ne (by omega))
            have w159 : Xi U8 954 (Xi S 904 93).toNat = Xi T7 954 (Xi S 904 93).toNat := (show Xi U8 954 (Xi S 904 93).toNat = Xi T7 954 (Xi S 904 93).toNat from by rw [eU8]; exact Xi_ne (by omega))
            have w160 : Xi U8 955 (Xi S 904 93).toNat = Xi T7 955 (Xi S 904 93).toNat := (show Xi U8 955 (Xi S 904 93).toNat = Xi T7 955 (Xi S 904 93).toNat from by rw [eU8]; exact Xi_ne (by omega))
            have w161 : Xi U8 956 (Xi S 904 93).toNat = Xi T7 956 (Xi S 904 93).toNat := (show Xi U8 956 (Xi S 904 93).toNat = Xi T7 956 (Xi S 904 93).toNat from by rw [eU8]; exact Xi_ne (by omega))
            have w162 : Xi U8 959 (Xi S 904 93).toNat = Xi T7 959 (Xi S 904 93).toNat := (show Xi U8 959 (Xi S 904 93).toNat = Xi T7 959 (Xi S 904 93).toNat from by rw [eU8]; exact Xi_ne (by omega))
            have w163 : Xi U8 961 (Xi S 904 93).toNat = Xi T7 961 (Xi S 904 93).toNat := (show Xi U8 961 (Xi S 904 93).toNat = Xi T7 961 (Xi S 904 93).toNat from by rw [eU8]; exact Xi_ne (by omega))
            have w164 : Xi U8 962 (Xi S 904 93).toNat = Xi T7 962 (Xi S 904 93).toNat := (show Xi U8 962 (Xi S 904 93).toNat = Xi T7 962 (Xi S 904 93).toNat from by rw [eU8]; exact Xi_ne (by omega))
            have w165 : Xi U8 904 100 = Xi T7 904 100 := (show Xi U8 904 100 = Xi T7 904 100 from by rw [eU8]; exact Xi_ne (by omega))
            have w166 : 0 ≤ Xi T7 904 100 ∧ Xi T7 904 100 ≤ 2 := hHT7.c _ _
            have w167 : Xi U8 904 101 = Xi T7 904 101 := (show Xi U8 904 101 = Xi T7 904 101 from by rw [eU8]; exact Xi_ne (by omega))
            have w168 : 0 ≤ Xi T7 904 101 ∧ Xi T7 904 101 ≤ 5010 := hHT7.c _ _
            have w169 : Xi U8 904 65 = Xi T7 904 65 := (show Xi U8 904 65 = Xi T7 904 65 from by rw [eU8]; exact Xi_ne (by omega))
            have w170 : 0 ≤ Xi T7 904 65 ∧ Xi T7 904 65 ≤ 1 := hHT7.c _ _
            have w171 : Xi U8 904 69 = Xi T7 904 69 := (show Xi U8 904 69 = Xi T7 904 69 from by rw [eU8]; exact Xi_ne (by omega))
            have w172 : 0 ≤ Xi T7 904 69 ∧ Xi T7 904 69 ≤ 2600 := hHT7.c _ _
            have w173 : 0 ≤ Xi U8 904 8 ∧ Xi U8 904 8 ≤ 5010 := hHU8.c _ _
            have w174 : Xi U8 904 93 = Xi T7 904 93 := (show Xi U8 904 93 = Xi T7 904 93 from by rw [eU8]; exact Xi_ne (by omega))
            have w175 : 0 ≤ Xi T7 904 93 ∧ Xi T7 904 93 ≤ 1700 := hHT7.c _ _
            have w176 : Xi U8 904 99 = Xi T7 904 99 := (show Xi U8 904 99 = Xi T7 904 99 from by rw [eU8]; exact Xi_ne (by omega))
            have w177 : 0 ≤ Xi T7 904 99 ∧ Xi T7 904 99 ≤ 2600 := hHT7.c _ _
            exact Rl_weak (ih96 _ (by omega) U8 hHU8 hFU8 (v2) (z157) (by omega) (by omega) (by first | exact a133 | exact AT_FR hFU8 rfl hA | assumption | exact (AT_FR (FR_e eU8) rfl (AT_FR (FR_e ) rfl (AT_FR (FR_e ) rfl hA)))) (by first | assumption | exact (RNV_FR (FR_e eU8) rfl (by assumption : RNV T7 _))) (by omega) (by omega) (by omega) (by omega) (by omega) (by omega) (by omega) ((KT_FR (FR_e eU8) rfl (by assumption : KT T7 S _))) rfl) (And.intro rfl (And.intro rfl (And.intro rfl (And.intro rfl (True.intro)))))
          · refine l_iload rfl rfl ?_
            have w178 : 0 ≤ Xi T7 904 100 ∧ Xi T7 904 100 ≤ 2 := hHT7.c _ _
            have w179 : 0 ≤ Xi T7 904 101 ∧ Xi T7 904 101 ≤ 5010 := hHT7.c _ _
            have w180 : 0 ≤ Xi T7 904 65 ∧ Xi T7 904 65 ≤ 1 := hHT7.c _ _
            have w181 : 0 ≤ Xi T7 904 69 ∧ Xi T7 904 69 ≤ 2600 := hHT7.c _ _
            have w182 : 0 ≤ Xi T7 904 8 ∧ Xi T7 904 8 ≤ 5010 := hHT7.c _ _
            have w183 : 0 ≤ Xi T7 904 93 ∧ Xi T7 904 93 ≤ 1700 := hHT7.c _ _
            have w184 : 0 ≤ Xi T7 904 99 ∧ Xi T7 904 99 ≤ 2600 := hHT7.c _ _
            refine l_callS rfl rfl (by decide) rfl (t_mo_isArt hHT7 v4 ⟨by omega, by omega⟩ _) ?_
            rintro _ _ ⟨rfl, z186, rfl, w186, w185⟩
            show Rl _ _ _ _ _ [iv z186] _ _
            refine l_if_ne rfl rfl (by unfold rg; omega) (fun w187 => ?_) (fun w188 => ?_)
            · refine l_aload_n rfl rfl ?_
              refine l_dup rfl rfl ?_
              refine l_gfi rfl rfl rfl rfl rfl ?_
              refine l_iconst rfl ?_
              refine l_iadd rfl ?_
              refine l_pfi rfl rfl rfl rfl ?_
              obtain ⟨U9, eU9⟩ : ∃ T : sS, T = uI T7 904 8 (Int32.ofInt ((Xi T7 904 8) + 1)) := ⟨_, rfl⟩
              rw [← eU9]
              have hHU9 : HI U9 := by rw [eU9]; exact HI_w hHT7 (show 0 ≤ ((Xi T7 904 8) + 1) by omega) (show ((Xi T7 904 8) + 1) ≤ 5010 by omega)
              have hFU9 : FR md_mo_test S U9 := by rw [eU9]; exact FR.wI hFT7 (mdf_i (r := (904, 905, 8, 9)) (List.mem_of_getElem? (i := 0) rfl) (inR_i (by omega) (by omega) (by omega) (by omega)))
              have w189 : Xi U9 904 8 = ((Xi T7 904 8) + 1) := by rw [eU9]; exact Xi_same (by unfold rg; omega)
              have t133 : AT U9 n c ∧ _ := at_mv (S := T7) (P := T7) (TK_FR hFT7 rfl hT) A96 (fun _ => rfl) (fun _ => rfl) rfl rfl rfl rfl eU9 (by omega) (by omega) (by omega) (by omega) (Or.inl rfl)
              have a133 : AT U9 n c := t133.1
              refine l_aload_n rfl rfl ?_
              have w190 : Xi U9 904 100 = Xi T7 904 100 := (show Xi U9 904 100 = Xi T7 904 100 from by rw [eU9]; exact Xi_ne (by omega))
              have w191 : 0 ≤ Xi T7 904 100 ∧ Xi T7 904 100 ≤ 2 := hHT7.c _ _
              have w192 : Xi U9 904 101 = Xi T7 904 101 := (show Xi U9 904 101 = Xi T7 904 101 from by rw [eU9]; exact Xi_ne (by omega))
              have w193 : 0 ≤ Xi T7 904 101 ∧ Xi T7 904 101 ≤ 5010 := hHT7.c _ _
              have w194 : Xi U9 904 65 = Xi T7 904 65 := (show Xi U9 904 65 = Xi T7 904 65 from by rw [eU9]; exact Xi_ne (by omega))
              have w195 : 0 ≤ Xi T7 904 65 ∧ Xi T7 904 65 ≤ 1 := hHT7.c _ _
              have w196 : Xi U9 904 69 = Xi T7 904 69 := (show Xi U9 904 69 = Xi T7 904 69 from by rw [eU9]; exact Xi_ne (by omega))
              have w197 : 0 ≤ Xi T7 904 69 ∧ Xi T7 904 69 ≤ 2600 := hHT7.c _ _
              have w198 : 0 ≤ Xi U9 904 8 ∧ Xi U9 904 8 ≤ 5010 := hHU9.c _ _
              have w199 : Xi U9 904 93 = Xi T7 904 93 := (show Xi U9 904 93 = Xi T7 904 93 from by rw [eU9]; exact Xi_ne (by omega))
              have w200 : 0 ≤ Xi T7 904 93 ∧ Xi T7 904 93 ≤ 1700 := hHT7.c _ _
              have w201 : Xi U9 904 99 = Xi T7 904 99 := (show Xi U9 904 99 = Xi T7 904 99 from by rw [eU9]; exact Xi_ne (by omega))
              have w202 : 0 ≤ Xi T7 904 99 ∧ Xi T7 904 99 ≤ 2600 := hHT7.c _ _
              refine l_callV rfl rfl rfl (t_mo_look hHU9 n c (by first | assumption | exact (TK_FR hFU9 rfl (by assumption : TK S _))) (by first | assumption | exact (by assumption : AT U9 _ _)) _) ?_
              rintro _ _ ⟨rfl, z204, rfl, w204, w203⟩
              show Rl _ _ _ _ _ [iv z204] _ _
              have l137 : z204 ≠ 1 → Xi U9 904 65 = 0 ∧ Xi U9 907 (Xi U9 904 8).toNat = z204 := by assumption
              refine l_istore rfl rfl rfl ?_
              refine l_goto rfl rfl ?_
              have w205 : Xi U9 952 (Xi S 904 93).toNat = Xi T7 952 (Xi S 904 93).toNat := (show Xi U9 952 (Xi S 904 93).toNat = Xi T7 952 (Xi S 904 93).toNat from by rw [eU9]; exact Xi_ne (by omega))
              have w206 : Xi U9 954 (Xi S 904 93).toNat = Xi T7 954 (Xi S 904 93).toNat := (show Xi U9 954 (Xi S 904 93).toNat = Xi T7 954 (Xi S 904 93).toNat from by rw [eU9]; exact Xi_ne (by omega))
              have w207 : Xi U9 955 (Xi S 904 93).toNat = Xi T7 955 (Xi S 904 93).toNat := (show Xi U9 955 (Xi S 904 93).toNat = Xi T7 955 (Xi S 904 93).toNat from by rw [eU9]; exact Xi_ne (by omega))
              have w208 : Xi U9 956 (Xi S 904 93).toNat = Xi T7 956 (Xi S 904 93).toNat := (show Xi U9 956 (Xi S 904 93).toNat = Xi T7 956 (Xi S 904 93).toNat from by rw [eU9]; exact Xi_ne (by omega))
              have w209 : Xi U9 959 (Xi S 904 93).toNat = Xi T7 959 (Xi S 904 93).toNat := (show Xi U9 959 (Xi S 904 93).toNat = Xi T7 959 (Xi S 904 93).toNat from by rw [eU9]; exact Xi_ne (by omega))
              have w210 : Xi U9 961 (Xi S 904 93).toNat = Xi T7 961 (Xi S 904 93).toNat := (show Xi U9 961 (Xi S 904 93).toNat = Xi T7 961 (Xi S 904 93).toNat from by rw [eU9]; exact Xi_ne (by omega))
              have w211 : Xi U9 962 (Xi S 904 93).toNat = Xi T7 962 (Xi S 904 93).toNat := (show Xi U9 962 (Xi S 904 93).toNat = Xi T7 962 (Xi S 904 93).toNat from by rw [eU9]; exact Xi_ne (by omega))
              have w212 : Xi U9 904 100 = Xi T7 904 100 := (show Xi U9 904 100 = Xi T7 904 100 from by rw [eU9]; exact Xi_ne (by omega))
              have w213 : 0 ≤ Xi T7 904 100 ∧ Xi T7 904 100 ≤ 2 := hHT7.c _ _
              have w214 : Xi U9 904 101 = Xi T7 904 101 := (show Xi U9 904 101 = Xi T7 904 101 from by rw [eU9]; exact Xi_ne (by omega))
              have w215 : 0 ≤ Xi T7 904 101 ∧ Xi T7 904 101 ≤ 5010 := hHT7.c _ _
              have w216 : Xi U9 904 65 = Xi T7 904 65 := (show Xi U9 904 65 = Xi T7 904 65 from by rw [eU9]; exact Xi_ne (by omega))
              have w217 : 0 ≤ Xi T7 904 65 ∧ Xi T7 904 65 ≤ 1 := hHT7.c _ _
              have w218 : Xi U9 904 69 = Xi T7 904 69 := (show Xi U9 904 69 = Xi T7 904 69 from by rw [eU9]; exact Xi_ne (by omega))
              have w219 : 0 ≤ Xi T7 904 69 ∧ Xi T7 904 69 ≤ 2600 := hHT7.c _ _
              have w220 : 0 ≤ Xi U9 904 8 ∧ Xi U9 904 8 ≤ 5010 := hHU9.c _ _
              have w221 : Xi U9 904 93 = Xi T7 904 93 := (show Xi U9 904 93 = Xi T7 904 93 from by rw [eU9]; exact Xi_ne (by omega))
              have w222 : 0 ≤ Xi T7 904 93 ∧ Xi T7 904 93 ≤ 1700 := hHT7.c _ _
              have w223 : Xi U9 904 99 = Xi T7 904 99 := (show Xi U9 904 99 = Xi T7 904 99 from by rw [eU9]; exact Xi_ne (by omega))
              have w224 : 0 ≤ Xi T7 904 99 ∧ Xi T7 904 99 ≤ 2600 := hHT7.c _ _
              exact Rl_weak (ih96 _ (by omega) U9 hHU9 hFU9 (v2) (z204) (by omega) (by omega) (by first | exact a133 | exact AT_FR hFU9 rfl hA | assumption | exact (AT_FR (FR_e eU9) rfl (AT_FR (FR_e ) rfl (AT_FR (FR_e ) rfl hA)))) (by first | assumption | exact (RNV_FR (FR_e eU9) rfl (by assumption : RNV T7 _))) (by omega) (by omega) (by omega) (by omega) (by omega) (by omega) (by omega) ((KT_FR (FR_e eU9) rfl (by assumption : KT T7 S _))) rfl) (And.intro rfl (And.intro rfl (And.intro rfl (And.intro rfl (True.intro)))))
            · refine l_iload rfl rfl ?_
              refine l_sipush rfl rfl ?_
              refine l_icmp_eq rfl rfl (by unfold rg; omega) (by unfold rg; omega) (fun w225 => ?_) (fun w226 => ?_)
              · refine l_aload_n rfl rfl ?_
                refine l_dup rfl rfl ?_
                refine l_gfi rfl rfl rfl rfl rfl ?_
                refine l_iconst rfl ?_
                refine l_iadd rfl ?_
                refine l_pfi rfl rfl rfl rfl ?_
                obtain ⟨U10, eU10⟩ : ∃ T : sS, T = uI T7 904 8 (Int32.ofInt ((Xi T7 904 8) + 1)) := ⟨_, rfl⟩
                rw [← eU10]
                have hHU10 : HI U10 := by rw [eU10]; exact HI_w hHT7 (show 0 ≤ ((Xi T7 904 8) + 1) by omega) (show ((Xi T7 904 8) + 1) ≤ 5010 by omega)
                have hFU10 : FR md_mo_test S U10 := by rw [eU10]; exact FR.wI hFT7 (mdf_i (r := (904, 905, 8, 9)) (List.mem_of_getElem? (i := 0) rfl) (inR_i (by omega) (by omega) (by omega) (by omega)))
                have w227 : Xi U10 904 8 = ((Xi T7 904 8) + 1) := by rw [eU10]; exact Xi_same (by unfold rg; omega)
                have t133 : AT U10 n c ∧ _ := at_mv (S := T7) (P := T7) (TK_FR hFT7 rfl hT) A96 (fun _ => rfl) (fun _ => rfl) rfl rfl rfl rfl eU10 (by omega) (by omega) (by omega) (by omega) (Or.inl rfl)
                have a133 : AT U10 n c := t133.1
                refine l_aload_n rfl rfl ?_
                have w228 : Xi U10 904 100 = Xi T7 904 100 := (show Xi U10 904 100 = Xi T7 904 100 from by rw [eU10]; exact Xi_ne (by omega))
                have w229 : 0 ≤ Xi T7 904 100 ∧ Xi T7 904 100 ≤ 2 := hHT7.c _ _
                have w230 : Xi U10 904 101 = Xi T7 904 101 := (show Xi U10 904 101 = Xi T7 904 101 from by rw [eU10]; exact Xi_ne (by omega))
                have w231 : 0 ≤ Xi T7 904 101 ∧ Xi T7 904 101 ≤ 5010 := hHT7.c _ _
                have w232 : Xi U10 904 65 = Xi T7 904 65 := (show Xi U10 904 65 = Xi T7 904 65 from by rw [eU10]; exact Xi_ne (by omega))
                have w233 : 0 ≤ Xi T7 904 65 ∧ Xi T7 904 65 ≤ 1 := hHT7.c _ _
                have w234 : Xi U10 904 69 = Xi T7 904 69 := (show Xi U10 904 69 = Xi T7 904 69 from by rw [eU10]; exact Xi_ne (by omega))
                have w235 : 0 ≤ Xi T7 904 69 ∧ Xi T7 904 69 ≤ 2600 := hHT7.c _ _
                have w236 : 0 ≤ Xi U10 904 8 ∧ Xi U10 904 8 ≤ 5010 := hHU10.c _ _
                have w237 : Xi U10 904 93 = Xi T7 904 93 := (show Xi U10 904 93 = Xi T7 904 93 from by rw [eU10]; exact Xi_ne (by omega))
                have w238 : 0 ≤ Xi T7 904 93 ∧ Xi T7 904 93 ≤ 1700 := hHT7.c _ _
                have w239 : Xi U10 904 99 = Xi T7 904 99 := (show Xi U10 904 99 = Xi T7 904 99 from by rw [eU10]; exact Xi_ne (by omega))
                have w240 : 0 ≤ Xi T7 904 99 ∧ Xi T7 904 99 ≤ 2600 := hHT7.c _ _
                refine l_callV rfl rfl rfl (t_mo_look hHU10 n c (by first | assumption | exact (TK_FR hFU10 rfl (by assumption : TK S _))) (by first | assumption | exact (by assumption : AT U10 _ _)) _) ?_
                rintro _ _ ⟨rfl, z242, rfl, w242, w241⟩
                show Rl _ _ _ _ _ [iv z242] _ _
                have l137 : z242 ≠ 1 → Xi U10 904 65 = 0 ∧ Xi U10 907 (Xi U10 904 8).toNat = z242 := by assumption
                refine l_istore rfl rfl rfl ?_
                refine l_goto rfl rfl ?_
                have w243 : Xi U10 952 (Xi S 904 93).toNat = Xi T7 952 (Xi S 904 93).toNat := (show Xi U10 952 (Xi S 904 93).toNat = Xi T7 952 (Xi S 904 93).toNat from by rw [eU10]; exact Xi_ne (by omega))
                have w244 : Xi U10 954 (Xi S 904 93).toNat = Xi T7 954 (Xi S 904 93).toNat := (show Xi U10 954 (Xi S 904 93).toNat = Xi T7 954 (Xi S 904 93).toNat from by rw [eU10]; exact Xi_ne (by omega))
                have w245 : Xi U10 955 (Xi S 904 93).toNat = Xi T7 955 (Xi S 904 93).toNat := (show Xi U10 955 (Xi S 904 93).toNat = Xi T7 955 (Xi S 904 93).toNat from by rw [eU10]; exact Xi_ne (by omega))
                have w246 : Xi U10 956 (Xi S 904 93).toNat = Xi T7 956 (Xi S 904 93).toNat := (show Xi U10 956 (Xi S 904 93).toNat = Xi T7 956 (Xi S 904 93).toNat from by rw [eU10]; exact Xi_ne (by omega))
                have w247 : Xi U10 959 (Xi S 904 93).toNat = Xi T7 959 (Xi S 904 93).toNat := (show Xi U10 959 (Xi S 904 93).toNat = Xi T7 959 (Xi S 904 93).toNat from by rw [eU10]; exact Xi_ne (by omega))
                have w248 : Xi U10 961 (Xi S 904 93).toNat = Xi T7 961 (Xi S 904 93).toNat := (show Xi U10 961 (Xi S 904 93).toNat = Xi T7 961 (Xi S 904 93).toNat from by rw [eU10]; exact Xi_ne (by omega))
                have w249 : Xi U10 962 (Xi S 904 93).toNat = Xi T7 962 (Xi S 904 93).toNat := (show Xi U10 962 (Xi S 904 93).toNat = Xi T7 962 (Xi S 904 93).toNat from by rw [eU10]; exact Xi_ne (by omega))
                have w250 : Xi U10 904 100 = Xi T7 904 100 := (show Xi U10 904 100 = Xi T7 904 100 from by rw [eU10]; exact Xi_ne (by omega))
                have w251 : 0 ≤ Xi T7 904 100 ∧ Xi T7 904 100 ≤ 2 := hHT7.c _ _
                have w252 : Xi U10 904 101 = Xi T7 904 101 := (show Xi U10 904 101 = Xi T7 904 101 from by rw [eU10]; exact Xi_ne (by omega))
                have w253 : 0 ≤ Xi T7 904 101 ∧ Xi T7 904 101 ≤ 5010 := hHT7.c _ _
                have w254 : Xi U10 904 65 = Xi T7 904 65 := (show Xi U10 904 65 = Xi T7 904 65 from by rw [eU10]; exact Xi_ne (by omega))
                have w255 : 0 ≤ Xi T7 904 65 ∧ Xi T7 904 65 ≤ 1 := hHT7.c _ _
                have w256 : Xi U10 904 69 = Xi T7 904 69 := (show Xi U10 904 69 = Xi T7 904 69 from by rw [eU10]; exact Xi_ne (by omega))
                have w257 : 0 ≤ Xi T7 904 69 ∧ Xi T7 904 69 ≤ 2600 := hHT7.c _ _
                have w258 : 0 ≤ Xi U10 904 8 ∧ Xi U10 904 8 ≤ 5010 := hHU10.c _ _
                have w259 : Xi U10 904 93 = Xi T7 904 93 := (show Xi U10 904 93 = Xi T7 904 93 from by rw [eU10]; exact Xi_ne (by omega))
                have w260 : 0 ≤ Xi T7 904 93 ∧ Xi T7 904 93 ≤ 1700 := hHT7.c _ _
                have w261 : Xi U10 904 99 = Xi T7 904 99 := (show Xi U10 904 99 = Xi T7 904 99 from by rw [eU10]; exact Xi_ne (by omega))
                have w262 : 0 ≤ Xi T7 904 99 ∧ Xi T7 904 99 ≤ 2600 := hHT7.c _ _
                exact Rl_weak (ih96 _ (by omega) U10 hHU10 hFU10 (v2) (z242) (by omega) (by omega) (by first | exact a133 | exact AT_FR hFU10 rfl hA | assumption | exact (AT_FR (FR_e eU10) rfl (AT_FR (FR_e ) rfl (AT_FR (FR_e ) rfl hA)))) (by first | assumption | exact (RNV_FR (FR_e eU10) rfl (by assumption : RNV T7 _))) (by omega) (by omega) (by omega) (by omega) (by omega) (by omega) (by omega) ((KT_FR (FR_e eU10) rfl (by assumption : KT T7 S _))) rfl) (And.intro rfl (And.intro rfl (And.intro rfl (And.intro rfl (True.intro)))))
              · refine l_iload rfl rfl ?_
                refine l_sipush rfl rfl ?_
                refine l_icmp_ne rfl rfl (by unfold rg; omega) (by unfold rg; omega) (fun w263 => ?_) (fun w264 => ?_)
                · refine l_aload_n rfl rfl ?_
                  refine l_gfi rfl rfl rfl rfl rfl ?_
                  refine l_iload_n rfl rfl ?_
                  refine l_icmp_ne rfl rfl (by unfold rg; omega) (by unfold rg; omega) (fun w265 => ?_) (fun w266 => ?_)
                  · refine l_goto rfl rfl ?_
                    have w267 : 0 ≤ Xi T7 904 100 ∧ Xi T7 904 100 ≤ 2 := hHT7.c _ _
                    have w268 : 0 ≤ Xi T7 904 101 ∧ Xi T7 904 101 ≤ 5010 := hHT7.c _ _
                    have w269 : 0 ≤ Xi T7 904 65 ∧ Xi T7 904 65 ≤ 1 := hHT7.c _ _
                    have w270 : 0 ≤ Xi T7 904 69 ∧ Xi T7 904 69 ≤ 2600 := hHT7.c _ _
                    have w271 : 0 ≤ Xi T7 904 8 ∧ Xi T7 904 8 ≤ 5010 := hHT7.c _ _
                    have w272 : 0 ≤ Xi T7 904 93 ∧ Xi T7 904 93 ≤ 1700 := hHT7.c _ _
                    have w273 : 0 ≤ Xi T7 904 99 ∧ Xi T7 904 99 ≤ 2600 := hHT7.c _ _
                    exact Rl_weak (C351 T7 hHT7 hFT7  (by first | assumption | exact (by assumption : AT T7 _ _)) (by first | assumption | exact (by assumption : RNV T7 _)) (by omega) (by omega) (by omega) (by omega) (by omega) (by omega) ((by assumption : KT T7 S _)) (by first | exact (fun _ q => tvx_2 (w187 q).1 (thv_c (h176 (by omega)) (by omega) (by omega) (by omega)) (by have t := p172 (by omega); omega) (w187 q).2.1 (W187 q)) w187 | exact (fun _ q => tvx_3 (by omega) (thv_c (h194 (by omega)) (by omega) (by omega) (by omega)) (by omega)) r271 | exact (fun _ q => tvx_4 (by omega) (thv_c (h194 (by omega)) (by omega) (by omega) (by omega)) (thv_i (s := Xi T7 904 100) (t := Xi T7 904 101) (r := Xi T7 904 99) (by omega) (by omega) (by omega) (by omega) (by omega) (by omega) (by omega))) o313 | exact (fun _ q => tvx_5 (by omega)) A96 | exact fun q => absurd q (by omega))) (And.intro rfl (And.intro rfl (True.intro)))
                  · refine l_aload_n rfl rfl ?_
                    have w274 : 0 ≤ Xi T7 904 100 ∧ Xi T7 904 100 ≤ 2 := hHT7.c _ _
                    have w275 : 0 ≤ Xi T7 904 101 ∧ Xi T7 904 101 ≤ 5010 := hHT7.c _ _
                    have w276 : 0 ≤ Xi T7 904 65 ∧ Xi T7 904 65 ≤ 1 := hHT7.c _ _
                    have w277 : 0 ≤ Xi T7 904 69 ∧ Xi T7 904 69 ≤ 2600 := hHT7.c _ _
                    have w278 : 0 ≤ Xi T7 904 8 ∧ Xi T7 904 8 ≤ 5010 := hHT7.c _ _
                    have w279 : 0 ≤ Xi T7 904 93 ∧ Xi T7 904 93 ≤ 1700 := hHT7.c _ _
                    have w280 : 0 ≤ Xi T7 904 99 ∧ Xi T7 904 99 ≤ 2600 := hHT7.c _ _
                    refine l_callV rfl rfl rfl (t_mo_odd hHT7 _) ?_
                    rintro _ T11 ⟨hHT11, w284, rfl, w281, w282⟩
                    have hFT11 : FR md_mo_test S T11 := FR.tr hFT7 w284 rfl
                    show Rl _ _ _ _ _ [] _ _
                    refine l_goto rfl rfl ?_
                    have w285 : Xi T11 952 (Xi S 904 93).toNat = Xi T7 952 (Xi S 904 93).toNat := (show Xi T11 952 (Xi S 904 93).toNat = Xi T7 952 (Xi S 904 93).toNat from (w284.cx 952 rfl _).1)
                    have w286 : Xi T11 954 (Xi S 904 93).toNat = Xi T7 954 (Xi S 904 93).toNat := (show Xi T11 954 (Xi S 904 93).toNat = Xi T7 954 (Xi S 904 93).toNat from (w284.cx 954 rfl _).1)
                    have w287 : Xi T11 955 (Xi S 904 93).toNat = Xi T7 955 (Xi S 904 93).toNat := (show Xi T11 955 (Xi S 904 93).toNat = Xi T7 955 (Xi S 904 93).toNat from (w284.cx 955 rfl _).1)
                    have w288 : Xi T11 956 (Xi S 904 93).toNat = Xi T7 956 (Xi S 904 93).toNat := (show Xi T11 956 (Xi S 904 93).toNat = Xi T7 956 (Xi S 904 93).toNat from (w284.cx 956 rfl _).1)
                    have w289 : Xi T11 959 (Xi S 904 93).toNat = Xi T7 959 (Xi S 904 93).toNat := (show Xi T11 959 (Xi S 904 93).toNat = Xi T7 959 (Xi S 904 93).toNat from (w284.cx 959 rfl _).1)
                    have w290 : Xi T11 961 (Xi S 904 93).toNat = Xi T7 961 (Xi S 904 93).toNat := (show Xi T11 961 (Xi S 904 93).toNat = Xi T7 961 (Xi S 904 93).toNat from (w284.cx 961 rfl _).1)
                    have w291 : Xi T11 962 (Xi S 904 93).toNat = Xi T7 962 (Xi S 904 93).toNat := (show Xi T11 962 (Xi S 904 93).toNat = Xi T7 962 (Xi S 904 93).toNat from (w284.cx 962 rfl _).1)
                    have w292 : Xi T11 904 100 = Xi T7 904 100 := (show Xi T11 904 100 = Xi T7 904 100 from w284.x _ _ rfl)
                    have w293 : 0 ≤ Xi T7 904 100 ∧ Xi T7 904 100 ≤ 2 := hHT7.c _ _
                    have w294 : Xi T11 904 101 = Xi T7 904 101 := (show Xi T11 904 101 = Xi T7 904 101 from w284.x _ _ rfl)
                    have w295 : 0 ≤ Xi T7 904 101 ∧ Xi T7 904 101 ≤ 5010 := hHT7.c _ _
                    have w296 : 0 ≤ Xi T11 904 65 ∧ Xi T11 904 65 ≤ 1 := hHT11.c _ _
                    have w297 : Xi T11 904 69 = Xi T7 904 69 := (show Xi T11 904 69 = Xi T7 904 69 from w284.x _ _ rfl)
                    have w298 : 0 ≤ Xi T7 904 69 ∧ Xi T7 904 69 ≤ 2600 := hHT7.c _ _
                    have w299 : Xi T11 904 8 = Xi T7 904 8 := (show Xi T11 904 8 = Xi T7 904 8 from w284.x _ _ rfl)
                    have w300 : 0 ≤ Xi T7 904 8 ∧ Xi T7 904 8 ≤ 5010 := hHT7.c _ _
                    have w301 : Xi T11 904 93 = Xi T7 904 93 := (show Xi T11 904 93 = Xi T7 904 93 from w284.x _ _ rfl)
                    have w302 : 0 ≤ Xi T7 904 93 ∧ Xi T7 904 93 ≤ 1700 := hHT7.c _ _
                    have w303 : Xi T11 904 99 = Xi T7 904 99 := (show Xi T11 904 99 = Xi T7 904 99 from w284.x _ _ rfl)
                    have w304 : 0 ≤ Xi T7 904 99 ∧ Xi T7 904 99 ≤ 2600 := hHT7.c _ _
                    exact Rl_weak (C351 T11 hHT11 hFT11  (by first | assumption | exact (by assumption : AT T11 _ _)) (by first | assumption | exact (RNV_FR w284 rfl (by assumption : RNV T7 _))) (by omega) (by omega) (by omega) (by omega) (by omega) (by omega) ((KT_FR w284 rfl (by assumption : KT T7 S _))) (by first | exact (fun _ q => tvx_2 (w187 q).1 (thv_c (h176 (by omega)) (by omega) (by omega) (by omega)) (by have t := p172 (by omega); omega) (w187 q).2.1 (W187 q)) w187 | exact (fun _ q => tvx_3 (by omega) (thv_c (h194 (by omega)) (by omega) (by omega) (by omega)) (by omega)) r271 | exact (fun _ q => tvx_4 (by omega) (thv_c (h194 (by omega)) (by omega) (by omega) (by omega)) (thv_i (s := Xi T11 904 100) (t := Xi T11 904 101) (r := Xi T11 904 99) (by omega) (by omega) (by omega) (by omega) (by omega) (by omega) (by omega))) o313 | exact (fun _ q => tvx_5 (by omega)) A96 | exact fun q => absurd q (by omega))) (And.intro rfl (And.intro rfl (True.intro)))
                · refine l_aload_n rfl rfl ?_
                  refine l_dup rfl rfl ?_
                  refine l_gfi rfl rfl rfl rfl rfl ?_
                  refine l_iconst rfl ?_
                  refine l_iadd rfl ?_
                  refine l_pfi rfl rfl rfl rfl ?_
                  obtain ⟨U12, eU12⟩ : ∃ T : sS, T = uI T7 904 8 (Int32.ofInt ((Xi T7 904 8) + 1)) := ⟨_, rfl⟩
                  rw [← eU12]
                  have hHU12 : HI U12 := by rw [eU12]; exact HI_w hHT7 (show 0 ≤ ((Xi T7 904 8) + 1) by omega) (show ((Xi T7 904 8) + 1) ≤ 5010 by omega)
                  have hFU12 : FR md_mo_test S U12 := by rw [eU12]; exact FR.wI hFT7 (mdf_i (r := (904, 905, 8, 9)) (List.mem_of_getElem? (i := 0) rfl) (inR_i (by omega) (by omega) (by omega) (by omega)))
                  have w305 : Xi U12 904 8 = ((Xi T7 904 8) + 1) := by rw [eU12]; exact Xi_same (by unfold rg; omega)
                  have t133 : AT U12 n c ∧ _ := at_mv (S := T7) (P := T7) (TK_FR hFT7 rfl hT) A96 (fun _ => rfl) (fun _ => rfl) rfl rfl rfl rfl eU12 (by omega) (by omega) (by omega) (by omega) (Or.inl rfl)
                  have a133 : AT U12 n c := t133.1
                  refine l_aload_n rfl rfl ?_
                  have w306 : Xi U12 904 100 = Xi T7 904 100 := (show Xi U12 904 100 = Xi T7 904 100 from by rw [eU12]; exact Xi_ne (by omega))
                  have w307 : 0 ≤ Xi T7 904 100 ∧ Xi T7 904 100 ≤ 2 := hHT7.c _ _
                  have w308 : Xi U12 904 101 = Xi T7 904 101 := (show Xi U12 904 101 = Xi T7 904 101 from by rw [eU12]; exact Xi_ne (by omega))
                  have w309 : 0 ≤ Xi T7 904 101 ∧ Xi T7 904 101 ≤ 5010 := hHT7.c _ _
                  have w310 : Xi U12 904 65 = Xi T7 904 65 := (show Xi U12 904 65 = Xi T7 904 65 from by rw [eU12]; exact Xi_ne (by omega))
                  have w311 : 0 ≤ Xi T7 904 65 ∧ Xi T7 904 65 ≤ 1 := hHT7.c _ _
                  have w312 : Xi U12 904 69 = Xi T7 904 69 := (show Xi U12 904 69 = Xi T7 904 69 from by rw [eU12]; exact Xi_ne (by omega))
                  have w313 : 0 ≤ Xi T7 904 69 ∧ Xi T7 904 69 ≤ 2600 := hHT7.c _ _
                  have w314 : 0 ≤ Xi U12 904 8 ∧ Xi U12 904 8 ≤ 5010 := hHU12.c _ _
                  have w315 : Xi U12 904 93 = Xi T7 904 93 := (show Xi U12 904 93 = Xi T7 904 93 from by rw [eU12]; exact Xi_ne (by omega))
                  have w316 : 0 ≤ Xi T7 904 93 ∧ Xi T7 904 93 ≤ 1700 := hHT7.c _ _
                  have w317 : Xi U12 904 99 = Xi T7 904 99 := (show Xi U12 904 99 = Xi T7 904 99 from by rw [eU12]; exact Xi_ne (by omega))
                  have w318 : 0 ≤ Xi T7 904 99 ∧ Xi T7 904 99 ≤ 2600 := hHT7.c _ _
                  refine l_callV rfl rfl rfl (t_mo_look hHU12 n c (by first | assumption | exact (TK_FR hFU12 rfl (by assumption : TK S _))) (by first | assumption | exact (by assumption : AT U12 _ _)) _) ?_
                  rintro _ _ ⟨rfl, z320, rfl, w320, w319⟩
                  show Rl _ _ _ _ _ [iv z320] _ _
                  have l137 : z320 ≠ 1 → Xi U12 904 65 = 0 ∧ Xi U12 907 (Xi U12 904 8).toNat = z320 := by assumption
                  refine l_istore rfl rfl rfl ?_
                  refine l_goto rfl rfl ?_
                  have w321 : Xi U12 952 (Xi S 904 93).toNat = Xi T7 952 (Xi S 904 93).toNat := (show Xi U12 952 (Xi S 904 93).toNat = Xi T7 952 (Xi S 904 93).toNat from by rw [eU12]; exact Xi_ne (by omega))
                  have w322 : Xi U12 954 (Xi S 904 93).toNat = Xi T7 954 (Xi S 904 93).toNat := (show Xi U12 954 (Xi S 904 93).toNat = Xi T7 954 (Xi S 904 93).toNat from by rw [eU12]; exact Xi_ne (by omega))
                  have w323 : Xi U12 955 (Xi S 904 93).toNat = Xi T7 955 (Xi S 904 93).toNat := (show Xi U12 955 (Xi S 904 93).toNat = Xi T7 955 (Xi S 904 93).toNat from by rw [eU12]; exact Xi_ne (by omega))
                  have w324 : Xi U12 956 (Xi S 904 93).toNat = Xi T7 956 (Xi S 904 93).toNat := (show Xi U12 956 (Xi S 904 93).toNat = Xi T7 956 (Xi S 904 93).toNat from by rw [eU12]; exact Xi_ne (by omega))
                  have w325 : Xi U12 959 (Xi S 904 93).toNat = Xi T7 959 (Xi S 904 93).toNat := (show Xi U12 959 (Xi S 904 93).toNat = Xi T7 959 (Xi S 904 93).toNat from by rw [eU12]; exact Xi_ne (by omega))
                  have w326 : Xi U12 961 (Xi S 904 93).toNat = Xi T7 961 (Xi S 904 93).toNat := (show Xi U12 961 (Xi S 904 93).toNat = Xi T7 961 (Xi S 904 93).toNat from by rw [eU12]; exact Xi_ne (by omega))
                  have w327 : Xi U12 962 (Xi S 904 93).toNat = Xi T7 962 (Xi S 904 93).toNat := (show Xi U12 962 (Xi S 904 93).toNat = Xi T7 962 (Xi S 904 93).toNat from by rw [eU12]; exact Xi_ne (by omega))
                  have w328 : Xi U12 904 100 = Xi T7 904 100 := (show Xi U12 904 100 = Xi T7 904 100 from by rw [eU12]; exact Xi_ne (by omega))
                  have w329 : 0 ≤ Xi T7 904 100 ∧ Xi T7 904 100 ≤ 2 := hHT7.c _ _
                  have w330 : Xi U12 904 101 = Xi T7 904 101 := (show Xi U12 904 101 = Xi T7 904 101 from by rw [eU12]; exact Xi_ne (by omega))
                  have w331 : 0 ≤ Xi T7 904 101 ∧ Xi T7 904 101 ≤ 5010 := hHT7.c _ _
                  have w332 : Xi U12 904 65 = Xi T7 904 65 := (show Xi U12 904 65 = Xi T7 904 65 from by rw [eU12]; exact Xi_ne (by omega))
                  have w333 : 0 ≤ Xi T7 904 65 ∧ Xi T7 904 65 ≤ 1 := hHT7.c _ _
                  have w334 : Xi U12 904 69 = Xi T7 904 69 := (show Xi U12 904 69 = Xi T7 904 69 from by rw [eU12]; exact Xi_ne (by omega))
                  have w335 : 0 ≤ Xi T7 904 69 ∧ Xi T7 904 69 ≤ 2600 := hHT7.c _ _
                  have w336 : 0 ≤ Xi U12 904 8 ∧ Xi U12 904 8 ≤ 5010 := hHU12.c _ _
                  have w337 : Xi U12 904 93 = Xi T7 904 93 := (show Xi U12 904 93 = Xi T7 904 93 from by rw [eU12]; exact Xi_ne (by omega))
                  have w338 : 0 ≤ Xi T7 904 93 ∧ Xi T7 904 93 ≤ 1700 := hHT7.c _ _
                  have w339 : Xi U12 904 99 = Xi T7 904 99 := (show Xi U12 904 99 = Xi T7 904 99 from by rw [eU12]; exact Xi_ne (by omega))
                  have w340 : 0 ≤ Xi T7 904 99 ∧ Xi T7 904 99 ≤ 2600 := hHT7.c _ _
                  exact Rl_weak (ih96 _ (by omega) U12 hHU12 hFU12 (v2) (z320) (by omega) (by omega) (by first | exact a133 | exact AT_FR hFU12 rfl hA | assumption | exact (AT_FR (FR_e eU12) rfl (AT_FR (FR_e ) rfl (AT_FR (FR_e ) rfl hA)))) (by first | assumption | exact (RNV_FR (FR_e eU12) rfl (by assumption : RNV T7 _))) (by omega) (by omega) (by omega) (by omega) (by omega) (by omega) (by omega) ((KT_FR (FR_e eU12) rfl (by assumption : KT T7 S _))) rfl) (And.intro rfl (And.intro rfl (And.intro rfl (And.intro rfl (True.intro)))))
      refine l_aload_n rfl rfl ?_
      refine l_aload_n rfl rfl ?_
      refine l_gfr rfl rfl rfl rfl rfl (hH.r 904 4 907 rfl) ?_
      refine l_iload rfl rfl ?_
      refine l_iaload (n := 5002) rfl rfl (by omega) (by omega) (by unfold rg; omega) ?_
      have w341 : 0 ≤ (Xi S 907 ((v4).toNat)) ∧ (Xi S 907 ((v4).toNat)) ≤ 154 := hH.c _ _
      refine l_iload_n rfl rfl ?_
      have w342 : 0 ≤ Xi S 904 100 ∧ Xi S 904 100 ≤ 2 := hH.c _ _
      have w343 : 0 ≤ Xi S 904 101 ∧ Xi S 904 101 ≤ 5010 := hH.c _ _
      have w344 : 0 ≤ Xi S 904 65 ∧ Xi S 904 65 ≤ 1 := hH.c _ _
      have w345 : 0 ≤ Xi S 904 69 ∧ Xi S 904 69 ≤ 2600 := hH.c _ _
      have w346 : 0 ≤ Xi S 904 8 ∧ Xi S 904 8 ≤ 5010 := hH.c _ _
      have w347 : 0 ≤ Xi S 904 93 ∧ Xi S 904 93 ≤ 1700 := hH.c _ _
      have w348 : 0 ≤ Xi S 904 99 ∧ Xi S 904 99 ≤ 2600 := hH.c _ _
      refine l_callV rfl rfl rfl (t_mo_endsTest hH (Xi S 907 ((v4).toNat)) isNow ⟨by omega, by omega⟩ ⟨by omega, by omega⟩ _) ?_
      rintro _ _ ⟨rfl, z350, rfl, w350, w349⟩
      show Rl _ _ _ _ _ [iv z350] _ _
      have u22 : z350 = 0 → v4 < n := fun q => tk_lt hT (by omega) (by omega) (by omega)
      refine l_if_ne rfl rfl (by unfold rg; omega) (fun w351 => ?_) (fun w352 => ?_)
      · refine l_aload_n rfl rfl ?_
        refine l_gfr rfl rfl rfl rfl rfl (hH.r 904 91 961 rfl) ?_
        refine l_aload_n rfl rfl ?_
        refine l_gfi rfl rfl rfl rfl rfl ?_
        refine l_iload_n rfl rfl ?_
        refine l_iastore (n := 1700) rfl rfl (by omega) (by omega) (by unfold rg; omega) ?_
        obtain ⟨U13, eU13⟩ : ∃ T : sS, T = uI S 961 (((Xi S 904 93)).toNat) (Int32.ofInt v2) := ⟨_, rfl⟩
        rw [← eU13]
        have hHU13 : HI U13 := by rw [eU13]; exact HI_w hH (show 0 ≤ v2 by omega) (show v2 ≤ 5010 by omega)
        have hFU13 : FR md_mo_test S U13 := by rw [eU13]; exact FR.wI hF (mdf_i (r := (961, 962, 0, 100000)) (List.mem_of_getElem? (i := 20) rfl) (inR_i (by omega) (by omega) (by omega) (by omega)))
        have w353 : Xi U13 961 (((Xi S 904 93)).toNat) = v2 := by rw [eU13]; exact Xi_same (by unfold rg; omega)
        refine l_aload_n rfl rfl ?_
        refine l_gfr rfl rfl rfl rfl rfl (hHU13.r 904 83 953 rfl) ?_
        refine l_aload_n rfl rfl ?_
        refine l_gfi rfl rfl rfl rfl rfl ?_
        have w354 : (Xi U13 904 93) = (Xi S 904 93) := (show Xi U13 904 93 = Xi S 904 93 from by rw [eU13]; exact Xi_ne (by omega))
        rw [w354]
        refine l_iconst rfl ?_
        refine l_bastoreZ1 (n := 1700) rfl rfl (by omega) (by omega) (by unfold rg; omega) ⟨by omega, by omega⟩ ?_
        obtain ⟨U14, eU14⟩ : ∃ T : sS, T = uI U13 953 (((Xi S 904 93)).toNat) (Int32.ofInt 0) := ⟨_, rfl⟩
        rw [← eU14]
        have hHU14 : HI U14 := by rw [eU14]; exact HI_w hHU13 (show 0 ≤ 0 by omega) (show 0 ≤ 1 by omega)
        have hFU14 : FR md_mo_test S U14 := by rw [eU14]; exact FR.wI hFU13 (mdf_i (r := (953, 954, 0, 100000)) (List.mem_of_getElem? (i := 12) rfl) (inR_i (by omega) (by omega) (by omega) (by omega)))
        have w355 : Xi U14 953 (((Xi S 904 93)).toNat) = 0 := by rw [eU14]; exact Xi_same (by unfold rg; omega)
        refine l_iload_n rfl rfl ?_
        refine l_if_ne rfl rfl (by unfold rg; omega) (fun w356 => ?_) (fun w357 => ?_)
        · refine l_aload_n rfl rfl ?_
          refine l_aload_n rfl rfl ?_
          refine l_gfi rfl rfl rfl rfl rfl ?_
          have w358 : (Xi U14 904 8) = (Xi S 904 8) := (show Xi U14 904 8 = Xi U13 904 8 from by rw [eU14]; exact Xi_ne (by omega)).trans ((show Xi U13 904 8 = Xi S 904 8 from by rw [eU13]; exact Xi_ne (by omega)))
          rw [w358]
          have w359 : Xi U14 904 100 = Xi S 904 100 := (show Xi U14 904 100 = Xi U13 904 100 from by rw [eU14]; exact Xi_ne (by omega)).trans ((show Xi U13 904 100 = Xi S 904 100 from by rw [eU13]; exact Xi_ne (by omega)))
          have w360 : 0 ≤ Xi S 904 100 ∧ Xi S 904 100 ≤ 2 := hH.c _ _
          have w361 : Xi U14 904 101 = Xi S 904 101 := (show Xi U14 904 101 = Xi U13 904 101 from by rw [eU14]; exact Xi_ne (by omega)).trans ((show Xi U13 904 101 = Xi S 904 101 from by rw [eU13]; exact Xi_ne (by omega)))
          have w362 : 0 ≤ Xi S 904 101 ∧ Xi S 904 101 ≤ 5010 := hH.c _ _
          have w363 : Xi U14 904 65 = Xi S 904 65 := (show Xi U14 904 65 = Xi U13 904 65 from by rw [eU14]; exact Xi_ne (by omega)).trans ((show Xi U13 904 65 = Xi S 904 65 from by rw [eU13]; exact Xi_ne (by omega)))
          have w364 : 0 ≤ Xi S 904 65 ∧ Xi S 904 65 ≤ 1 := hH.c _ _
          have w365 : Xi U14 904 69 = Xi S 904 69 := (show Xi U14 904 69 = Xi U13 904 69 from by rw [eU14]; exact Xi_ne (by omega)).trans ((show Xi U13 904 69 = Xi S 904 69 from by rw [eU13]; exact Xi_ne (by omega)))
          have w366 : 0 ≤ Xi S 904 69 ∧ Xi S 904 69 ≤ 2600 := hH.c _ _
          have w367 : Xi U14 904 8 = Xi S 904 8 := (show Xi U14 904 8 = Xi U13 904 8 from by rw [eU14]; exact Xi_ne (by omega)).trans ((show Xi U13 904 8 = Xi S 904 8 from by rw [eU13]; exact Xi_ne (by omega)))
          have w368 : 0 ≤ Xi S 904 8 ∧ Xi S 904 8 ≤ 5010 := hH.c _ _
          have w369 : Xi U14 904 93 = Xi S 904 93 := (show Xi U14 904 93 = Xi U13 904 93 from by rw [eU14]; exact Xi_ne (by omega)).trans ((show Xi U13 904 93 = Xi S 904 93 from by rw [eU13]; exact Xi_ne (by omega)))
          have w370 : 0 ≤ Xi S 904 93 ∧ Xi S 904 93 ≤ 1700 := hH.c _ _
          have w371 : Xi U14 904 99 = Xi S 904 99 := (show Xi U14 904 99 = Xi U13 904 99 from by rw [eU14]; exact Xi_ne (by omega)).trans ((show Xi U13 904 99 = Xi S 904 99 from by rw [eU13]; exact Xi_ne (by omega)))
          have w372 : 0 ≤ Xi S 904 99 ∧ Xi S 904 99 ≤ 2600 := hH.c _ _
          refine l_callV rfl rfl rfl (t_mo_beginsOf hHU14 n (Xi S 904 8) ⟨by omega, by omega⟩ (by first | assumption | exact (TK_FR hFU14 rfl (by assumption : TK S _))) (by first | assumption | omega) _) ?_
          rintro _ _ ⟨rfl, z373, rfl, w373⟩
          show Rl _ _ _ _ _ [iv z373] _ _
          refine l_if_eq rfl rfl (by unfold rg; omega) (fun w374 => ?_) (fun w375 => ?_)
          · refine l_aload_n rfl rfl ?_
            have w376 : Xi U14 904 100 = Xi S 904 100 := (show Xi U14 904 100 = Xi U13 904 100 from by rw [eU14]; exact Xi_ne (by omega)).trans ((show Xi U13 904 100 = Xi S 904 100 from by rw [eU13]; exact Xi_ne (by omega)))
            have w377 : 0 ≤ Xi S 904 100 ∧ Xi S 904 100 ≤ 2 := hH.c _ _
            have w378 : Xi U14 904 101 = Xi S 904 101 := (show Xi U14 904 101 = Xi U13 904 101 from by rw [eU14]; exact Xi_ne (by omega)).trans ((show Xi U13 904 101 = Xi S 904 101 from by rw [eU13]; exact Xi_ne (by omega)))
            have w379 : 0 ≤ Xi S 904 101 ∧ Xi S 904 101 ≤ 5010 := hH.c _ _
            have w380 : Xi U14 904 65 = Xi S 904 65 := (show Xi U14 904 65 = Xi U13 904 65 from by rw [eU14]; exact Xi_ne (by omega)).trans ((show Xi U13 904 65 = Xi S 904 65 from by rw [eU13]; exact Xi_ne (by omega)))
            have w381 : 0 ≤ Xi S 904 65 ∧ Xi S 904 65 ≤ 1 := hH.c _ _
            have w382 : Xi U14 904 69 = Xi S 904 69 := (show Xi U14 904 69 = Xi U13 904 69 from by rw [eU14]; exact Xi_ne (by omega)).trans ((show Xi U13 904 69 = Xi S 904 69 from by rw [eU13]; exact Xi_ne (by omega)))
            have w383 : 0 ≤ Xi S 904 69 ∧ Xi S 904 69 ≤ 2600 := hH.c _ _
            have w384 : Xi U14 904 8 = Xi S 904 8 := (show Xi U14 904 8 = Xi U13 904 8 from by rw [eU14]; exact Xi_ne (by omega)).trans ((show Xi U13 904 8 = Xi S 904 8 from by rw [eU13]; exact Xi_ne (by omega)))
            have w385 : 0 ≤ Xi S 904 8 ∧ Xi S 904 8 ≤ 5010 := hH.c _ _
            have w386 : Xi U14 904 93 = Xi S 904 93 := (show Xi U14 904 93 = Xi U13 904 93 from by rw [eU14]; exact Xi_ne (by omega)).trans ((show Xi U13 904 93 = Xi S 904 93 from by rw [eU13]; exact Xi_ne (by omega)))
            have w387 : 0 ≤ Xi S 904 93 ∧ Xi S 904 93 ≤ 1700 := hH.c _ _
            have w388 : Xi U14 904 99 = Xi S 904 99 := (show Xi U14 904 99 = Xi U13 904 99 from by rw [eU14]; exact Xi_ne (by omega)).trans ((show Xi U13 904 99 = Xi S 904 99 from by rw [eU13]; exact Xi_ne (by omega)))
            have w389 : 0 ≤ Xi S 904 99 ∧ Xi S 904 99 ≤ 2600 := hH.c _ _
            refine l_callV rfl rfl rfl (t_mo_thingOfTest hHU14 n c (by first | assumption | exact (TK_FR hFU14 rfl (by assumption : TK S _))) (by first | assumption | exact (AT_FR (FR_e eU14) rfl (AT_FR (FR_e eU13) rfl (by assumption : AT S _ _)))) (by first | assumption | exact (RNV_FR (FR_e eU14) rfl (RNV_FR (FR_e eU13) rfl (by assumption : RNV S _)))) (by first | assumption | omega) _) ?_
            rintro _ T15 ⟨hHT15, w397, rfl, w390, w391, w392, w393, w394, w395, h194⟩
            have hFT15 : FR md_mo_test S T15 := FR.tr hFU14 w397 rfl
            show Rl _ _ _ _ _ [] _ _
            refine l_aload_n rfl rfl ?_
            refine l_bipush rfl rfl ?_
            have w398 : 0 ≤ Xi T15 904 100 ∧ Xi T15 904 100 ≤ 2 := hHT15.c _ _
            have w399 : 0 ≤ Xi T15 904 101 ∧ Xi T15 904 101 ≤ 5010 := hHT15.c _ _
            have w400 : 0 ≤ Xi T15 904 65 ∧ Xi T15 904 65 ≤ 1 := hHT15.c _ _
            have w401 : 0 ≤ Xi T15 904 69 ∧ Xi T15 904 69 ≤ 2600 := hHT15.c _ _
            have w402 : 0 ≤ Xi T15 904 8 ∧ Xi T15 904 8 ≤ 5010 := hHT15.c _ _
            have w403 : Xi T15 904 93 = Xi S 904 93 := (show Xi T15 904 93 = Xi U14 904 93 from w397.x _ _ rfl).trans ( (show Xi U14 904 93 = Xi U13 904 93 from by rw [eU14]; exact Xi_ne (by omega)).trans ((show Xi U13 904 93 = Xi S 904 93 from by rw [eU13]; exact Xi_ne (by omega))))
            have w404 : 0 ≤ Xi S 904 93 ∧ Xi S 904 93 ≤ 1700 := hH.c _ _
            have w405 : 0 ≤ Xi T15 904 99 ∧ Xi T15 904 99 ≤ 2600 := hHT15.c _ _
            refine l_callV rfl rfl rfl (t_mo_take__2 hHT15 n c 104 ⟨by omega, by omega⟩ (by first | assumption | exact (TK_FR hFT15 rfl (by assumption : TK S _))) (by first | assumption | exact (by assumption : AT T15 _ _)) (by first | assumption | omega) _) ?_
            rintro _ T16 ⟨hHT16, w411, rfl, w406, w407, w408, w409⟩
            have hFT16 : FR md_mo_test S T16 := FR.tr hFT15 w411 rfl
            show Rl _ _ _ _ _ [] _ _
            refine l_aload_n rfl rfl ?_
            refine l_gfr rfl rfl rfl rfl rfl (hHT16.r 904 83 953 rfl) ?_
            refine l_aload_n rfl rfl ?_
            refine l_gfi rfl rfl rfl rfl rfl ?_
            have w412 : (Xi T16 904 93) = (Xi S 904 93) := (show Xi T16 904 93 = Xi T15 904 93 from w411.x _ _ rfl).trans ( (show Xi T15 904 93 = Xi U14 904 93 from w397.x _ _ rfl).trans ( (show Xi U14 904 93 = Xi U13 904 93 from by rw [eU14]; exact Xi_ne (by omega)).trans ((show Xi U13 904 93 = Xi S 904 93 from by rw [eU13]; exact Xi_ne (by omega)))))
            rw [w412]
            refine l_aload_n rfl rfl ?_
            refine l_bipush rfl rfl ?_
            have w413 : Xi T16 904 100 = Xi T15 904 100 := (show Xi T16 904 100 = Xi T15 904 100 from w411.x _ _ rfl)
            have w414 : 0 ≤ Xi T15 904 100 ∧ Xi T15 904 100 ≤ 2 := hHT15.c _ _
            have w415 : Xi T16 904 101 = Xi T15 904 101 := (show Xi T16 904 101 = Xi T15 904 101 from w411.x _ _ rfl)
            have w416 : 0 ≤ Xi T15 904 101 ∧ Xi T15 904 101 ≤ 5010 := hHT15.c _ _
            have w417 : 0 ≤ Xi T16 904 65 ∧ Xi T16 904 65 ≤ 1 := hHT16.c _ _
            have w418 : Xi T16 904 69 = Xi T15 904 69 := (show Xi T16 904 69 = Xi T15 904 69 from w411.x _ _ rfl)
            have w419 : 0 ≤ Xi T15 904 69 ∧ Xi T15 904 69 ≤ 2600 := hHT15.c _ _
            have w420 : 0 ≤ Xi T16 904 8 ∧ Xi T16 904 8 ≤ 5010 := hHT16.c _ _
            have w421 : Xi T16 904 93 = Xi S 904 93 := (show Xi T16 904 93 = Xi T15 904 93 from w411.x _ _ rfl).trans ( (show Xi T15 904 93 = Xi U14 904 93 from w397.x _ _ rfl).trans ( (show Xi U14 904 93 = Xi U13 904 93 from by rw [eU14]; exact Xi_ne (by omega)).trans ((show Xi U13 904 93 = Xi S 904 93 from by rw [eU13]; exact Xi_ne (by omega)))))
            have w422 : 0 ≤ Xi S 904 93 ∧ Xi S 904 93 ≤ 1700 := hH.c _ _
            have w423 : Xi T16 904 99 = Xi T15 904 99 := (show Xi T16 904 99 = Xi T15 904 99 from w411.x _ _ rfl)
            have w424 : 0 ≤ Xi T15 904 99 ∧ Xi T15 904 99 ≤ 2600 := hHT15.c _ _
            refine l_callV rfl rfl rfl (t_mo_isNext hHT16 n c 106 ⟨by omega, by omega⟩ (by first | assumption | exact (TK_FR hFT16 rfl (by assumption : TK S _))) (by first | assumption | exact (by assumption : AT T16 _ _)) _) ?_
            rintro _ _ ⟨rfl, z427, rfl, w427, w425, w426⟩
            show Rl _ _ _ _ _ [iv z427, iv (Xi S 904 93), .ref 953] _ _
            have j214 : z427 = 1 → Xi T16 904 65 = 0 ∧ Xi T16 907 (Xi T16 904 8).toNat = 106 := by assumption
            refine l_bastoreZ1 (n := 1700) rfl rfl (by omega) (by omega) (by unfold rg; omega) ⟨by omega, by omega⟩ ?_
            obtain ⟨U17, eU17⟩ : ∃ T : sS, T = uI T16 953 (((Xi S 904 93)).toNat) (Int32.ofInt z427) := ⟨_, rfl⟩
            rw [← eU17]
            have hHU17 : HI U17 := by rw [eU17]; exact HI_w hHT16 (show 0 ≤ z427 by omega) (show z427 ≤ 1 by omega)
            have hFU17 : FR md_mo_test S U17 := by rw [eU17]; exact FR.wI hFT16 (mdf_i (r := (953, 954, 0, 100000)) (List.mem_of_getElem? (i := 12) rfl) (inR_i (by omega) (by omega) (by omega) (by omega)))
            have w428 : Xi U17 953 (((Xi S 904 93)).toNat) = z427 := by rw [eU17]; exact Xi_same (by unfold rg; omega)
            have s217_8 : Xi U17 904 8 = Xi T16 904 8 := by rw [eU17, Xi_ne (by omega)]
            have s217_65 : Xi U17 904 65 = Xi T16 904 65 := by rw [eU17, Xi_ne (by omega)]
            have s217_69 : Xi U17 904 69 = Xi T16 904 69 := by rw [eU17, Xi_ne (by omega)]
            have s217_93 : Xi U17 904 93 = Xi T16 904 93 := by rw [eU17, Xi_ne (by omega)]
            have x217 : ∀ j, Xi U17 907 j = Xi T16 907 j := fun j => by rw [eU17, Xi_ne (by omega)]
            have i217 : Xi U17 953 (Xi S 904 93).toNat ≠ 0 → Xi U17 904 65 = 0 ∧ Xi U17 907 (Xi U17 904 8).toNat ≠ 1 := fun q => by have t := j214 (by omega); rw [x217, s217_8]; omega
            have a217 : AT U17 n c := AT_FR (FR_e eU17) rfl (by assumption)
            refine l_aload_n rfl rfl ?_
            refine l_dup rfl rfl ?_
            refine l_gfi rfl rfl rfl rfl rfl ?_
            have w429 : 0 ≤ (Xi U17 904 8) ∧ (Xi U17 904 8) ≤ 5010 := hHU17.c _ _
            refine l_aload_n rfl rfl ?_
            refine l_gfr rfl rfl rfl rfl rfl (hHU17.r 904 83 953 rfl) ?_
            refine l_aload_n rfl rfl ?_
            refine l_gfi rfl rfl rfl rfl rfl ?_
            have w430 : (Xi U17 904 93) = (Xi S 904 93) := (show Xi U17 904 93 = Xi T16 904 93 from by rw [eU17]; exact Xi_ne (by omega)).trans ( (show Xi T16 904 93 = Xi T15 904 93 from w411.x _ _ rfl).trans ( (show Xi T15 904 93 = Xi U14 904 93 from w397.x _ _ rfl).trans ( (show Xi U14 904 93 = Xi U13 904 93 from by rw [eU14]; exact Xi_ne (by omega)).trans ((show Xi U13 904 93 = Xi S 904 93 from by rw [eU13]; exact Xi_ne (by omega))))))
            rw [w430]
            refine l_baload (n := 1700) rfl rfl rfl (by decide) (by omega) (by omega) (by unfold rg; omega) ?_
            refine l_if_eq rfl rfl (by unfold rg; omega) (fun w431 => ?_) (fun w432 => ?_)
            · refine l_iconst rfl ?_
              refine l_iadd rfl ?_
              refine l_pfi rfl rfl rfl rfl ?_
              obtain ⟨U18, eU18⟩ : ∃ T : sS, T = uI U17 904 8 (Int32.ofInt ((Xi U17 904 8) + 0)) := ⟨_, rfl⟩
              rw [← eU18]
              have hHU18 : HI U18 := by rw [eU18]; exact HI_w hHU17 (show 0 ≤ ((Xi U17 904 8) + 0) by omega) (show ((Xi U17 904 8) + 0) ≤ 5010 by omega)
              have hFU18 : FR md_mo_test S U18 := by rw [eU18]; exact FR.wI hFU17 (mdf_i (r := (904, 905, 8, 9)) (List.mem_of_getElem? (i := 0) rfl) (inR_i (by omega) (by omega) (by omega) (by omega)))
              have w433 : Xi U18 904 8 = ((Xi U17 904 8) + 0) := by rw [eU18]; exact Xi_same (by unfold rg; omega)
              have t241 : AT U18 n c ∧ Xi U17 904 8 ≤ Xi U18 904 8 ∧ (Xi U18 904 8 ≤ n ∨ Xi U18 904 8 = Xi U17 904 8) := at_opt (TK_FR hFU17 rfl hT) a217 eU18 (by omega) (by omega)
              have a241 : AT U18 n c := t241.1
              refine l_aload_n rfl rfl ?_
              refine l_iconst rfl ?_
              have w434 : Xi U18 904 100 = Xi T15 904 100 := (show Xi U18 904 100 = Xi U17 904 100 from by rw [eU18]; exact Xi_ne (by omega)).trans ( (show Xi U17 904 100 = Xi T16 904 100 from by rw [eU17]; exact Xi_ne (by omega)).trans ((show Xi T16 904 100 = Xi T15 904 100 from w411.x _ _ rfl)))
              have w435 : 0 ≤ Xi T15 904 100 ∧ Xi T15 904 100 ≤ 2 := hHT15.c _ _
              have w436 : Xi U18 904 101 = Xi T15 904 101 := (show Xi U18 904 101 = Xi U17 904 101 from by rw [eU18]; exact Xi_ne (by omega)).trans ( (show Xi U17 904 101 = Xi T16 904 101 from by rw [eU17]; exact Xi_ne (by omega)).trans ((show Xi T16 904 101 = Xi T15 904 101 from w411.x _ _ rfl)))
              have w437 : 0 ≤ Xi T15 904 101 ∧ Xi T15 904 101 ≤ 5010 := hHT15.c _ _
              have w438 : Xi U18 904 65 = Xi T16 904 65 := (show Xi U18 904 65 = Xi U17 904 65 from by rw [eU18]; exact Xi_ne (by omega)).trans ((show Xi U17 904 65 = Xi T16 904 65 from by rw [eU17]; exact Xi_ne (by omega)))
              have w439 : 0 ≤ Xi T16 904 65 ∧ Xi T16 904 65 ≤ 1 := hHT16.c _ _
              have w440 : Xi U18 904 69 = Xi T15 904 69 := (show Xi U18 904 69 = Xi U17 904 69 from by rw [eU18]; exact Xi_ne (by omega)).trans ( (show Xi U17 904 69 = Xi T16 904 69 from by rw [eU17]; exact Xi_ne (by omega)).trans ((show Xi T16 904 69 = Xi T15 904 69 from w411.x _ _ rfl)))
              have w441 : 0 ≤ Xi T15 904 69 ∧ Xi T15 904 69 ≤ 2600 := hHT15.c _ _
              have w442 : 0 ≤ Xi U18 904 8 ∧ Xi U18 904 8 ≤ 5010 := hHU18.c _ _
              have w443 : Xi U18 904 93 = Xi S 904 93 := (show Xi U18 904 93 = Xi U17 904 93 from by rw [eU18]; exact Xi_ne (by omega)).trans ( (show Xi U17 904 93 = Xi T16 904 93 from by rw [eU17]; exact Xi_ne (by omega)).trans ( (show Xi T16 904 93 = Xi T15 904 93 from w411.x _ _ rfl).trans ( (show Xi T15 904 93 = Xi U14 904 93 from w397.x _ _ rfl).trans ( (show Xi U14 904 93 = Xi U13 904 93 from by rw [eU14]; exact Xi_ne (by omega)).trans ((show Xi U13 904 93 = Xi S 904 93 from by rw [eU13]; exact Xi_ne (by omega)))))))
              have w444 : 0 ≤ Xi S 904 93 ∧ Xi S 904 93 ≤ 1700 := hH.c _ _
              have w445 : Xi U18 904 99 = Xi T15 904 99 := (show Xi U18 904 99 = Xi U17 904 99 from by rw [eU18]; exact Xi_ne (by omega)).trans ( (show Xi U17 904 99 = Xi T16 904 99 from by rw [eU17]; exact Xi_ne (by omega)).trans ((show Xi T16 904 99 = Xi T15 904 99 from w411.x _ _ rfl)))
              have w446 : 0 ≤ Xi T15 904 99 ∧ Xi T15 904 99 ≤ 2600 := hHT15.c _ _
              refine l_callV rfl rfl rfl (t_mo_isNext hHU18 n c 3 ⟨by omega, by omega⟩ (by first | assumption | exact (TK_FR hFU18 rfl (by assumption : TK S _))) (by first | assumption | exact (by assumption : AT U18 _ _)) _) ?_
              rintro _ _ ⟨rfl, z449, rfl, w449, w447, w448⟩
              show Rl _ _ _ _ _ [iv z449] _ _
              refine l_if_eq rfl rfl (by unfold rg; omega) (fun w450 => ?_) (fun w451 => ?_)
              · refine l_iload_n rfl rfl ?_
                refine l_if_eq rfl rfl (by unfold rg; omega) (fun w452 => ?_) (fun w453 => ?_)
                · refine l_aload_n rfl rfl ?_
                  refine l_gfr rfl rfl rfl rfl rfl (hHU18.r 904 82 952 rfl) ?_
                  refine l_aload_n rfl rfl ?_
                  refine l_gfi rfl rfl rfl rfl rfl ?_
                  have w454 : (Xi U18 904 93) = (Xi S 904 93) := (show Xi U18 904 93 = Xi U17 904 93 from by rw [eU18]; exact Xi_ne (by omega)).trans ( (show Xi U17 904 93 = Xi T16 904 93 from by rw [eU17]; exact Xi_ne (by omega)).trans ( (show Xi T16 904 93 = Xi T15 904 93 from w411.x _ _ rfl).trans ( (show Xi T15 904 93 = Xi U14 904 93 from w397.x _ _ rfl).trans ( (show Xi U14 904 93 = Xi U13 904 93 from by rw [eU14]; exact Xi_ne (by omega)).trans ((show Xi U13 904 93 = Xi S 904 93 from by rw [eU13]; exact Xi_ne (by omega)))))))
                  rw [w454]
                  refine l_iconst rfl ?_
                  refine l_iastore (n := 1700) rfl rfl (by omega) (by omega) (by unfold rg; omega) ?_
                  obtain ⟨U19, eU19⟩ : ∃ T : sS, T = uI U18 952 (((Xi S 904 93)).toNat) (Int32.ofInt 4) := ⟨_, rfl⟩
                  rw [← eU19]
                  have hHU19 : HI U19 := by rw [eU19]; exact HI_w hHU18 (show 0 ≤ 4 by omega) (show 4 ≤ 5 by omega)
                  have hFU19 : FR md_mo_test S U19 := by rw [eU19]; exact FR.wI hFU18 (mdf_i (r := (952, 953, 0, 100000)) (List.mem_of_getElem? (i := 11) rfl) (inR_i (by omega) (by omega) (by omega) (by omega)))
                  have w455 : Xi U19 952 (((Xi S 904 93)).toNat) = 4 := by rw [eU19]; exact Xi_same (by unfold rg; omega)
                  refine l_aload_n rfl rfl ?_
                  refine l_gfr rfl rfl rfl rfl rfl (hHU19.r 904 88 958 rfl) ?_
                  refine l_aload_n rfl rfl ?_
                  refine l_gfi rfl rfl rfl rfl rfl ?_
                  have w456 : (Xi U19 904 93) = (Xi S 904 93) := (show Xi U19 904 93 = Xi U18 904 93 from by rw [eU19]; exact Xi_ne (by omega)).trans ( (show Xi U18 904 93 = Xi U17 904 93 from by rw [eU18]; exact Xi_ne (by omega)).trans ( (show Xi U17 904 93 = Xi T16 904 93 from by rw [eU17]; exact Xi_ne (by omega)).trans ( (show Xi T16 904 93 = Xi T15 904 93 from w411.x _ _ rfl).trans ( (show Xi T15 904 93 = Xi U14 904 93 from w397.x _ _ rfl).trans ( (show Xi U14 904 93 = Xi U13 904 93 from by rw [eU14]; exact Xi_ne (by omega)).trans ((show Xi U13 904 93 = Xi S 904 93 from by rw [eU13]; exact Xi_ne (by omega))))))))
                  rw [w456]
                  refine l_aload_n rfl rfl ?_
                  have w457 : Xi U19 904 100 = Xi T15 904 100 := (show Xi U19 904 100 = Xi U18 904 100 from by rw [eU19]; exact Xi_ne (by omega)).trans ( (show Xi U18 904 100 = Xi U17 904 100 from by rw [eU18]; exact Xi_ne (by omega)).trans ( (show Xi U17 904 100 = Xi T16 904 100 from by rw [eU17]; exact Xi_ne (by omega)).trans ((show Xi T16 904 100 = Xi T15 904 100 from w411.x _ _ rfl))))
                  have w458 : 0 ≤ Xi T15 904 100 ∧ Xi T15 904 100 ≤ 2 := hHT15.c _ _
                  have w459 : Xi U19 904 101 = Xi T15 904 101 := (show Xi U19 904 101 = Xi U18 904 101 from by rw [eU19]; exact Xi_ne (by omega)).trans ( (show Xi U18 904 101 = Xi U17 904 101 from by rw [eU18]; exact Xi_ne (by omega)).trans ( (show Xi U17 904 101 = Xi T16 904 101 from by rw [eU17]; exact Xi_ne (by omega)).trans ((show Xi T16 904 101 = Xi T15 904 101 from w411.x _ _ rfl))))
                  have w460 : 0 ≤ Xi T15 904 101 ∧ Xi T15 904 101 ≤ 5010 := hHT15.c _ _
                  have w461 : Xi U19 904 65 = Xi T16 904 65 := (show Xi U19 904 65 = Xi U18 904 65 from by rw [eU19]; exact Xi_ne (by omega)).trans ( (show Xi U18 904 65 = Xi U17 904 65 from by rw [eU18]; exact Xi_ne (by omega)).trans ((show Xi U17 904 65 = Xi T16 904 65 from by rw [eU17]; exact Xi_ne (by omega))))
                  have w462 : 0 ≤ Xi T16 904 65 ∧ Xi T16 904 65 ≤ 1 := hHT16.c _ _
                  have w463 : Xi U19 904 69 = Xi T15 904 69 := (show Xi U19 904 69 = Xi U18 904 69 from by rw [eU19]; exact Xi_ne (by omega)).trans ( (show Xi U18 904 69 = Xi U17 904 69 from by rw [eU18]; exact Xi_ne (by omega)).trans ( (show Xi U17 904 69 = Xi T16 904 69 from by rw [eU17]; exact Xi_ne (by omega)).trans ((show Xi T16 904 69 = Xi T15 904 69 from w411.x _ _ rfl))))
                  have w464 : 0 ≤ Xi T15 904 69 ∧ Xi T15 904 69 ≤ 2600 := hHT15.c _ _
                  have w465 : Xi U19 904 8 = Xi U18 904 8 := (show Xi U19 904 8 = Xi U18 904 8 from by rw [eU19]; exact Xi_ne (by omega))
                  have w466 : 0 ≤ Xi U18 904 8 ∧ Xi U18 904 8 ≤ 5010 := hHU18.c _ _
                  have w467 : Xi U19 904 93 = Xi S 904 93 := (show Xi U19 904 93 = Xi U18 904 93 from by rw [eU19]; exact Xi_ne (by omega)).trans ( (show Xi U18 904 93 = Xi U17 904 93 from by rw [eU18]; exact Xi_ne (by omega)).trans ( (show Xi U17 904 93 = Xi T16 904 93 from by rw [eU17]; exact Xi_ne (by omega)).trans ( (show Xi T16 904 93 = Xi T15 904 93 from w411.x _ _ rfl).trans ( (show Xi T15 904 93 = Xi U14 904 93 from w397.x _ _ rfl).trans ( (show Xi U14 904 93 = Xi U13 904 93 from by rw [eU14]; exact Xi_ne (by omega)).trans ((show Xi U13 904 93 = Xi S 904 93 from by rw [eU13]; exact Xi_ne (by omega))))))))
                  have w468 : 0 ≤ Xi S 904 93 ∧ Xi S 904 93 ≤ 1700 := hH.c _ _
                  have w469 : Xi U19 904 99 = Xi T15 904 99 := (show Xi U19 904 99 = Xi U18 904 99 from by rw [eU19]; exact Xi_ne (by omega)).trans ( (show Xi U18 904 99 = Xi U17 904 99 from by rw [eU18]; exact Xi_ne (by omega)).trans ( (show Xi U17 904 99 = Xi T16 904 99 from by rw [eU17]; exact Xi_ne (by omega)).trans ((show Xi T16 904 99 = Xi T15 904 99 from w411.x _ _ rfl))))
                  have w470 : 0 ≤ Xi T15 904 99 ∧ Xi T15 904 99 ≤ 2600 := hHT15.c _ _
                  refine l_callV rfl rfl rfl (t_mo_placing__2 hHU19 n c (by first | assumption | exact (TK_FR hFU19 rfl (by assumption : TK S _))) (by first | assumption | exact (AT_FR (FR_e eU19) rfl (by assumption : AT U18 _ _))) _) ?_
                  rintro _ T20 ⟨hHT20, w475, z474, rfl, w474, w471, w472, w473⟩
                  have hFT20 : FR md_mo_test S T20 := FR.tr hFU19 w475 rfl
                  show Rl _ _ _ _ _ [iv z474, iv (Xi S 904 93), .ref 958] _ _
                  refine l_iastore (n := 1700) rfl rfl (by omega) (by omega) (by unfold rg; omega) ?_
                  obtain ⟨U21, eU21⟩ : ∃ T : sS, T = uI T20 958 (((Xi S 904 93)).toNat) (Int32.ofInt z474) := ⟨_, rfl⟩
                  rw [← eU21]
                  have hHU21 : HI U21 := by rw [eU21]; exact HI_w hHT20 (show 0 ≤ z474 by omega) (show z474 ≤ 5 by omega)
                  have hFU21 : FR md_mo_test S U21 := by rw [eU21]; exact FR.wI hFT20 (mdf_i (r := (958, 959, 0, 100000)) (List.mem_of_getElem? (i := 17) rfl) (inR_i (by omega) (by omega) (by omega) (by omega)))
                  have w476 : Xi U21 958 (((Xi S 904 93)).toNat) = z474 := by rw [eU21]; exact Xi_same (by unfold rg; omega)
                  refine l_aload_n rfl rfl ?_
                  have w477 : Xi U21 904 100 = Xi T15 904 100 := (show Xi U21 904 100 = Xi T20 904 100 from by rw [eU21]; exact Xi_ne (by omega)).trans ( (show Xi T20 904 100 = Xi U19 904 100 from w475.x _ _ rfl).trans ( (show Xi U19 904 100 = Xi U18 904 100 from by rw [eU19]; exact Xi_ne (by omega)).trans ( (show Xi U18 904 100 = Xi U17 904 100 from by rw [eU18]; exact Xi_ne (by omega)).trans ( (show Xi U17 904 100 = Xi T16 904 100 from by rw [eU17]; exact Xi_ne (by omega)).trans ((show Xi T16 904 100 = Xi T15 904 100 from w411.x _ _ rfl))))))
                  have w478 : 0 ≤ Xi T15 904 100 ∧ Xi T15 904 100 ≤ 2 := hHT15.c _ _
                  have w479 : Xi U21 904 101 = Xi T15 904 101 := (show Xi U21 904 101 = Xi T20 904 101 from by rw [eU21]; exact Xi_ne (by omega)).trans ( (show Xi T20 904 101 = Xi U19 904 101 from w475.x _ _ rfl).trans ( (show Xi U19 904 101 = Xi U18 904 101 from by rw [eU19]; exact Xi_ne (by omega)).trans ( (show Xi U18 904 101 = Xi U17 904 101 from by rw [eU18]; exact Xi_ne (by omega)).trans ( (show Xi U17 904 101 = Xi T16 904 101 from by rw [eU17]; exact Xi_ne (by omega)).trans ((show Xi T16 904 101 = Xi T15 904 101 from w411.x _ _ rfl))))))
                  have w480 : 0 ≤ Xi T15 904 101 ∧ Xi T15 904 101 ≤ 5010 := hHT15.c _ _
                  have w481 : Xi U21 904 65 = Xi T20 904 65 := (show Xi U21 904 65 = Xi T20 904 65 from by rw [eU21]; exact Xi_ne (by omega))
                  have w482 : 0 ≤ Xi T20 904 65 ∧ Xi T20 904 65 ≤ 1 := hHT20.c _ _
                  have w483 : Xi U21 904 69 = Xi T15 904 69 := (show Xi U21 904 69 = Xi T20 904 69 from by rw [eU21]; exact Xi_ne (by omega)).trans ( (show Xi T20 904 69 = Xi U19 904 69 from w475.x _ _ rfl).trans ( (show Xi U19 904 69 = Xi U18 904 69 from by rw [eU19]; exact Xi_ne (by omega)).trans ( (show Xi U18 904 69 = Xi U17 904 69 from by rw [eU18]; exact Xi_ne (by omega)).trans ( (show Xi U17 904 69 = Xi T16 904 69 from by rw [eU17]; exact Xi_ne (by omega)).trans ((show Xi T16 904 69 = Xi T15 904 69 from w411.x _ _ rfl))))))
                  have w484 : 0 ≤ Xi T15 904 69 ∧ Xi T15 904 69 ≤ 2600 := hHT15.c _ _
                  have w485 : Xi U21 904 8 = Xi T20 904 8 := (show Xi U21 904 8 = Xi T20 904 8 from by rw [eU21]; exact Xi_ne (by omega))
                  have w486 : 0 ≤ Xi T20 904 8 ∧ Xi T20 904 8 ≤ 5010 := hHT20.c _ _
                  have w487 : Xi U21 904 93 = Xi S 904 93 := (show Xi U21 904 93 = Xi T20 904 93 from by rw [eU21]; exact Xi_ne (by omega)).trans ( (show Xi T20 904 93 = Xi U19 904 93 from w475.x _ _ rfl).trans ( (show Xi U19 904 93 = Xi U18 904 93 from by rw [eU19]; exact Xi_ne (by omega)).trans ( (show Xi U18 904 93 = Xi U17 904 93 from by rw [eU18]; exact Xi_ne (by omega)).trans ( (show Xi U17 904 93 = Xi T16 904 93 from by rw [eU17]; exact Xi_ne (by omega)).trans ( (show Xi T16 904 93 = Xi T15 904 93 from w411.x _ _ rfl).trans ( (show Xi T15 904 93 = Xi U14 904 93 from w397.x _ _ rfl).trans ( (show Xi U14 904 93 = Xi U13 904 93 from by rw [eU14]; exact Xi_ne (by omega)).trans ((show Xi U13 904 93 = Xi S 904 93 from by rw [eU13]; exact Xi_ne (by omega))))))))))
                  have w488 : 0 ≤ Xi S 904 93 ∧ Xi S 904 93 ≤ 1700 := hH.c _ _
                  have w489 : Xi U21 904 99 = Xi T15 904 99 := (show Xi U21 904 99 = Xi T20 904 99 from by rw [eU21]; exact Xi_ne (by omega)).trans ( (show Xi T20 904 99 = Xi U19 904 99 from w475.x _ _ rfl).trans ( (show Xi U19 904 99 = Xi U18 904 99 from by rw [eU19]; exact Xi_ne (by omega)).trans ( (show Xi U18 904 99 = Xi U17 904 99 from by rw [eU18]; exact Xi_ne (by omega)).trans ( (show Xi U17 904 99 = Xi T16 904 99 from by rw [eU17]; exact Xi_ne (by omega)).trans ((show Xi T16 904 99 = Xi T15 904 99 from w411.x _ _ rfl))))))
                  have w490 : 0 ≤ Xi T15 904 99 ∧ Xi T15 904 99 ≤ 2600 := hHT15.c _ _
                  refine l_callV rfl rfl rfl (t_mo_thing hHU21 n c (by first | assumption | exact (TK_FR hFU21 rfl (by assumption : TK S _))) (by first | assumption | exact (AT_FR (FR_e eU21) rfl (by assumption : AT T20 _ _))) (by first | assumption | exact (RNV_FR (FR_e eU21) rfl (RNV_FR w475 rfl (RNV_FR (FR_e eU19) rfl (RNV_FR (FR_e eU18) rfl (RNV_FR (FR_e eU17) rfl (RNV_FR w411 rfl (by assumption : RNV T15 _)))))))) _) ?_
                  rintro _ T22 ⟨hHT22, w497, rfl, w491, w492, w493, w494, w495, o313⟩
                  have hFT22 : FR md_mo_test S T22 := FR.tr hFU21 w497 rfl
                  show Rl _ _ _ _ _ [] _ _
                  refine l_aload_n rfl rfl ?_
                  refine l_gfr rfl rfl rfl rfl rfl (hHT22.r 904 89 959 rfl) ?_
                  refine l_aload_n rfl rfl ?_
                  refine l_gfi rfl rfl rfl rfl rfl ?_
                  have w498 : (Xi T22 904 93) = (Xi S 904 93) := (show Xi T22 904 93 = Xi U21 904 93 from w497.x _ _ rfl).trans ( (show Xi U21 904 93 = Xi T20 904 93 from by rw [eU21]; exact Xi_ne (by omega)).trans ( (show Xi T20 904 93 = Xi U19 904 93 from w475.x _ _ rfl).trans ( (show Xi U19 904 93 = Xi U18 904 93 from by rw [eU19]; exact Xi_ne (by omega)).trans ( (show Xi U18 904 93 = Xi U17 904 93 from by rw [eU18]; exact Xi_ne (by omega)).trans ( (show Xi U17 904 93 = Xi T16 904 93 from by rw [eU17]; exact Xi_ne (by omega)).trans ( (show Xi T16 904 93 = Xi T15 904 93 from w411.x _ _ rfl).trans ( (show Xi T15 904 93 = Xi U14 904 93 from w397.x _ _ rfl).trans ( (show Xi U14 904 93 = Xi U13 904 93 from by rw [eU14]; exact Xi_ne (by omega)).trans ((show Xi U13 904 93 = Xi S 904 93 from by rw [eU13]; exact Xi_ne (by omega)))))))))))
                  rw [w498]
                  refine l_aload_n rfl rfl ?_
                  refine l_gfi rfl rfl rfl rfl rfl ?_
                  have w499 : 0 ≤ (Xi T22 904 100) ∧ (Xi T22 904 100) ≤ 2 := hHT22.c _ _
                  refine l_sipush rfl rfl ?_
                  refine l_imul rfl ?_
                  refine l_aload_n rfl rfl ?_
                  refine l_gfi rfl rfl rfl rfl rfl ?_
                  have w500 : 0 ≤ (Xi T22 904 101) ∧ (Xi T22 904 101) ≤ 5010 := hHT22.c _ _
                  refine l_iadd rfl ?_
                  refine l_iastore (n := 1700) rfl rfl (by omega) (by omega) (by unfold rg; omega) ?_
                  obtain ⟨U23, eU23⟩ : ∃ T : sS, T = uI T22 959 (((Xi S 904 93)).toNat) (Int32.ofInt (((Xi T22 904 100) * 10000) + (Xi T22 904 101))) := ⟨_, rfl⟩
                  rw [← eU23]
                  have hHU23 : HI U23 := by rw [eU23]; exact HI_w hHT22 (show 0 ≤ (((Xi T22 904 100) * 10000) + (Xi T22 904 101)) by omega) (show (((Xi T22 904 100) * 10000) + (Xi T22 904 101)) ≤ 25010 by omega)
                  have hFU23 : FR md_mo_test S U23 := by rw [eU23]; exact FR.wI hFT22 (mdf_i (r := (959, 960, 0, 100000)) (List.mem_of_getElem? (i := 18) rfl) (inR_i (by omega) (by omega) (by omega) (by omega)))
                  have w501 : Xi U23 959 (((Xi S 904 93)).toNat) = (((Xi T22 904 100) * 10000) + (Xi T22 904 101)) := by rw [eU23]; exact Xi_same (by unfold rg; omega)
                  refine l_aload_n rfl rfl ?_
                  refine l_gfr rfl rfl rfl rfl rfl (hHU23.r 904 90 960 rfl) ?_
                  refine l_aload_n rfl rfl ?_
                  refine l_gfi rfl rfl rfl rfl rfl ?_
                  have w502 : (Xi U23 904 93) = (Xi S 904 93) := (show Xi U23 904 93 = Xi T22 904 93 from by rw [eU23]; exact Xi_ne (by omega)).trans ( (show Xi T22 904 93 = Xi U21 904 93 from w497.x _ _ rfl).trans ( (show Xi U21 904 93 = Xi T20 904 93 from by rw [eU21]; exact Xi_ne (by omega)).trans ( (show Xi T20 904 93 = Xi U19 904 93 from w475.x _ _ rfl).trans ( (show Xi U19 904 93 = Xi U18 904 93 from by rw [eU19]; exact Xi_ne (by omega)).trans ( (show Xi U18 904 93 = Xi U17 904 93 from by rw [eU18]; exact Xi_ne (by omega)).trans ( (show Xi U17 904 93 = Xi T16 904 93 from by rw [eU17]; exact Xi_ne (by omega)).trans ( (show Xi T16 904 93 = Xi T15 904 93 from w411.x _ _ rfl).trans ( (show Xi T15 904 93 = Xi U14 904 93 from w397.x _ _ rfl).trans ( (show Xi U14 904 93 = Xi U13 904 93 from by rw [eU14]; exact Xi_ne (by omega)).trans ((show Xi U13 904 93 = Xi S 904 93 from by rw [eU13]; exact Xi_ne (by omega))))))))))))
                  rw [w502]
                  refine l_aload_n rfl rfl ?_
                  have e346 : 904 = Xi T22 904 99 := by rw [eU23]; exact Xi_ne (by omega)
                  refine l_gfi rfl rfl rfl rfl rfl ?_
                  have w503 : 0 ≤ (Xi U23 904 99) ∧ (Xi U23 904 99) ≤ 2600 := hHU23.c _ _
                  refine l_iastore (n := 1700) rfl rfl (by omega) (by omega) (by unfold rg; omega) ?_
                  obtain ⟨U24, eU24⟩ : ∃ T : sS, T = uI U23 960 (((Xi S 904 93)).toNat) (Int32.ofInt (Xi U23 904 99)) := ⟨_, rfl⟩
                  rw [← eU24]
                  have hHU24 : HI U24 := by rw [eU24]; exact HI_w hHU23 (show -1 ≤ (Xi U23 904 99) by omega) (show (Xi U23 904 99) ≤ 2600 by omega)
                  have hFU24 : FR md_mo_test S U24 := by rw [eU24]; exact FR.wI hFU23 (mdf_i (r := (960, 961, 0, 100000)) (List.mem_of_getElem? (i := 19) rfl) (inR_i (by omega) (by omega) (by omega) (by omega)))
                  have w504 : Xi U24 960 (((Xi S 904 93)).toNat) = (Xi U23 904 99) := by rw [eU24]; exact Xi_same (by unfold rg; omega)
                  have w505 : Xi U24 952 (Xi S 904 93).toNat = Xi U19 952 (Xi S 904 93).toNat := (show Xi U24 952 (Xi S 904 93).toNat = Xi U23 952 (Xi S 904 93).toNat from by rw [eU24]; exact Xi_ne (by omega)).trans ( (show Xi U23 952 (Xi S 904 93).toNat = Xi T22 952 (Xi S 904 93).toNat from by rw [eU23]; exact Xi_ne (by omega)).trans ( (show Xi T22 952 (Xi S 904 93).toNat = Xi U21 952 (Xi S 904 93).toNat from (w497.cx 952 rfl _).1).trans ( (show Xi U21 952 (Xi S 904 93).toNat = Xi T20 952 (Xi S 904 93).toNat from by rw [eU21]; exact Xi_ne (by omega)).trans ((show Xi T20 952 (Xi S 904 93).toNat = Xi U19 952 (Xi S 904 93).toNat from (w475.cx 952 rfl _).1)))))
                  have w506 : Xi U24 954 (Xi S 904 93).toNat = Xi T15 954 (Xi S 904 93).toNat := (show Xi U24 954 (Xi S 904 93).toNat = Xi U23 954 (Xi S 904 93).toNat from by rw [eU24]; exact Xi_ne (by omega)).trans ( (show Xi U23 954 (Xi S 904 93).toNat = Xi T22 954 (Xi S 904 93).toNat from by rw [eU23]; exact Xi_ne (by omega)).trans ( (show Xi T22 954 (Xi S 904 93).toNat = Xi U21 954 (Xi S 904 93).toNat from (w497.cx 954 rfl _).1).trans ( (show Xi U21 954 (Xi S 904 93).toNat = Xi T20 954 (Xi S 904 93).toNat from by rw [eU21]; exact Xi_ne (by omega)).trans ( (show Xi T20 954 (Xi S 904 93).toNat = Xi U19 954 (Xi S 904 93).toNat from (w475.cx 954 rfl _).1).trans ( (show Xi U19 954 (Xi S 904 93).toNat = Xi U18 954 (Xi S 904 93).toNat from by rw [eU19]; exact Xi_ne (by omega)).trans ( (show Xi U18 954 (Xi S 904 93).toNat = Xi U17 954 (Xi S 904 93).toNat from by rw [eU18]; exact Xi_ne (by omega)).trans ( (show Xi U17 954 (Xi S 904 93).toNat = Xi T16 954 (Xi S 904 93).toNat from by rw [eU17]; exact Xi_ne (by omega)).trans ((show Xi T16 954 (Xi S 904 93).toNat = Xi T15 954 (Xi S 904 93).toNat from (w411.cx 954 rfl _).1)))))))))
                  have w507 : Xi U24 955 (Xi S 904 93).toNat = Xi T15 955 (Xi S 904 93).toNat := (show Xi U24 955 (Xi S 904 93).toNat = Xi U23 955 (Xi S 904 93).toNat from by rw [eU24]; exact Xi_ne (by omega)).trans ( (show Xi U23 955 (Xi S 904 93).toNat = Xi T22 955 (Xi S 904 93).toNat from by rw [eU23]; exact Xi_ne (by omega)).trans ( (show Xi T22 955 (Xi S 904 93).toNat = Xi U21 955 (Xi S 904 93).toNat from (w497.cx 955 rfl _).1).trans ( (show Xi U21 955 (Xi S 904 93).toNat = Xi T20 955 (Xi S 904 93).toNat from by rw [eU21]; exact Xi_ne (by omega)).trans ( (show Xi T20 955 (Xi S 904 93).toNat = Xi U19 955 (Xi S 904 93).toNat from (w475.cx 955 rfl _).1).trans ( (show Xi U19 955 (Xi S 904 93).toNat = Xi U18 955 (Xi S 904 93).toNat from by rw [eU19]; exact Xi_ne (by omega)).trans ( (show Xi U18 955 (Xi S 904 93).toNat = Xi U17 955 (Xi S 904 93).toNat from by rw [eU18]; exact Xi_ne (by omega)).trans ( (show Xi U17 955 (Xi S 904 93).toNat = Xi T16 955 (Xi S 904 93).toNat from by rw [eU17]; exact Xi_ne (by omega)).trans ((show Xi T16 955 (Xi S 904 93).toNat = Xi T15 955 (Xi S 904 93).toNat from (w411.cx 955 rfl _).1)))))))))
                  have w508 : Xi U24 956 (Xi S 904 93).toNat = Xi S 956 (Xi S 904 93).toNat := (show Xi U24 956 (Xi S 904 93).toNat = Xi U23 956 (Xi S 904 93).toNat from by rw [eU24]; exact Xi_ne (by omega)).trans ( (show Xi U23 956 (Xi S 904 93).toNat = Xi T22 956 (Xi S 904 93).toNat from by rw [eU23]; exact Xi_ne (by omega)).trans ( (show Xi T22 956 (Xi S 904 93).toNat = Xi U21 956 (Xi S 904 93).toNat from (w497.cx 956 rfl _).1).trans ( (show Xi U21 956 (Xi S 904 93).toNat = Xi T20 956 (Xi S 904 93).toNat from by rw [eU21]; exact Xi_ne (by omega)).trans ( (show Xi T20 956 (Xi S 904 93).toNat = Xi U19 956 (Xi S 904 93).toNat from (w475.cx 956 rfl _).1).trans ( (show Xi U19 956 (Xi S 904 93).toNat = Xi U18 956 (Xi S 904 93).toNat from by rw [eU19]; exact Xi_ne (by omega)).trans ( (show Xi U18 956 (Xi S 904 93).toNat = Xi U17 956 (Xi S 904 93).toNat from by rw [eU18]; exact Xi_ne (by omega)).trans ( (show Xi U17 956 (Xi S 904 93).toNat = Xi T16 956 (Xi S 904 93).toNat from by rw [eU17]; exact Xi_ne (by omega)).trans ( (show Xi T16 956 (Xi S 904 93).toNat = Xi T15 956 (Xi S 904 93).toNat from (w411.cx 956 rfl _).1).trans ( (show Xi T15 956 (Xi S 904 93).toNat = Xi U14 956 (Xi S 904 93).toNat from (w397.cx 956 rfl _).1).trans ( (show Xi U14 956 (Xi S 904 93).toNat = Xi U13 956 (Xi S 904 93).toNat from by rw [eU14]; exact Xi_ne (by omega)).trans ((show Xi U13 956 (Xi S 904 93).toNat = Xi S 956 (Xi S 904 93).toNat from by rw [eU13]; exact Xi_ne (by omega)))))))))))))
                  have w509 : Xi U24 959 (Xi S 904 93).toNat = Xi U23 959 (Xi S 904 93).toNat := (show Xi U24 959 (Xi S 904 93).toNat = Xi U23 959 (Xi S 904 93).toNat from by rw [eU24]; exact Xi_ne (by omega))
                  have w510 : Xi U24 961 (Xi S 904 93).toNat = Xi U13 961 (Xi S 904 93).toNat := (show Xi U24 961 (Xi S 904 93).toNat = Xi U23 961 (Xi S 904 93).toNat from by rw [eU24]; exact Xi_ne (by omega)).trans ( (show Xi U23 961 (Xi S 904 93).toNat = Xi T22 961 (Xi S 904 93).toNat from by rw [eU23]; exact Xi_ne (by omega)).trans ( (show Xi T22 961 (Xi S 904 93).toNat = Xi U21 961 (Xi S 904 93).toNat from (w497.cx 961 rfl _).1).trans ( (show Xi U21 961 (Xi S 904 93).toNat = Xi T20 961 (Xi S 904 93).toNat from by rw [eU21]; exact Xi_ne (by omega)).trans ( (show Xi T20 961 (Xi S 904 93).toNat = Xi U19 961 (Xi S 904 93).toNat from (w475.cx 961 rfl _).1).trans ( (show Xi U19 961 (Xi S 904 93).toNat = Xi U18 961 (Xi S 904 93).toNat from by rw [eU19]; exact Xi_ne (by omega)).trans ( (show Xi U18 961 (Xi S 904 93).toNat = Xi U17 961 (Xi S 904 93).toNat from by rw [eU18]; exact Xi_ne (by omega)).trans ( (show Xi U17 961 (Xi S 904 93).toNat = Xi T16 961 (Xi S 904 93).toNat from by rw [eU17]; exact Xi_ne (by omega)).trans ( (show Xi T16 961 (Xi S 904 93).toNat = Xi T15 961 (Xi S 904 93).toNat from (w411.cx 961 rfl _).1).trans ( (show Xi T15 961 (Xi S 904 93).toNat = Xi U14 961 (Xi S 904 93).toNat from (w397.cx 961 rfl _).1).trans ((show Xi U14 961 (Xi S 904 93).toNat = Xi U13 961 (Xi S 904 93).toNat from by rw [eU14]; exact Xi_ne (by omega))))))))))))
                  have w511 : Xi U24 962 (Xi S 904 93).toNat = Xi S 962 (Xi S 904 93).toNat := (show Xi U24 962 (Xi S 904 93).toNat = Xi U23 962 (Xi S 904 93).toNat from by rw [eU24]; exact Xi_ne (by omega)).trans ( (show Xi U23 962 (Xi S 904 93).toNat = Xi T22 962 (Xi S 904 93).toNat from by rw [eU23]; exact Xi_ne (by omega)).trans ( (show Xi T22 962 (Xi S 904 93).toNat = Xi U21 962 (Xi S 904 93).toNat from (w497.cx 962 rfl _).1).trans ( (show Xi U21 962 (Xi S 904 93).toNat = Xi T20 962 (Xi S 904 93).toNat from by rw [eU21]; exact Xi_ne (by omega)).trans ( (show Xi T20 962 (Xi S 904 93).toNat = Xi U19 962 (Xi S 904 93).toNat from (w475.cx 962 rfl _).1).trans ( (show Xi U19 962 (Xi S 904 93).toNat = Xi U18 962 (Xi S 904 93).toNat from by rw [eU19]; exact Xi_ne (by omega)).trans ( (show Xi U18 962 (Xi S 904 93).toNat = Xi U17 962 (Xi S 904 93).toNat from by rw [eU18]; exact Xi_ne (by omega)).trans ( (show Xi U17 962 (Xi S 904 93).toNat = Xi T16 962 (Xi S 904 93).toNat from by rw [eU17]; exact Xi_ne (by omega)).trans ( (show Xi T16 962 (Xi S 904 93).toNat = Xi T15 962 (Xi S 904 93).toNat from (w411.cx 962 rfl _).1).trans ( (show Xi T15 962 (Xi S 904 93).toNat = Xi U14 962 (Xi S 904 93).toNat from (w397.cx 962 rfl _).1).trans ( (show Xi U14 962 (Xi S 904 93).toNat = Xi U13 962 (Xi S 904 93).toNat from by rw [eU14]; exact Xi_ne (by omega)).trans ((show Xi U13 962 (Xi S 904 93).toNat = Xi S 962 (Xi S 904 93).toNat from by rw [eU13]; exact Xi_ne (by omega)))))))))))))
                  have w512 : Xi U24 904 100 = Xi T22 904 100 := (show Xi U24 904 100 = Xi U23 904 100 from by rw [eU24]; exact Xi_ne (by omega)).trans ((show Xi U23 904 100 = Xi T22 904 100 from by rw [eU23]; exact Xi_ne (by omega)))
                  have w513 : 0 ≤ Xi T22 904 100 ∧ Xi T22 904 100 ≤ 2 := hHT22.c _ _
                  have w514 : Xi U24 904 101 = Xi T22 904 101 := (show Xi U24 904 101 = Xi U23 904 101 from by rw [eU24]; exact Xi_ne (by omega)).trans ((show Xi U23 904 101 = Xi T22 904 101 from by rw [eU23]; exact Xi_ne (by omega)))
                  have w515 : 0 ≤ Xi T22 904 101 ∧ Xi T22 904 101 ≤ 5010 := hHT22.c _ _
                  have w516 : Xi U24 904 65 = Xi T22 904 65 := (show Xi U24 904 65 = Xi U23 904 65 from by rw [eU24]; exact Xi_ne (by omega)).trans ((show Xi U23 904 65 = Xi T22 904 65 from by rw [eU23]; exact Xi_ne (by omega)))
                  have w517 : 0 ≤ Xi T22 904 65 ∧ Xi T22 904 65 ≤ 1 := hHT22.c _ _
                  have w518 : Xi U24 904 69 = Xi T22 904 69 := (show Xi U24 904 69 = Xi U23 904 69 from by rw [eU24]; exact Xi_ne (by omega)).trans ((show Xi U23 904 69 = Xi T22 904 69 from by rw [eU23]; exact Xi_ne (by omega)))
                  have w519 : 0 ≤ Xi T22 904 69 ∧ Xi T22 904 69 ≤ 2600 := hHT22.c _ _
                  have w520 : Xi U24 904 8 = Xi T22 904 8 := (show Xi U24 904 8 = Xi U23 904 8 from by rw [eU24]; exact Xi_ne (by omega)).trans ((show Xi U23 904 8 = Xi T22 904 8 from by rw [eU23]; exact Xi_ne (by omega)))
                  have w521 : 0 ≤ Xi T22 904 8 ∧ Xi T22 904 8 ≤ 5010 := hHT22.c _ _
                  have w522 : Xi U24 904 93 = Xi S 904 93 := (show Xi U24 904 93 = Xi U23 904 93 from by rw [eU24]; exact Xi_ne (by omega)).trans ( (show Xi U23 904 93 = Xi T22 904 93 from by rw [eU23]; exact Xi_ne (by omega)).trans ( (show Xi T22 904 93 = Xi U21 904 93 from w497.x _ _ rfl).trans ( (show Xi U21 904 93 = Xi T20 904 93 from by rw [eU21]; exact Xi_ne (by omega)).trans ( (show Xi T20 904 93 = Xi U19 904 93 from w475.x _ _ rfl).trans ( (show Xi U19 904 93 = Xi U18 904 93 from by rw [eU19]; exact Xi_ne (by omega)).trans ( (show Xi U18 904 93 = Xi U17 904 93 from by rw [eU18]; exact Xi_ne (by omega)).trans ( (show Xi U17 904 93 = Xi T16 904 93 from by rw [eU17]; exact Xi_ne (by omega)).trans ( (show Xi T16 904 93 = Xi T15 904 93 from w411.x _ _ rfl).trans ( (show Xi T15 904 93 = Xi U14 904 93 from w397.x _ _ rfl).trans ( (show Xi U14 904 93 = Xi U13 904 93 from by rw [eU14]; exact Xi_ne (by omega)).trans ((show Xi U13 904 93 = Xi S 904 93 from by rw [eU13]; exact Xi_ne (by omega)))))))))))))
                  have w523 : 0 ≤ Xi S 904 93 ∧ Xi S 904 93 ≤ 1700 := hH.c _ _
                  have w524 : Xi U24 904 99 = Xi T22 904 99 := (show Xi U24 904 99 = Xi U23 904 99 from by rw [eU24]; exact Xi_ne (by omega)).trans ((show Xi U23 904 99 = Xi T22 904 99 from by rw [eU23]; exact Xi_ne (by omega)))
                  have w525 : 0 ≤ Xi T22 904 99 ∧ Xi T22 904 99 ≤ 2600 := hHT22.c _ _
                  exact Rl_weak (C351 U24 hHU24 hFU24  (by first | assumption | exact (AT_FR (FR_e eU24) rfl (AT_FR (FR_e eU23) rfl (by assumption : AT T22 _ _)))) (by first | assumption | exact (RNV_FR (FR_e eU24) rfl (RNV_FR (FR_e eU23) rfl (by assumption : RNV T22 _)))) (by omega) (by omega) (by omega) (by omega) (by omega) (by omega) ((KT.w (KT.w (KT_FR w497 rfl (KT.w (KT_FR w475 rfl (KT.w (KT_FR (FR_e eU18) rfl (KT.w (KT_FR w411 rfl (KT.tr (KT.w (KT.w KT.rf eU13 (by omega)) eU14 (by omega)) (by assumption : KT T15 U14 _) (by omega))) eU17 (by omega))) eU19 (by omega))) eU21 (by omega))) eU23 (by omega)) eU24 (by omega))) (by first | exact (fun _ q => tvx_2 (w187 q).1 (thv_c (h176 (by omega)) (by omega) (by omega) (by omega)) (by have t := p172 (by omega); omega) (w187 q).2.1 (W187 q)) w187 | exact (fun _ q => tvx_3 (by omega) (thv_c (h194 (by omega)) (by omega) (by omega) (by omega)) (by omega)) r271 | exact (fun _ q => tvx_4 (by omega) (thv_c (h194 (by omega)) (by omega) (by omega) (by omega)) (thv_i (s := Xi U24 904 100) (t := Xi U24 904 101) (r := Xi U24 904 99) (by omega) (by omega) (by omega) (by omega) (by omega) (by omega) (by omega))) o313 | exact (fun _ q => tvx_5 (by omega)) A96 | exact fun q => absurd q (by omega))) (And.intro rfl (And.intro rfl (True.intro)))
                · refine l_aload_n rfl rfl ?_
                  have w526 : Xi U18 904 100 = Xi T15 904 100 := (show Xi U18 904 100 = Xi U17 904 100 from by rw [eU18]; exact Xi_ne (by omega)).trans ( (show Xi U17 904 100 = Xi T16 904 100 from by rw [eU17]; exact Xi_ne (by omega)).trans ((show Xi T16 904 100 = Xi T15 904 100 from w411.x _ _ rfl)))
                  have w527 : 0 ≤ Xi T15 904 100 ∧ Xi T15 904 100 ≤ 2 := hHT15.c _ _
                  have w528 : Xi U18 904 101 = Xi T15 904 101 := (show Xi U18 904 101 = Xi U17 904 101 from by rw [eU18]; exact Xi_ne (by omega)).trans ( (show Xi U17 904 101 = Xi T16 904 101 from by rw [eU17]; exact Xi_ne (by omega)).trans ((show Xi T16 904 101 = Xi T15 904 101 from w411.x _ _ rfl)))
                  have w529 : 0 ≤ Xi T15 904 101 ∧ Xi T15 904 101 ≤ 5010 := hHT15.c _ _
                  have w530 : Xi U18 904 65 = Xi T16 904 65 := (show Xi U18 904 65 = Xi U17 904 65 from by rw [eU18]; exact Xi_ne (by omega)).trans ((show Xi U17 904 65 = Xi T16 904 65 from by rw [eU17]; exact Xi_ne (by omega)))
                  have w531 : 0 ≤ Xi T16 904 65 ∧ Xi T16 904 65 ≤ 1 := hHT16.c _ _
                  have w532 : Xi U18 904 69 = Xi T15 904 69 := (show Xi U18 904 69 = Xi U17 904 69 from by rw [eU18]; exact Xi_ne (by omega)).trans ( (show Xi U17 904 69 = Xi T16 904 69 from by rw [eU17]; exact Xi_ne (by omega)).trans ((show Xi T16 904 69 = Xi T15 904 69 from w411.x _ _ rfl)))
                  have w533 : 0 ≤ Xi T15 904 69 ∧ Xi T15 904 69 ≤ 2600 := hHT15.c _ _
                  have w534 : 0 ≤ Xi U18 904 8 ∧ Xi U18 904 8 ≤ 5010 := hHU18.c _ _
                  have w535 : Xi U18 904 93 = Xi S 904 93 := (show Xi U18 904 93 = Xi U17 904 93 from by rw [eU18]; exact Xi_ne (by omega)).trans ( (show Xi U17 904 93 = Xi T16 904 93 from by rw [eU17]; exact Xi_ne (by omega)).trans ( (show Xi T16 904 93 = Xi T15 904 93 from w411.x _ _ rfl).trans ( (show Xi T15 904 93 = Xi U14 904 93 from w397.x _ _ rfl).trans ( (show Xi U14 904 93 = Xi U13 904 93 from by rw [eU14]; exact Xi_ne (by omega)).trans ((show Xi U13 904 93 = Xi S 904 93 from by rw [eU13]; exact Xi_ne (by omega)))))))
                  have w536 : 0 ≤ Xi S 904 93 ∧ Xi S 904 93 ≤ 1700 := hH.c _ _
                  have w537 : Xi U18 904 99 = Xi T15 904 99 := (show Xi U18 904 99 = Xi U17 904 99 from by rw [eU18]; exact Xi_ne (by omega)).trans ( (show Xi U17 904 99 = Xi T16 904 99 from by rw [eU17]; exact Xi_ne (by omega)).trans ((show Xi T16 904 99 = Xi T15 904 99 from w411.x _ _ rfl)))
                  have w538 : 0 ≤ Xi T15 904 99 ∧ Xi T15 904 99 ≤ 2600 := hHT15.c _ _
                  refine l_callV rfl rfl rfl (t_mo_odd hHU18 _) ?_
                  rintro _ T25 ⟨hHT25, w542, rfl, w539, w540⟩
                  have hFT25 : FR md_mo_test S T25 := FR.tr hFU18 w542 rfl
                  show Rl _ _ _ _ _ [] _ _
                  refine l_goto rfl rfl ?_
                  have w543 : Xi T25 952 (Xi S 904 93).toNat = Xi S 952 (Xi S 904 93).toNat := (show Xi T25 952 (Xi S 904 93).toNat = Xi U18 952 (Xi S 904 93).toNat from (w542.cx 952 rfl _).1).trans ( (show Xi U18 952 (Xi S 904 93).toNat = Xi U17 952 (Xi S 904 93).toNat from by rw [eU18]; exact Xi_ne (by omega)).trans ( (show Xi U17 952 (Xi S 904 93).toNat = Xi T16 952 (Xi S 904 93).toNat from by rw [eU17]; exact Xi_ne (by omega)).trans ( (show Xi T16 952 (Xi S 904 93).toNat = Xi T15 952 (Xi S 904 93).toNat from (w411.cx 952 rfl _).1).trans ( (show Xi T15 952 (Xi S 904 93).toNat = Xi U14 952 (Xi S 904 93).toNat from (w397.cx 952 rfl _).1).trans ( (show Xi U14 952 (Xi S 904 93).toNat = Xi U13 952 (Xi S 904 93).toNat from by rw [eU14]; exact Xi_ne (by omega)).trans ((show Xi U13 952 (Xi S 904 93).toNat = Xi S 952 (Xi S 904 93).toNat from by rw [eU13]; exact Xi_ne (by omega))))))))
                  have w544 : Xi T25 954 (Xi S 904 93).toNat = Xi T15 954 (Xi S 904 93).toNat := (show Xi T25 954 (Xi S 904 93).toNat = Xi U18 954 (Xi S 904 93).toNat from (w542.cx 954 rfl _).1).trans ( (show Xi U18 954 (Xi S 904 93).toNat = Xi U17 954 (Xi S 904 93).toNat from by rw [eU18]; exact Xi_ne (by omega)).trans ( (show Xi U17 954 (Xi S 904 93).toNat = Xi T16 954 (Xi S 904 93).toNat from by rw [eU17]; exact Xi_ne (by omega)).trans ((show Xi T16 954 (Xi S 904 93).toNat = Xi T15 954 (Xi S 904 93).toNat from (w411.cx 954 rfl _).1))))
                  have w545 : Xi T25 955 (Xi S 904 93).toNat = Xi T15 955 (Xi S 904 93).toNat := (show Xi T25 955 (Xi S 904 93).toNat = Xi U18 955 (Xi S 904 93).toNat from (w542.cx 955 rfl _).1).trans ( (show Xi U18 955 (Xi S 904 93).toNat = Xi U17 955 (Xi S 904 93).toNat from by rw [eU18]; exact Xi_ne (by omega)).trans ( (show Xi U17 955 (Xi S 904 93).toNat = Xi T16 955 (Xi S 904 93).toNat from by rw [eU17]; exact Xi_ne (by omega)).trans ((show Xi T16 955 (Xi S 904 93).toNat = Xi T15 955 (Xi S 904 93).toNat from (w411.cx 955 rfl _).1))))
                  have w546 : Xi T25 956 (Xi S 904 93).toNat = Xi S 956 (Xi S 904 93).toNat := (show Xi T25 956 (Xi S 904 93).toNat = Xi U18 956 (Xi S 904 93).toNat from (w542.cx 956 rfl _).1).trans ( (show Xi U18 956 (Xi S 904 93).toNat = Xi U17 956 (Xi S 904 93).toNat from by rw [eU18]; exact Xi_ne (by omega)).trans ( (show Xi U17 956 (Xi S 904 93).toNat = Xi T16 956 (Xi S 904 93).toNat from by rw [eU17]; exact Xi_ne (by omega)).trans ( (show Xi T16 956 (Xi S 904 93).toNat = Xi T15 956 (Xi S 904 93).toNat from (w411.cx 956 rfl _).1).trans ( (show Xi T15 956 (Xi S 904 93).toNat = Xi U14 956 (Xi S 904 93).toNat from (w397.cx 956 rfl _).1).trans ( (show Xi U14 956 (Xi S 904 93).toNat = Xi U13 956 (Xi S 904 93).toNat from by rw [eU14]; exact Xi_ne (by omega)).trans ((show Xi U13 956 (Xi S 904 93).toNat = Xi S 956 (Xi S 904 93).toNat from by rw [eU13]; exact Xi_ne (by omega))))))))
                  have w547 : Xi T25 959 (Xi S 904 93).toNat = Xi S 959 (Xi S 904 93).toNat := (show Xi T25 959 (Xi S 904 93).toNat = Xi U18 959 (Xi S 904 93).toNat from (w542.cx 959 rfl _).1).trans ( (show Xi U18 959 (Xi S 904 93).toNat = Xi U17 959 (Xi S 904 93).toNat from by rw [eU18]; exact Xi_ne (by omega)).trans ( (show Xi U17 959 (Xi S 904 93).toNat = Xi T16 959 (Xi S 904 93).toNat from by rw [eU17]; exact Xi_ne (by omega)).trans ( (show Xi T16 959 (Xi S 904 93).toNat = Xi T15 959 (Xi S 904 93).toNat from (w411.cx 959 rfl _).1).trans ( (show Xi T15 959 (Xi S 904 93).toNat = Xi U14 959 (Xi S 904 93).toNat from (w397.cx 959 rfl _).1).trans ( (show Xi U14 959 (Xi S 904 93).toNat = Xi U13 959 (Xi S 904 93).toNat from by rw [eU14]; exact Xi_ne (by omega)).trans ((show Xi U13 959 (Xi S 904 93).toNat = Xi S 959 (Xi S 904 93).toNat from by rw [eU13]; exact Xi_ne (by omega))))))))
                  have w548 : Xi T25 961 (Xi S 904 93).toNat = Xi U13 961 (Xi S 904 93).toNat := (show Xi T25 961 (Xi S 904 93).toNat = Xi U18 961 (Xi S 904 93).toNat from (w542.cx 961 rfl _).1).trans ( (show Xi U18 961 (Xi S 904 93).toNat = Xi U17 961 (Xi S 904 93).toNat from by rw [eU18]; exact Xi_ne (by omega)).trans ( (show Xi U17 961 (Xi S 904 93).toNat = Xi T16 961 (Xi S 904 93).toNat from by rw [eU17]; exact Xi_ne (by omega)).trans ( (show Xi T16 961 (Xi S 904 93).toNat = Xi T15 961 (Xi S 904 93).toNat from (w411.cx 961 rfl _).1).trans ( (show Xi T15 961 (Xi S 904 93).toNat = Xi U14 961 (Xi S 904 93).toNat from (w397.cx 961 rfl _).1).trans ((show Xi U14 961 (Xi S 904 93).toNat = Xi U13 961 (Xi S 904 93).toNat from by rw [eU14]; exact Xi_ne (by omega)))))))
                  have w549 : Xi T25 962 (Xi S 904 93).toNat = Xi S 962 (Xi S 904 93).toNat := (show Xi T25 962 (Xi S 904 93).toNat = Xi U18 962 (Xi S 904 93).toNat from (w542.cx 962 rfl _).1).trans ( (show Xi U18 962 (Xi S 904 93).toNat = Xi U17 962 (Xi S 904 93).toNat from by rw [eU18]; exact Xi_ne (by omega)).trans ( (show Xi U17 962 (Xi S 904 93).toNat = Xi T16 962 (Xi S 904 93).toNat from by rw [eU17]; exact Xi_ne (by omega)).trans ( (show Xi T16 962 (Xi S 904 93).toNat = Xi T15 962 (Xi S 904 93).toNat from (w411.cx 962 rfl _).1).trans ( (show Xi T15 962 (Xi S 904 93).toNat = Xi U14 962 (Xi S 904 93).toNat from (w397.cx 962 rfl _).1).trans ( (show Xi U14 962 (Xi S 904 93).toNat = Xi U13 962 (Xi S 904 93).toNat from by rw [eU14]; exact Xi_ne (by omega)).trans ((show Xi U13 962 (Xi S 904 93).toNat = Xi S 962 (Xi S 904 93).toNat from by rw [eU13]; exact Xi_ne (by omega))))))))
                  have w550 : Xi T25 904 100 = Xi T15 904 100 := (show Xi T25 904 100 = Xi U18 904 100 from w542.x _ _ rfl).trans ( (show Xi U18 904 100 = Xi U17 904 100 from by rw [eU18]; exact Xi_ne (by omega)).trans ( (show Xi U17 904 100 = Xi T16 904 100 from by rw [eU17]; exact Xi_ne (by omega)).trans ((show Xi T16 904 100 = Xi T15 904 100 from w411.x _ _ rfl))))
                  have w551 : 0 ≤ Xi T15 904 100 ∧ Xi T15 904 100 ≤ 2 := hHT15.c _ _
                  have w552 : Xi T25 904 101 = Xi T15 904 101 := (show Xi T25 904 101 = Xi U18 904 101 from w542.x _ _ rfl).trans ( (show Xi U18 904 101 = Xi U17 904 101 from by rw [eU18]; exact Xi_ne (by omega)).trans ( (show Xi U17 904 101 = Xi T16 904 101 from by rw [eU17]; exact Xi_ne (by omega)).trans ((show Xi T16 904 101 = Xi T15 904 101 from w411.x _ _ rfl))))
                  have w553 : 0 ≤ Xi T15 904 101 ∧ Xi T15 904 101 ≤ 5010 := hHT15.c _ _
                  have w554 : 0 ≤ Xi T25 904 65 ∧ Xi T25 904 65 ≤ 1 := hHT25.c _ _
                  have w555 : Xi T25 904 69 = Xi T15 904 69 := (show Xi T25 904 69 = Xi U18 904 69 from w542.x _ _ rfl).trans ( (show Xi U18 904 69 = Xi U17 904 69 from by rw [eU18]; exact Xi_ne (by omega)).trans ( (show Xi U17 904 69 = Xi T16 904 69 from by rw [eU17]; exact Xi_ne (by omega)).trans ((show Xi T16 904 69 = Xi T15 904 69 from w411.x _ _ rfl))))
                  have w556 : 0 ≤ Xi T15 904 69 ∧ Xi T15 904 69 ≤ 2600 := hHT15.c _ _
                  have w557 : Xi T25 904 8 = Xi U18 904 8 := (show Xi T25 904 8 = Xi U18 904 8 from w542.x _ _ rfl)
                  have w558 : 0 ≤ Xi U18 904 8 ∧ Xi U18 904 8 ≤ 5010 := hHU18.c _ _
                  have w559 : Xi T25 904 93 = Xi S 904 93 := (show Xi T25 904 93 = Xi U18 904 93 from w542.x _ _ rfl).trans ( (show Xi U18 904 93 = Xi U17 904 93 from by rw [eU18]; exact Xi_ne (by omega)).trans ( (show Xi U17 904 93 = Xi T16 904 93 from by rw [eU17]; exact Xi_ne (by omega)).trans ( (show Xi T16 904 93 = Xi T15 904 93 from w411.x _ _ rfl).trans ( (show Xi T15 904 93 = Xi U14 904 93 from w397.x _ _ rfl).trans ( (show Xi U14 904 93 = Xi U13 904 93 from by rw [eU14]; exact Xi_ne (by omega)).trans ((show Xi U13 904 93 = Xi S 904 93 from by rw [eU13]; exact Xi_ne (by omega))))))))
                  have w560 : 0 ≤ Xi S 904 93 ∧ Xi S 904 93 ≤ 1700 := hH.c _ _
                  have w561 : Xi T25 904 99 = Xi T15 904 99 := (show Xi T25 904 99 = Xi U18 904 99 from w542.x _ _ rfl).trans ( (show Xi U18 904 99 = Xi U17 904 99 from by rw [eU18]; exact Xi_ne (by omega)).trans ( (show Xi U17 904 99 = Xi T16 904 99 from by rw [eU17]; exact Xi_ne (by omega)).trans ((show Xi T16 904 99 = Xi T15 904 99 from w411.x _ _ rfl))))
                  have w562 : 0 ≤ Xi T15 904 99 ∧ Xi T15 904 99 ≤ 2600 := hHT15.c _ _
                  exact Rl_weak (C351 T25 hHT25 hFT25  (by first | assumption | exact (by assumption : AT T25 _ _)) (by first | assumption | exact (RNV_FR w542 rfl (RNV_FR (FR_e eU18) rfl (RNV_FR (FR_e eU17) rfl (RNV_FR w411 rfl (by assumption : RNV T15 _)))))) (by omega) (by omega) (by omega) (by omega) (by omega) (by omega) ((KT_FR w542 rfl (KT_FR (FR_e eU18) rfl (KT.w (KT_FR w411 rfl (KT.tr (KT.w (KT.w KT.rf eU13 (by omega)) eU14 (by omega)) (by assumption : KT T15 U14 _) (by omega))) eU17 (by omega))))) (by first | exact (fun _ q => tvx_2 (w187 q).1 (thv_c (h176 (by omega)) (by omega) (by omega) (by omega)) (by have t := p172 (by omega); omega) (w187 q).2.1 (W187 q)) w187 | exact (fun _ q => tvx_3 (by omega) (thv_c (h194 (by omega)) (by omega) (by omega) (by omega)) (by omega)) r271 | exact (fun _ q => tvx_4 (by omega) (thv_c (h194 (by omega)) (by omega) (by omega) (by omega)) (thv_i (s := Xi T25 904 100) (t := Xi T25 904 101) (r := Xi T25 904 99) (by omega) (by omega) (by omega) (by omega) (by omega) (by omega) (by omega))) o313 | exact (fun _ q => tvx_5 (by omega)) A96 | exact fun q => absurd q (by omega))) (And.intro rfl (And.intro rfl (True.intro)))
              · refine l_aload_n rfl rfl ?_
                refine l_gfr rfl rfl rfl rfl rfl (hHU18.r 904 82 952 rfl) ?_
                refine l_aload_n rfl rfl ?_
                refine l_gfi rfl rfl rfl rfl rfl ?_
                have w563 : (Xi U18 904 93) = (Xi S 904 93) := (show Xi U18 904 93 = Xi U17 904 93 from by rw [eU18]; exact Xi_ne (by omega)).trans ( (show Xi U17 904 93 = Xi T16 904 93 from by rw [eU17]; exact Xi_ne (by omega)).trans ( (show Xi T16 904 93 = Xi T15 904 93 from w411.x _ _ rfl).trans ( (show Xi T15 904 93 = Xi U14 904 93 from w397.x _ _ rfl).trans ( (show Xi U14 904 93 = Xi U13 904 93 from by rw [eU14]; exact Xi_ne (by omega)).trans ((show Xi U13 904 93 = Xi S 904 93 from by rw [eU13]; exact Xi_ne (by omega)))))))
                rw [w563]
                refine l_iconst rfl ?_
                refine l_iastore (n := 1700) rfl rfl (by omega) (by omega) (by unfold rg; omega) ?_
                obtain ⟨U26, eU26⟩ : ∃ T : sS, T = uI U18 952 (((Xi S 904 93)).toNat) (Int32.ofInt 3) := ⟨_, rfl⟩
                rw [← eU26]
                have hHU26 : HI U26 := by rw [eU26]; exact HI_w hHU18 (show 0 ≤ 3 by omega) (show 3 ≤ 5 by omega)
                have hFU26 : FR md_mo_test S U26 := by rw [eU26]; exact FR.wI hFU18 (mdf_i (r := (952, 953, 0, 100000)) (List.mem_of_getElem? (i := 11) rfl) (inR_i (by omega) (by omega) (by omega) (by omega)))
                have w564 : Xi U26 952 (((Xi S 904 93)).toNat) = 3 := by rw [eU26]; exact Xi_same (by unfold rg; omega)
                refine l_aload_n rfl rfl ?_
                refine l_gfr rfl rfl rfl rfl rfl (hHU26.r 904 86 956 rfl) ?_
                refine l_aload_n rfl rfl ?_
                refine l_gfi rfl rfl rfl rfl rfl ?_
                have w565 : (Xi U26 904 93) = (Xi S 904 93) := (show Xi U26 904 93 = Xi U18 904 93 from by rw [eU26]; exact Xi_ne (by omega)).trans ( (show Xi U18 904 93 = Xi U17 904 93 from by rw [eU18]; exact Xi_ne (by omega)).trans ( (show Xi U17 904 93 = Xi T16 904 93 from by rw [eU17]; exact Xi_ne (by omega)).trans ( (show Xi T16 904 93 = Xi T15 904 93 from w411.x _ _ rfl).trans ( (show Xi T15 904 93 = Xi U14 904 93 from w397.x _ _ rfl).trans ( (show Xi U14 904 93 = Xi U13 904 93 from by rw [eU14]; exact Xi_ne (by omega)).trans ((show Xi U13 904 93 = Xi S 904 93 from by rw [eU13]; exact Xi_ne (by omega))))))))
                rw [w565]
                refine l_aload_n rfl rfl ?_
                have w566 : Xi U26 904 100 = Xi T15 904 100 := (show Xi U26 904 100 = Xi U18 904 100 from by rw [eU26]; exact Xi_ne (by omega)).trans ( (show Xi U18 904 100 = Xi U17 904 100 from by rw [eU18]; exact Xi_ne (by omega)).trans ( (show Xi U17 904 100 = Xi T16 904 100 from by rw [eU17]; exact Xi_ne (by omega)).trans ((show Xi T16 904 100 = Xi T15 904 100 from w411.x _ _ rfl))))
                have w567 : 0 ≤ Xi T15 904 100 ∧ Xi T15 904 100 ≤ 2 := hHT15.c _ _
                have w568 : Xi U26 904 101 = Xi T15 904 101 := (show Xi U26 904 101 = Xi U18 904 101 from by rw [eU26]; exact Xi_ne (by omega)).trans ( (show Xi U18 904 101 = Xi U17 904 101 from by rw [eU18]; exact Xi_ne (by omega)).trans ( (show Xi U17 904 101 = Xi T16 904 101 from by rw [eU17]; exact Xi_ne (by omega)).trans ((show Xi T16 904 101 = Xi T15 904 101 from w411.x _ _ rfl))))
                have w569 : 0 ≤ Xi T15 904 101 ∧ Xi T15 904 101 ≤ 5010 := hHT15.c _ _
                have w570 : Xi U26 904 65 = Xi T16 904 65 := (show Xi U26 904 65 = Xi U18 904 65 from by rw [eU26]; exact Xi_ne (by omega)).trans ( (show Xi U18 904 65 = Xi U17 904 65 from by rw [eU18]; exact Xi_ne (by omega)).trans ((show Xi U17 904 65 = Xi T16 904 65 from by rw [eU17]; exact Xi_ne (by omega))))
                have w571 : 0 ≤ Xi T16 904 65 ∧ Xi T16 904 65 ≤ 1 := hHT16.c _ _
                have w572 : Xi U26 904 69 = Xi T15 904 69 := (show Xi U26 904 69 = Xi U18 904 69 from by rw [eU26]; exact Xi_ne (by omega)).trans ( (show Xi U18 904 69 = Xi U17 904 69 from by rw [eU18]; exact Xi_ne (by omega)).trans ( (show Xi U17 904 69 = Xi T16 904 69 from by rw [eU17]; exact Xi_ne (by omega)).trans ((show Xi T16 904 69 = Xi T15 904 69 from w411.x _ _ rfl))))
                have w573 : 0 ≤ Xi T15 904 69 ∧ Xi T15 904 69 ≤ 2600 := hHT15.c _ _
                have w574 : Xi U26 904 8 = Xi U18 904 8 := (show Xi U26 904 8 = Xi U18 904 8 from by rw [eU26]; exact Xi_ne (by omega))
                have w575 : 0 ≤ Xi U18 904 8 ∧ Xi U18 904 8 ≤ 5010 := hHU18.c _ _
                have w576 : Xi U26 904 93 = Xi S 904 93 := (show Xi U26 904 93 = Xi U18 904 93 from by rw [eU26]; exact Xi_ne (by omega)).trans ( (show Xi U18 904 93 = Xi U17 904 93 from by rw [eU18]; exact Xi_ne (by omega)).trans ( (show Xi U17 904 93 = Xi T16 904 93 from by rw [eU17]; exact Xi_ne (by omega)).trans ( (show Xi T16 904 93 = Xi T15 904 93 from w411.x _ _ rfl).trans ( (show Xi T15 904 93 = Xi U14 904 93 from w397.x _ _ rfl).trans ( (show Xi U14 904 93 = Xi U13 904 93 from by rw [eU14]; exact Xi_ne (by omega)).trans ((show Xi U13 904 93 = Xi S 904 93 from by rw [eU13]; exact Xi_ne (by omega))))))))
                have w577 : 0 ≤ Xi S 904 93 ∧ Xi S 904 93 ≤ 1700 := hH.c _ _
                have w578 : Xi U26 904 99 = Xi T15 904 99 := (show Xi U26 904 99 = Xi U18 904 99 from by rw [eU26]; exact Xi_ne (by omega)).trans ( (show Xi U18 904 99 = Xi U17 904 99 from by rw [eU18]; exact Xi_ne (by omega)).trans ( (show Xi U17 904 99 = Xi T16 904 99 from by rw [eU17]; exact Xi_ne (by omega)).trans ((show Xi T16 904 99 = Xi T15 904 99 from w411.x _ _ rfl))))
                have w579 : 0 ≤ Xi T15 904 99 ∧ Xi T15 904 99 ≤ 2600 := hHT15.c _ _
                refine l_callV rfl rfl rfl (t_mo_run hHU26 n c (by first | assumption | exact (TK_FR hFU26 rfl (by assumption : TK S _))) (by first | assumption | exact (AT_FR (FR_e eU26) rfl (by assumption : AT U18 _ _))) (by first | assumption | exact (RNV_FR (FR_e eU26) rfl (RNV_FR (FR_e eU18) rfl (RNV_FR (FR_e eU17) rfl (RNV_FR w411 rfl (by assumption : RNV T15 _)))))) _) ?_
                rintro _ T27 ⟨hHT27, w585, z584, rfl, w584, w580, w581, w582, r271, w583⟩
                have hFT27 : FR md_mo_test S T27 := FR.tr hFU26 w585 rfl
                show Rl _ _ _ _ _ [iv z584, iv (Xi S 904 93), .ref 956] _ _
                refine l_iastore (n := 1700) rfl rfl (by omega) (by omega) (by unfold rg; omega) ?_
                obtain ⟨U28, eU28⟩ : ∃ T : sS, T = uI T27 956 (((Xi S 904 93)).toNat) (Int32.ofInt z584) := ⟨_, rfl⟩
                rw [← eU28]
                have hHU28 : HI U28 := by rw [eU28]; exact HI_w hHT27 (show 0 ≤ z584 by omega) (show z584 ≤ 2600 by omega)
                have hFU28 : FR md_mo_test S U28 := by rw [eU28]; exact FR.wI hFT27 (mdf_i (r := (956, 957, 0, 100000)) (List.mem_of_getElem? (i := 15) rfl) (inR_i (by omega) (by omega) (by omega) (by omega)))
                have w586 : Xi U28 956 (((Xi S 904 93)).toNat) = z584 := by rw [eU28]; exact Xi_same (by unfold rg; omega)
                refine l_goto rfl rfl ?_
                have w587 : Xi U28 952 (Xi S 904 93).toNat = Xi U26 952 (Xi S 904 93).toNat := (show Xi U28 952 (Xi S 904 93).toNat = Xi T27 952 (Xi S 904 93).toNat from by rw [eU28]; exact Xi_ne (by omega)).trans ((show Xi T27 952 (Xi S 904 93).toNat = Xi U26 952 (Xi S 904 93).toNat from (w585.cx 952 rfl _).1))
                have w588 : Xi U28 954 (Xi S 904 93).toNat = Xi T15 954 (Xi S 904 93).toNat := (show Xi U28 954 (Xi S 904 93).toNat = Xi T27 954 (Xi S 904 93).toNat from by rw [eU28]; exact Xi_ne (by omega)).trans ( (show Xi T27 954 (Xi S 904 93).toNat = Xi U26 954 (Xi S 904 93).toNat from (w585.cx 954 rfl _).1).trans ( (show Xi U26 954 (Xi S 904 93).toNat = Xi U18 954 (Xi S 904 93).toNat from by rw [eU26]; exact Xi_ne (by omega)).trans ( (show Xi U18 954 (Xi S 904 93).toNat = Xi U17 954 (Xi S 904 93).toNat from by rw [eU18]; exact Xi_ne (by omega)).trans ( (show Xi U17 954 (Xi S 904 93).toNat = Xi T16 954 (Xi S 904 93).toNat from by rw [eU17]; exact Xi_ne (by omega)).trans ((show Xi T16 954 (Xi S 904 93).toNat = Xi T15 954 (Xi S 904 93).toNat from (w411.cx 954 rfl _).1))))))
                have w589 : Xi U28 955 (Xi S 904 93).toNat = Xi T15 955 (Xi S 904 93).toNat := (show Xi U28 955 (Xi S 904 93).toNat = Xi T27 955 (Xi S 904 93).toNat from by rw [eU28]; exact Xi_ne (by omega)).trans ( (show Xi T27 955 (Xi S 904 93).toNat = Xi U26 955 (Xi S 904 93).toNat from (w585.cx 955 rfl _).1).trans ( (show Xi U26 955 (Xi S 904 93).toNat = Xi U18 955 (Xi S 904 93).toNat from by rw [eU26]; exact Xi_ne (by omega)).trans ( (show Xi U18 955 (Xi S 904 93).toNat = Xi U17 955 (Xi S 904 93).toNat from by rw [eU18]; exact Xi_ne (by omega)).trans ( (show Xi U17 955 (Xi S 904 93).toNat = Xi T16 955 (Xi S 904 93).toNat from by rw [eU17]; exact Xi_ne (by omega)).trans ((show Xi T16 955 (Xi S 904 93).toNat = Xi T15 955 (Xi S 904 93).toNat from (w411.cx 955 rfl _).1))))))
                have w590 : Xi U28 959 (Xi S 904 93).toNat = Xi S 959 (Xi S 904 93).toNat := (show Xi U28 959 (Xi S 904 93).toNat = Xi T27 959 (Xi S 904 93).toNat from by rw [eU28]; exact Xi_ne (by omega)).trans ( (show Xi T27 959 (Xi S 904 93).toNat = Xi U26 959 (Xi S 904 93).toNat from (w585.cx 959 rfl _).1).trans ( (show Xi U26 959 (Xi S 904 93).toNat = Xi U18 959 (Xi S 904 93).toNat from by rw [eU26]; exact Xi_ne (by omega)).trans ( (show Xi U18 959 (Xi S 904 93).toNat = Xi U17 959 (Xi S 904 93).toNat from by rw [eU18]; exact Xi_ne (by omega)).trans ( (show Xi U17 959 (Xi S 904 93).toNat = Xi T16 959 (Xi S 904 93).toNat from by rw [eU17]; exact Xi_ne (by omega)).trans ( (show Xi T16 959 (Xi S 904 93).toNat = Xi T15 959 (Xi S 904 93).toNat from (w411.cx 959 rfl _).1).trans ( (show Xi T15 959 (Xi S 904 93).toNat = Xi U14 959 (Xi S 904 93).toNat from (w397.cx 959 rfl _).1).trans ( (show Xi U14 959 (Xi S 904 93).toNat = Xi U13 959 (Xi S 904 93).toNat from by rw [eU14]; exact Xi_ne (by omega)).trans ((show Xi U13 959 (Xi S 904 93).toNat = Xi S 959 (Xi S 904 93).toNat from by rw [eU13]; exact Xi_ne (by omega))))))))))
                have w591 : Xi U28 961 (Xi S 904 93).toNat = Xi U13 961 (Xi S 904 93).toNat := (show Xi U28 961 (Xi S 904 93).toNat = Xi T27 961 (Xi S 904 93).toNat from by rw [eU28]; exact Xi_ne (by omega)).trans ( (show Xi T27 961 (Xi S 904 93).toNat = Xi U26 961 (Xi S 904 93).toNat from (w585.cx 961 rfl _).1).trans ( (show Xi U26 961 (Xi S 904 93).toNat = Xi U18 961 (Xi S 904 93).toNat from by rw [eU26]; exact Xi_ne (by omega)).trans ( (show Xi U18 961 (Xi S 904 93).toNat = Xi U17 961 (Xi S 904 93).toNat from by rw [eU18]; exact Xi_ne (by omega)).trans ( (show Xi U17 961 (Xi S 904 93).toNat = Xi T16 961 (Xi S 904 93).toNat from by rw [eU17]; exact Xi_ne (by omega)).trans ( (show Xi T16 961 (Xi S 904 93).toNat = Xi T15 961 (Xi S 904 93).toNat from (w411.cx 961 rfl _).1).trans ( (show Xi T15 961 (Xi S 904 93).toNat = Xi U14 961 (Xi S 904 93).toNat from (w397.cx 961 rfl _).1).trans ((show Xi U14 961 (Xi S 904 93).toNat = Xi U13 961 (Xi S 904 93).toNat from by rw [eU14]; exact Xi_ne (by omega)))))))))
                have w592 : Xi U28 962 (Xi S 904 93).toNat = Xi S 962 (Xi S 904 93).toNat := (show Xi U28 962 (Xi S 904 93).toNat = Xi T27 962 (Xi S 904 93).toNat from by rw [eU28]; exact Xi_ne (by omega)).trans ( (show Xi T27 962 (Xi S 904 93).toNat = Xi U26 962 (Xi S 904 93).toNat from (w585.cx 962 rfl _).1).trans ( (show Xi U26 962 (Xi S 904 93).toNat = Xi U18 962 (Xi S 904 93).toNat from by rw [eU26]; exact Xi_ne (by omega)).trans ( (show Xi U18 962 (Xi S 904 93).toNat = Xi U17 962 (Xi S 904 93).toNat from by rw [eU18]; exact Xi_ne (by omega)).trans ( (show Xi U17 962 (Xi S 904 93).toNat = Xi T16 962 (Xi S 904 93).toNat from by rw [eU17]; exact Xi_ne (by omega)).trans ( (show Xi T16 962 (Xi S 904 93).toNat = Xi T15 962 (Xi S 904 93).toNat from (w411.cx 962 rfl _).1).trans ( (show Xi T15 962 (Xi S 904 93).toNat = Xi U14 962 (Xi S 904 93).toNat from (w397.cx 962 rfl _).1).trans ( (show Xi U14 962 (Xi S 904 93).toNat = Xi U13 962 (Xi S 904 93).toNat from by rw [eU14]; exact Xi_ne (by omega)).trans ((show Xi U13 962 (Xi S 904 93).toNat = Xi S 962 (Xi S 904 93).toNat from by rw [eU13]; exact Xi_ne (by omega))))))))))
                have w593 : Xi U28 904 100 = Xi T15 904 100 := (show Xi U28 904 100 = Xi T27 904 100 from by rw [eU28]; exact Xi_ne (by omega)).trans ( (show Xi T27 904 100 = Xi U26 904 100 from w585.x _ _ rfl).trans ( (show Xi U26 904 100 = Xi U18 904 100 from by rw [eU26]; exact Xi_ne (by omega)).trans ( (show Xi U18 904 100 = Xi U17 904 100 from by rw [eU18]; exact Xi_ne (by omega)).trans ( (show Xi U17 904 100 = Xi T16 904 100 from by rw [eU17]; exact Xi_ne (by omega)).trans ((show Xi T16 904 100 = Xi T15 904 100 from w411.x _ _ rfl))))))
                have w594 : 0 ≤ Xi T15 904 100 ∧ Xi T15 904 100 ≤ 2 := hHT15.c _ _
                have w595 : Xi U28 904 101 = Xi T15 904 101 := (show Xi U28 904 101 = Xi T27 904 101 from by rw [eU28]; exact Xi_ne (by omega)).trans ( (show Xi T27 904 101 = Xi U26 904 101 from w585.x _ _ rfl).trans ( (show Xi U26 904 101 = Xi U18 904 101 from by rw [eU26]; exact Xi_ne (by omega)).trans ( (show Xi U18 904 101 = Xi U17 904 101 from by rw [eU18]; exact Xi_ne (by omega)).trans ( (show Xi U17 904 101 = Xi T16 904 101 from by rw [eU17]; exact Xi_ne (by omega)).trans ((show Xi T16 904 101 = Xi T15 904 101 from w411.x _ _ rfl))))))
                have w596 : 0 ≤ Xi T15 904 101 ∧ Xi T15 904 101 ≤ 5010 := hHT15.c _ _
                have w597 : Xi U28 904 65 = Xi T27 904 65 := (show Xi U28 904 65 = Xi T27 904 65 from by rw [eU28]; exact Xi_ne (by omega))
                have w598 : 0 ≤ Xi T27 904 65 ∧ Xi T27 904 65 ≤ 1 := hHT27.c _ _
                have w599 : Xi U28 904 69 = Xi T27 904 69 := (show Xi U28 904 69 = Xi T27 904 69 from by rw [eU28]; exact Xi_ne (by omega))
                have w600 : 0 ≤ Xi T27 904 69 ∧ Xi T27 904 69 ≤ 2600 := hHT27.c _ _
                have w601 : Xi U28 904 8 = Xi T27 904 8 := (show Xi U28 904 8 = Xi T27 904 8 from by rw [eU28]; exact Xi_ne (by omega))
                have w602 : 0 ≤ Xi T27 904 8 ∧ Xi T27 904 8 ≤ 5010 := hHT27.c _ _
                have w603 : Xi U28 904 93 = Xi S 904 93 := (show Xi U28 904 93 = Xi T27 904 93 from by rw [eU28]; exact Xi_ne (by omega)).trans ( (show Xi T27 904 93 = Xi U26 904 93 from w585.x _ _ rfl).trans ( (show Xi U26 904 93 = Xi U18 904 93 from by rw [eU26]; exact Xi_ne (by omega)).trans ( (show Xi U18 904 93 = Xi U17 904 93 from by rw [eU18]; exact Xi_ne (by omega)).trans ( (show Xi U17 904 93 = Xi T16 904 93 from by rw [eU17]; exact Xi_ne (by omega)).trans ( (show Xi T16 904 93 = Xi T15 904 93 from w411.x _ _ rfl).trans ( (show Xi T15 904 93 = Xi U14 904 93 from w397.x _ _ rfl).trans ( (show Xi U14 904 93 = Xi U13 904 93 from by rw [eU14]; exact Xi_ne (by omega)).trans ((show Xi U13 904 93 = Xi S 904 93 from by rw [eU13]; exact Xi_ne (by omega))))))))))
                have w604 : 0 ≤ Xi S 904 93 ∧ Xi S 904 93 ≤ 1700 := hH.c _ _
                have w605 : Xi U28 904 99 = Xi T15 904 99 := (show Xi U28 904 99 = Xi T27 904 99 from by rw [eU28]; exact Xi_ne (by omega)).trans ( (show Xi T27 904 99 = Xi U26 904 99 from w585.x _ _ rfl).trans ( (show Xi U26 904 99 = Xi U18 904 99 from by rw [eU26]; exact Xi_ne (by omega)).trans ( (show Xi U18 904 99 = Xi U17 904 99 from by rw [eU18]; exact Xi_ne (by omega)).trans ( (show Xi U17 904 99 = Xi T16 904 99 from by rw [eU17]; exact Xi_ne (by omega)).trans ((show Xi T16 904 99 = Xi T15 904 99 from w411.x _ _ rfl))))))
                have w606 : 0 ≤ Xi T15 904 99 ∧ Xi T15 904 99 ≤ 2600 := hHT15.c _ _
                exact Rl_weak (C351 U28 hHU28 hFU28  (by first | assumption | exact (AT_FR (FR_e eU28) rfl (by assumption : AT T27 _ _))) (by first | assumption | exact (RNV_FR (FR_e eU28) rfl (by assumption : RNV T27 _))) (by omega) (by omega) (by omega) (by omega) (by omega) (by omega) ((KT.w (KT_FR w585 rfl (KT.w (KT_FR (FR_e eU18) rfl (KT.w (KT_FR w411 rfl (KT.tr (KT.w (KT.w KT.rf eU13 (by omega)) eU14 (by omega)) (by assumption : KT T15 U14 _) (by omega))) eU17 (by omega))) eU26 (by omega))) eU28 (by omega))) (by first | exact (fun _ q => tvx_2 (w187 q).1 (thv_c (h176 (by omega)) (by omega) (by omega) (by omega)) (by have t := p172 (by omega); omega) (w187 q).2.1 (W187 q)) w187 | exact (fun _ q => tvx_3 (by omega) (thv_c (h194 (by omega)) (by omega) (by omega) (by omega)) (by omega)) r271 | exact (fun _ q => tvx_4 (by omega) (thv_c (h194 (by omega)) (by omega) (by omega) (by omega)) (thv_i (s := Xi U28 904 100) (t := Xi U28 904 101) (r := Xi U28 904 99) (by omega) (by omega) (by omega) (by omega) (by omega) (by omega) (by omega))) o313 | exact (fun _ q => tvx_5 (by omega)) A96 | exact fun q => absurd q (by omega))) (And.intro rfl (And.intro rfl (True.intro)))
            · refine l_iconst rfl ?_
              refine l_goto rfl rfl ?_
              refine l_iadd rfl ?_
              refine l_pfi rfl rfl rfl rfl ?_
              obtain ⟨U29, eU29⟩ : ∃ T : sS, T = uI U17 904 8 (Int32.ofInt ((Xi U17 904 8) + 1)) := ⟨_, rfl⟩
              rw [← eU29]
              have hHU29 : HI U29 := by rw [eU29]; exact HI_w hHU17 (show 0 ≤ ((Xi U17 904 8) + 1) by omega) (show ((Xi U17 904 8) + 1) ≤ 5010 by omega)
              have hFU29 : FR md_mo_test S U29 := by rw [eU29]; exact FR.wI hFU17 (mdf_i (r := (904, 905, 8, 9)) (List.mem_of_getElem? (i := 0) rfl) (inR_i (by omega) (by omega) (by omega) (by omega)))
              have w607 : Xi U29 904 8 = ((Xi U17 904 8) + 1) := by rw [eU29]; exact Xi_same (by unfold rg; omega)
              have t241 : AT U29 n c ∧ Xi U17 904 8 ≤ Xi U29 904 8 ∧ (Xi U29 904 8 ≤ n ∨ Xi U29 904 8 = Xi U17 904 8) := at_opt (TK_FR hFU17 rfl hT) a217 eU29 (by omega) (by omega)
              have a241 : AT U29 n c := t241.1
              refine l_aload_n rfl rfl ?_
              refine l_iconst rfl ?_
              have w608 : Xi U29 904 100 = Xi T15 904 100 := (show Xi U29 904 100 = Xi U17 904 100 from by rw [eU29]; exact Xi_ne (by omega)).trans ( (show Xi U17 904 100 = Xi T16 904 100 from by rw [eU17]; exact Xi_ne (by omega)).trans ((show Xi T16 904 100 = Xi T15 904 100 from w411.x _ _ rfl)))
              have w609 : 0 ≤ Xi T15 904 100 ∧ Xi T15 904 100 ≤ 2 := hHT15.c _ _
              have w610 : Xi U29 904 101 = Xi T15 904 101 := (show Xi U29 904 101 = Xi U17 904 101 from by rw [eU29]; exact Xi_ne (by omega)).trans ( (show Xi U17 904 101 = Xi T16 904 101 from by rw [eU17]; exact Xi_ne (by omega)).trans ((show Xi T16 904 101 = Xi T15 904 101 from w411.x _ _ rfl)))
              have w611 : 0 ≤ Xi T15 904 101 ∧ Xi T15 904 101 ≤ 5010 := hHT15.c _ _
              have w612 : Xi U29 904 65 = Xi T16 904 65 := (show Xi U29 904 65 = Xi U17 904 65 from by rw [eU29]; exact Xi_ne (by omega)).trans ((show Xi U17 904 65 = Xi T16 904 65 from by rw [eU17]; exact Xi_ne (by omega)))
              have w613 : 0 ≤ Xi T16 904 65 ∧ Xi T16 904 65 ≤ 1 := hHT16.c _ _
              have w614 : Xi U29 904 69 = Xi T15 904 69 := (show Xi U29 904 69 = Xi U17 904 69 from by rw [eU29]; exact Xi_ne (by omega)).trans ( (show Xi U17 904 69 = Xi T16 904 69 from by rw [eU17]; exact Xi_ne (by omega)).trans ((show Xi T16 904 69 = Xi T15 904 69 from w411.x _ _ rfl)))
              have w615 : 0 ≤ Xi T15 904 69 ∧ Xi T15 904 69 ≤ 2600 := hHT15.c _ _
              have w616 : 0 ≤ Xi U29 904 8 ∧ Xi U29 904 8 ≤ 5010 := hHU29.c _ _
              have w617 : Xi U29 904 93 = Xi S 904 93 := (show Xi U29 904 93 = Xi U17 904 93 from by rw [eU29]; exact Xi_ne (by omega)).trans ( (show Xi U17 904 93 = Xi T16 904 93 from by rw [eU17]; exact Xi_ne (by omega)).trans ( (show Xi T16 904 93 = Xi T15 904 93 from w411.x _ _ rfl).trans ( (show Xi T15 904 93 = Xi U14 904 93 from w397.x _ _ rfl).trans ( (show Xi U14 904 93 = Xi U13 904 93 from by rw [eU14]; exact Xi_ne (by omega)).trans ((show Xi U13 904 93 = Xi S 904 93 from by rw [eU13]; exact Xi_ne (by omega)))))))
              have w618 : 0 ≤ Xi S 904 93 ∧ Xi S 904 93 ≤ 1700 := hH.c _ _
              have w619 : Xi U29 904 99 = Xi T15 904 99 := (show Xi U29 904 99 = Xi U17 904 99 from by rw [eU29]; exact Xi_ne (by omega)).trans ( (show Xi U17 904 99 = Xi T16 904 99 from by rw [eU17]; exact Xi_ne (by omega)).trans ((show Xi T16 904 99 = Xi T15 904 99 from w411.x _ _ rfl)))
              have w620 : 0 ≤ Xi T15 904 99 ∧ Xi T15 904 99 ≤ 2600 := hHT15.c _ _
              refine l_callV rfl rfl rfl (t_mo_isNext hHU29 n c 3 ⟨by omega, by omega⟩ (by first | assumption | exact (TK_FR hFU29 rfl (by assumption : TK S _))) (by first | assumption | exact (by assumption : AT U29 _ _)) _) ?_
              rintro _ _ ⟨rfl, z623, rfl, w623, w621, w622⟩
              show Rl _ _ _ _ _ [iv z623] _ _
              refine l_if_eq rfl rfl (by unfold rg; omega) (fun w624 => ?_) (fun w625 => ?_)
              · refine l_iload_n rfl rfl ?_
                refine l_if_eq rfl rfl (by unfold rg; omega) (fun w626 => ?_) (fun w627 => ?_)
                · refine l_aload_n rfl rfl ?_
                  refine l_gfr rfl rfl rfl rfl rfl (hHU29.r 904 82 952 rfl) ?_
                  refine l_aload_n rfl rfl ?_
                  refine l_gfi rfl rfl rfl rfl rfl ?_
                  have w628 : (Xi U29 904 93) = (Xi S 904 93) := (show Xi U29 904 93 = Xi U17 904 93 from by rw [eU29]; exact Xi_ne (by omega)).trans ( (show Xi U17 904 93 = Xi T16 904 93 from by rw [eU17]; exact Xi_ne (by omega)).trans ( (show Xi T16 904 93 = Xi T15 904 93 from w411.x _ _ rfl).trans ( (show Xi T15 904 93 = Xi U14 904 93 from w397.x _ _ rfl).trans ( (show Xi U14 904 93 = Xi U13 904 93 from by rw [eU14]; exact Xi_ne (by omega)).trans ((show Xi U13 904 93 = Xi S 904 93 from by rw [eU13]; exact Xi_ne (by omega)))))))
                  rw [w628]
                  refine l_iconst rfl ?_
                  refine l_iastore (n := 1700) rfl rfl (by omega) (by omega) (by unfold rg; omega) ?_
                  obtain ⟨U30, eU30⟩ : ∃ T : sS, T = uI U29 952 (((Xi S 904 93)).toNat) (Int32.ofInt 4) := ⟨_, rfl⟩
                  rw [← eU30]
                  have hHU30 : HI U30 := by rw [eU30]; exact HI_w hHU29 (show 0 ≤ 4 by omega) (show 4 ≤ 5 by omega)
                  have hFU30 : FR md_mo_test S U30 := by rw [eU30]; exact FR.wI hFU29 (mdf_i (r := (952, 953, 0, 100000)) (List.mem_of_getElem? (i := 11) rfl) (inR_i (by omega) (by omega) (by omega) (by omega)))
                  have w629 : Xi U30 952 (((Xi S 904 93)).toNat) = 4 := by rw [eU30]; exact Xi_same (by unfold rg; omega)
                  refine l_aload_n rfl rfl ?_
                  refine l_gfr rfl rfl rfl rfl rfl (hHU30.r 904 88 958 rfl) ?_
                  refine l_aload_n rfl rfl ?_
                  refine l_gfi rfl rfl rfl rfl rfl ?_
                  have w630 : (Xi U30 904 93) = (Xi S 904 93) := (show Xi U30 904 93 = Xi U29 904 93 from by rw [eU30]; exact Xi_ne (by omega)).trans ( (show Xi U29 904 93 = Xi U17 904 93 from by rw [eU29]; exact Xi_ne (by omega)).trans ( (show Xi U17 904 93 = Xi T16 904 93 from by rw [eU17]; exact Xi_ne (by omega)).trans ( (show Xi T16 904 93 = Xi T15 904 93 from w411.x _ _ rfl).trans ( (show Xi T15 904 93 = Xi U14 904 93 from w397.x _ _ rfl).trans ( (show Xi U14 904 93 = Xi U13 904 93 from by rw [eU14]; exact Xi_ne (by omega)).trans ((show Xi U13 904 93 = Xi S 904 93 from by rw [eU13]; exact Xi_ne (by omega))))))))
                  rw [w630]
                  refine l_aload_n rfl rfl ?_
                  have w631 : Xi U30 904 100 = Xi T15 904 100 := (show Xi U30 904 100 = Xi U29 904 100 from by rw [eU30]; exact Xi_ne (by omega)).trans ( (show Xi U29 904 100 = Xi U17 904 100 from by rw [eU29]; exact Xi_ne (by omega)).trans ( (show Xi U17 904 100 = Xi T16 904 100 from by rw [eU17]; exact Xi_ne (by omega)).trans ((show Xi T16 904 100 = Xi T15 904 100 from w411.x _ _ rfl))))
                  have w632 : 0 ≤ Xi T15 904 100 ∧ Xi T15 904 100 ≤ 2 := hHT15.c _ _
                  have w633 : Xi U30 904 101 = Xi T15 904 101 := (show Xi U30 904 101 = Xi U29 904 101 from by rw [eU30]; exact Xi_ne (by omega)).trans ( (show Xi U29 904 101 = Xi U17 904 101 from by rw [eU29]; exact Xi_ne (by omega)).trans ( (show Xi U17 904 101 = Xi T16 904 101 from by rw [eU17]; exact Xi_ne (by omega)).trans ((show Xi T16 904 101 = Xi T15 904 101 from w411.x _ _ rfl))))
                  have w634 : 0 ≤ Xi T15 904 101 ∧ Xi T15 904 101 ≤ 5010 := hHT15.c _ _
                  have w635 : Xi U30 904 65 = Xi T16 904 65 := (show Xi U30 904 65 = Xi U29 904 65 from by rw [eU30]; exact Xi_ne (by omega)).trans ( (show Xi U29 904 65 = Xi U17 904 65 from by rw [eU29]; exact Xi_ne (by omega)).trans ((show Xi U17 904 65 = Xi T16 904 65 from by rw [eU17]; exact Xi_ne (by omega))))
                  have w636 : 0 ≤ Xi T16 904 65 ∧ Xi T16 904 65 ≤ 1 := hHT16.c _ _
                  have w637 : Xi U30 904 69 = Xi T15 904 69 := (show Xi U30 904 69 = Xi U29 904 69 from by rw [eU30]; exact Xi_ne (by omega)).trans ( (show Xi U29 904 69 = Xi U17 904 69 from by rw [eU29]; exact Xi_ne (by omega)).trans ( (show Xi U17 904 69 = Xi T16 904 69 from by rw [eU17]; exact Xi_ne (by omega)).trans ((show Xi T16 904 69 = Xi T15 904 69 from w411.x _ _ rfl))))
                  have w638 : 0 ≤ Xi T15 904 69 ∧ Xi T15 904 69 ≤ 2600 := hHT15.c _ _
                  have w639 : Xi U30 904 8 = Xi U29 904 8 := (show Xi U30 904 8 = Xi U29 904 8 from by rw [eU30]; exact Xi_ne (by omega))
                  have w640 : 0 ≤ Xi U29 904 8 ∧ Xi U29 904 8 ≤ 5010 := hHU29.c _ _
                  have w641 : Xi U30 904 93 = Xi S 904 93 := (show Xi U30 904 93 = Xi U29 904 93 from by rw [eU30]; exact Xi_ne (by omega)).trans ( (show Xi U29 904 93 = Xi U17 904 93 from by rw [eU29]; exact Xi_ne (by omega)).trans ( (show Xi U17 904 93 = Xi T16 904 93 from by rw [eU17]; exact Xi_ne (by omega)).trans ( (show Xi T16 904 93 = Xi T15 904 93 from w411.x _ _ rfl).trans ( (show Xi T15 904 93 = Xi U14 904 93 from w397.x _ _ rfl).trans ( (show Xi U14 904 93 = Xi U13 904 93 from by rw [eU14]; exact Xi_ne (by omega)).trans ((show Xi U13 904 93 = Xi S 904 93 from by rw [eU13]; exact Xi_ne (by omega))))))))
                  have w642 : 0 ≤ Xi S 904 93 ∧ Xi S 904 93 ≤ 1700 := hH.c _ _
                  have w643 : Xi U30 904 99 = Xi T15 904 99 := (show Xi U30 904 99 = Xi U29 904 99 from by rw [eU30]; exact Xi_ne (by omega)).trans ( (show Xi U29 904 99 = Xi U17 904 99 from by rw [eU29]; exact Xi_ne (by omega)).trans ( (show Xi U17 904 99 = Xi T16 904 99 from by rw [eU17]; exact Xi_ne (by omega)).trans ((show Xi T16 904 99 = Xi T15 904 99 from w411.x _ _ rfl))))
                  have w644 : 0 ≤ Xi T15 904 99 ∧ Xi T15 904 99 ≤ 2600 := hHT15.c _ _
                  refine l_callV rfl rfl rfl (t_mo_placing__2 hHU30 n c (by first | assumption | exact (TK_FR hFU30 rfl (by assumption : TK S _))) (by first | assumption | exact (AT_FR (FR_e eU30) rfl (by assumption : AT U29 _ _))) _) ?_
                  rintro _ T31 ⟨hHT31, w649, z648, rfl, w648, w645, w646, w647⟩
                  have hFT31 : FR md_mo_test S T31 := FR.tr hFU30 w649 rfl
                  show Rl _ _ _ _ _ [iv z648, iv (Xi S 904 93), .ref 958] _ _
                  refine l_iastore (n := 1700) rfl rfl (by omega) (by omega) (by unfold rg; omega) ?_
                  obtain ⟨U32, eU32⟩ : ∃ T : sS, T = uI T31 958 (((Xi S 904 93)).toNat) (Int32.ofInt z648) := ⟨_, rfl⟩
                  rw [← eU32]
                  have hHU32 : HI U32 := by rw [eU32]; exact HI_w hHT31 (show 0 ≤ z648 by omega) (show z648 ≤ 5 by omega)
                  have hFU32 : FR md_mo_test S U32 := by rw [eU32]; exact FR.wI hFT31 (mdf_i (r := (958, 959, 0, 100000)) (List.mem_of_getElem? (i := 17) rfl) (inR_i (by omega) (by omega) (by omega) (by omega)))
                  have w650 : Xi U32 958 (((Xi S 904 93)).toNat) = z648 := by rw [eU32]; exact Xi_same (by unfold rg; omega)
                  refine l_aload_n rfl rfl ?_
                  have w651 : Xi U32 904 100 = Xi T15 904 100 := (show Xi U32 904 100 = Xi T31 904 100 from by rw [eU32]; exact Xi_ne (by omega)).trans ( (show Xi T31 904 100 = Xi U30 904 100 from w649.x _ _ rfl).trans ( (show Xi U30 904 100 = Xi U29 904 100 from by rw [eU30]; exact Xi_ne (by omega)).trans ( (show Xi U29 904 100 = Xi U17 904 100 from by rw [eU29]; exact Xi_ne (by omega)).trans ( (show Xi U17 904 100 = Xi T16 904 100 from by rw [eU17]; exact Xi_ne (by omega)).trans ((show Xi T16 904 100 = Xi T15 904 100 from w411.x _ _ rfl))))))
                  have w652 : 0 ≤ Xi T15 904 100 ∧ Xi T15 904 100 ≤ 2 := hHT15.c _ _
                  have w653 : Xi U32 904 101 = Xi T15 904 101 := (show Xi U32 904 101 = Xi T31 904 101 from by rw [eU32]; exact Xi_ne (by omega)).trans ( (show Xi T31 904 101 = Xi U30 904 101 from w649.x _ _ rfl).trans ( (show Xi U30 904 101 = Xi U29 904 101 from by rw [eU30]; exact Xi_ne (by omega)).trans ( (show Xi U29 904 101 = Xi U17 904 101 from by rw [eU29]; exact Xi_ne (by omega)).trans ( (show Xi U17 904 101 = Xi T16 904 101 from by rw [eU17]; exact Xi_ne (by omega)).trans ((show Xi T16 904 101 = Xi T15 904 101 from w411.x _ _ rfl))))))
                  have w654 : 0 ≤ Xi T15 904 101 ∧ Xi T15 904 101 ≤ 5010 := hHT15.c _ _
                  have w655 : Xi U32 904 65 = Xi T31 904 65 := (show Xi U32 904 65 = Xi T31 904 65 from by rw [eU32]; exact Xi_ne (by omega))
                  have w656 : 0 ≤ Xi T31 904 65 ∧ Xi T31 904 65 ≤ 1 := hHT31.c _ _
                  have w657 : Xi U32 904 69 = Xi T15 904 69 := (show Xi U32 904 69 = Xi T31 904 69 from by rw [eU32]; exact Xi_ne (by omega)).trans ( (show Xi T31 904 69 = Xi U30 904 69 from w649.x _ _ rfl).trans ( (show Xi U30 904 69 = Xi U29 904 69 from by rw [eU30]; exact Xi_ne (by omega)).trans ( (show Xi U29 904 69 = Xi U17 904 69 from by rw [eU29]; exact Xi_ne (by omega)).trans ( (show Xi U17 904 69 = Xi T16 904 69 from by rw [eU17]; exact Xi_ne (by omega)).trans ((show Xi T16 904 69 = Xi T15 904 69 from w411.x _ _ rfl))))))
                  have w658 : 0 ≤ Xi T15 904 69 ∧ Xi T15 904 69 ≤ 2600 := hHT15.c _ _
                  have w659 : Xi U32 904 8 = Xi T31 904 8 := (show Xi U32 904 8 = Xi T31 904 8 from by rw [eU32]; exact Xi_ne (by omega))
                  have w660 : 0 ≤ Xi T31 904 8 ∧ Xi T31 904 8 ≤ 5010 := hHT31.c _ _
                  have w661 : Xi U32 904 93 = Xi S 904 93 := (show Xi U32 904 93 = Xi T31 904 93 from by rw [eU32]; exact Xi_ne (by omega)).trans ( (show Xi T31 904 93 = Xi U30 904 93 from w649.x _ _ rfl).trans ( (show Xi U30 904 93 = Xi U29 904 93 from by rw [eU30]; exact Xi_ne (by omega)).trans ( (show Xi U29 904 93 = Xi U17 904 93 from by rw [eU29]; exact Xi_ne (by omega)).trans ( (show Xi U17 904 93 = Xi T16 904 93 from by rw [eU17]; exact Xi_ne (by omega)).trans ( (show Xi T16 904 93 = Xi T15 904 93 from w411.x _ _ rfl).trans ( (show Xi T15 904 93 = Xi U14 904 93 from w397.x _ _ rfl).trans ( (show Xi U14 904 93 = Xi U13 904 93 from by rw [eU14]; exact Xi_ne (by omega)).trans ((show Xi U13 904 93 = Xi S 904 93 from by rw [eU13]; exact Xi_ne (by omega))))))))))
                  have w662 : 0 ≤ Xi S 904 93 ∧ Xi S 904 93 ≤ 1700 := hH.c _ _
                  have w663 : Xi U32 904 99 = Xi T15 904 99 := (show Xi U32 904 99 = Xi T31 904 99 from by rw [eU32]; exact Xi_ne (by omega)).trans ( (show Xi T31 904 99 = Xi U30 904 99 from w649.x _ _ rfl).trans ( (show Xi U30 904 99 = Xi U29 904 99 from by rw [eU30]; exact Xi_ne (by omega)).trans ( (show Xi U29 904 99 = Xi U17 904 99 from by rw [eU29]; exact Xi_ne (by omega)).trans ( (show Xi U17 904 99 = Xi T16 904 99 from by rw [eU17]; exact Xi_ne (by omega)).trans ((show Xi T16 904 99 = Xi T15 904 99 from w411.x _ _ rfl))))))
                  have w664 : 0 ≤ Xi T15 904 99 ∧ Xi T15 904 99 ≤ 2600 := hHT15.c _ _
                  refine l_callV rfl rfl rfl (t_mo_thing hHU32 n c (by first | assumption | exact (TK_FR hFU32 rfl (by assumption : TK S _))) (by first | assumption | exact (AT_FR (FR_e eU32) rfl (by assumption : AT T31 _ _))) (by first | assumption | exact (RNV_FR (FR_e eU32) rfl (RNV_FR w649 rfl (RNV_FR (FR_e eU30) rfl (RNV_FR (FR_e eU29) rfl (RNV_FR (FR_e eU17) rfl (RNV_FR w411 rfl (by assumption : RNV T15 _)))))))) _) ?_
                  rintro _ T33 ⟨hHT33, w671, rfl, w665, w666, w667, w668, w669, o313⟩
                  have hFT33 : FR md_mo_test S T33 := FR.tr hFU32 w671 rfl
                  show Rl _ _ _ _ _ [] _ _
                  refine l_aload_n rfl rfl ?_
                  refine l_gfr rfl rfl rfl rfl rfl (hHT33.r 904 89 959 rfl) ?_
                  refine l_aload_n rfl rfl ?_
                  refine l_gfi rfl rfl rfl rfl rfl ?_
                  have w672 : (Xi T33 904 93) = (Xi S 904 93) := (show Xi T33 904 93 = Xi U32 904 93 from w671.x _ _ rfl).trans ( (show Xi U32 904 93 = Xi T31 904 93 from by rw [eU32]; exact Xi_ne (by omega)).trans ( (show Xi T31 904 93 = Xi U30 904 93 from w649.x _ _ rfl).trans ( (show Xi U30 904 93 = Xi U29 904 93 from by rw [eU30]; exact Xi_ne (by omega)).trans ( (show Xi U29 904 93 = Xi U17 904 93 from by rw [eU29]; exact Xi_ne (by omega)).trans ( (show Xi U17 904 93 = Xi T16 904 93 from by rw [eU17]; exact Xi_ne (by omega)).trans ( (show Xi T16 904 93 = Xi T15 904 93 from w411.x _ _ rfl).trans ( (show Xi T15 904 93 = Xi U14 904 93 from w397.x _ _ rfl).trans ( (show Xi U14 904 93 = Xi U13 904 93 from by rw [eU14]; exact Xi_ne (by omega)).trans ((show Xi U13 904 93 = Xi S 904 93 from by rw [eU13]; exact Xi_ne (by omega)))))))))))
                  rw [w672]
                  refine l_aload_n rfl rfl ?_
                  refine l_gfi rfl rfl rfl rfl rfl ?_
                  have w673 : 0 ≤ (Xi T33 904 100) ∧ (Xi T33 904 100) ≤ 2 := hHT33.c _ _
                  refine l_sipush rfl rfl ?_
                  refine l_imul rfl ?_
                  refine l_aload_n rfl rfl ?_
                  refine l_gfi rfl rfl rfl rfl rfl ?_
                  have w674 : 0 ≤ (Xi T33 904 101) ∧ (Xi T33 904 101) ≤ 5010 := hHT33.c _ _
                  refine l_iadd rfl ?_
                  refine l_iastore (n := 1700) rfl rfl (by omega) (by omega) (by unfold rg; omega) ?_
                  obtain ⟨U34, eU34⟩ : ∃ T : sS, T = uI T33 959 (((Xi S 904 93)).toNat) (Int32.ofInt (((Xi T33 904 100) * 10000) + (Xi T33 904 101))) := ⟨_, rfl⟩
                  rw [← eU34]
                  have hHU34 : HI U34 := by rw [eU34]; exact HI_w hHT33 (show 0 ≤ (((Xi T33 904 100) * 10000) + (Xi T33 904 101)) by omega) (show (((Xi T33 904 100) * 10000) + (Xi T33 904 101)) ≤ 25010 by omega)
                  have hFU34 : FR md_mo_test S U34 := by rw [eU34]; exact FR.wI hFT33 (mdf_i (r := (959, 960, 0, 100000)) (List.mem_of_getElem? (i := 18) rfl) (inR_i (by omega) (by omega) (by omega) (by omega)))
                  have w675 : Xi U34 959 (((Xi S 904 93)).toNat) = (((Xi T33 904 100) * 10000) + (Xi T33 904 101)) := by rw [eU34]; exact Xi_same (by unfold rg; omega)
                  refine l_aload_n rfl rfl ?_
                  refine l_gfr rfl rfl rfl rfl rfl (hHU34.r 904 90 960 rfl) ?_
                  refine l_aload_n rfl rfl ?_
                  refine l_gfi rfl rfl rfl rfl rfl ?_
                  have w676 : (Xi U34 904 93) = (Xi S 904 93) := (show Xi U34 904 93 = Xi T33 904 93 from by rw [eU34]; exact Xi_ne (by omega)).trans ( (show Xi T33 904 93 = Xi U32 904 93 from w671.x _ _ rfl).trans ( (show Xi U32 904 93 = Xi T31 904 93 from by rw [eU32]; exact Xi_ne (by omega)).trans ( (show Xi T31 904 93 = Xi U30 904 93 from w649.x _ _ rfl).trans ( (show Xi U30 904 93 = Xi U29 904 93 from by rw [eU30]; exact Xi_ne (by omega)).trans ( (show Xi U29 904 93 = Xi U17 904 93 from by rw [eU29]; exact Xi_ne (by omega)).trans ( (show Xi U17 904 93 = Xi T16 904 93 from by rw [eU17]; exact Xi_ne (by omega)).trans ( (show Xi T16 904 93 = Xi T15 904 93 from w411.x _ _ rfl).trans ( (show Xi T15 904 93 = Xi U14 904 93 from w397.x _ _ rfl).trans ( (show Xi U14 904 93 = Xi U13 904 93 from by rw [eU14]; exact Xi_ne (by omega)).trans ((show Xi U13 904 93 = Xi S 904 93 from by rw [eU13]; exact Xi_ne (by omega))))))))))))
                  rw [w676]
                  refine l_aload_n rfl rfl ?_
                  have e346 : 904 = Xi T33 904 99 := by rw [eU34]; exact Xi_ne (by omega)
                  refine l_gfi rfl rfl rfl rfl rfl ?_
                  have w677 : 0 ≤ (Xi U34 904 99) ∧ (Xi U34 904 99) ≤ 2600 := hHU34.c _ _
                  refine l_iastore (n := 1700) rfl rfl (by omega) (by omega) (by unfold rg; omega) ?_
                  obtain ⟨U35, eU35⟩ : ∃ T : sS, T = uI U34 960 (((Xi S 904 93)).toNat) (Int32.ofInt (Xi U34 904 99)) := ⟨_, rfl⟩
                  rw [← eU35]
                  have hHU35 : HI U35 := by rw [eU35]; exact HI_w hHU34 (show -1 ≤ (Xi U34 904 99) by omega) (show (Xi U34 904 99) ≤ 2600 by omega)
                  have hFU35 : FR md_mo_test S U35 := by rw [eU35]; exact FR.wI hFU34 (mdf_i (r := (960, 961, 0, 100000)) (List.mem_of_getElem? (i := 19) rfl) (inR_i (by omega) (by omega) (by omega) (by omega)))
                  have w678 : Xi U35 960 (((Xi S 904 93)).toNat) = (Xi U34 904 99) := by rw [eU35]; exact Xi_same (by unfold rg; omega)
                  have w679 : Xi U35 952 (Xi S 904 93).toNat = Xi U30 952 (Xi S 904 93).toNat := (show Xi U35 952 (Xi S 904 93).toNat = Xi U34 952 (Xi S 904 93).toNat from by rw [eU35]; exact Xi_ne (by omega)).trans ( (show Xi U34 952 (Xi S 904 93).toNat = Xi T33 952 (Xi S 904 93).toNat from by rw [eU34]; exact Xi_ne (by omega)).trans ( (show Xi T33 952 (Xi S 904 93).toNat = Xi U32 952 (Xi S 904 93).toNat from (w671.cx 952 rfl _).1).trans ( (show Xi U32 952 (Xi S 904 93).toNat = Xi T31 952 (Xi S 904 93).toNat from by rw [eU32]; exact Xi_ne (by omega)).trans ((show Xi T31 952 (Xi S 904 93).toNat = Xi U30 952 (Xi S 904 93).toNat from (w649.cx 952 rfl _).1)))))
                  have w680 : Xi U35 954 (Xi S 904 93).toNat = Xi T15 954 (Xi S 904 93).toNat := (show Xi U35 954 (Xi S 904 93).toNat = Xi U34 954 (Xi S 904 93).toNat from by rw [eU35]; exact Xi_ne (by omega)).trans ( (show Xi U34 954 (Xi S 904 93).toNat = Xi T33 954 (Xi S 904 93).toNat from by rw [eU34]; exact Xi_ne (by omega)).trans ( (show Xi T33 954 (Xi S 904 93).toNat = Xi U32 954 (Xi S 904 93).toNat from (w671.cx 954 rfl _).1).trans ( (show Xi U32 954 (Xi S 904 93).toNat = Xi T31 954 (Xi S 904 93).toNat from by rw [eU32]; exact Xi_ne (by omega)).trans ( (show Xi T31 954 (Xi S 904 93).toNat = Xi U30 954 (Xi S 904 93).toNat from (w649.cx 954 rfl _).1).trans ( (show Xi U30 954 (Xi S 904 93).toNat = Xi U29 954 (Xi S 904 93).toNat from by rw [eU30]; exact Xi_ne (by omega)).trans ( (show Xi U29 954 (Xi S 904 93).toNat = Xi U17 954 (Xi S 904 93).toNat from by rw [eU29]; exact Xi_ne (by omega)).trans ( (show Xi U17 954 (Xi S 904 93).toNat = Xi T16 954 (Xi S 904 93).toNat from by rw [eU17]; exact Xi_ne (by omega)).trans ((show Xi T16 954 (Xi S 904 93).toNat = Xi T15 954 (Xi S 904 93).toNat from (w411.cx 954 rfl _).1)))))))))
                  have w681 : Xi U35 955 (Xi S 904 93).toNat = Xi T15 955 (Xi S 904 93).toNat := (show Xi U35 955 (Xi S 904 93).toNat = Xi U34 955 (Xi S 904 93).toNat from by rw [eU35]; exact Xi_ne (by omega)).trans ( (show Xi U34 955 (Xi S 904 93).toNat = Xi T33 955 (Xi S 904 93).toNat from by rw [eU34]; exact Xi_ne (by omega)).trans ( (show Xi T33 955 (Xi S 904 93).toNat = Xi U32 955 (Xi S 904 93).toNat from (w671.cx 955 rfl _).1).trans ( (show Xi U32 955 (Xi S 904 93).toNat = Xi T31 955 (Xi S 904 93).toNat from by rw [eU32]; exact Xi_ne (by omega)).trans ( (show Xi T31 955 (Xi S 904 93).toNat = Xi U30 955 (Xi S 904 93).toNat from (w649.cx 955 rfl _).1).trans ( (show Xi U30 955 (Xi S 904 93).toNat = Xi U29 955 (Xi S 904 93).toNat from by rw [eU30]; exact Xi_ne (by omega)).trans ( (show Xi U29 955 (Xi S 904 93).toNat = Xi U17 955 (Xi S 904 93).toNat from by rw [eU29]; exact Xi_ne (by omega)).trans ( (show Xi U17 955 (Xi S 904 93).toNat = Xi T16 955 (Xi S 904 93).toNat from by rw [eU17]; exact Xi_ne (by omega)).trans ((show Xi T16 955 (Xi S 904 93).toNat = Xi T15 955 (Xi S 904 93).toNat from (w411.cx 955 rfl _).1)))))))))
                  have w682 : Xi U35 956 (Xi S 904 93).toNat = Xi S 956 (Xi S 904 93).toNat := (show Xi U35 956 (Xi S 904 93).toNat = Xi U34 956 (Xi S 904 93).toNat from by rw [eU35]; exact Xi_ne (by omega)).trans ( (show Xi U34 956 (Xi S 904 93).toNat = Xi T33 956 (Xi S 904 93).toNat from by rw [eU34]; exact Xi_ne (by omega)).trans ( (show Xi T33 956 (Xi S 904 93).toNat = Xi U32 956 (Xi S 904 93).toNat from (w671.cx 956 rfl _).1).trans ( (show Xi U32 956 (Xi S 904 93).toNat = Xi T31 956 (Xi S 904 93).toNat from by rw [eU32]; exact Xi_ne (by omega)).trans ( (show Xi T31 956 (Xi S 904 93).toNat = Xi U30 956 (Xi S 904 93).toNat from (w649.cx 956 rfl _).1).trans ( (show Xi U30 956 (Xi S 904 93).toNat = Xi U29 956 (Xi S 904 93).toNat from by rw [eU30]; exact Xi_ne (by omega)).trans ( (show Xi U29 956 (Xi S 904 93).toNat = Xi U17 956 (Xi S 904 93).toNat from by rw [eU29]; exact Xi_ne (by omega)).trans ( (show Xi U17 956 (Xi S 904 93).toNat = Xi T16 956 (Xi S 904 93).toNat from by rw [eU17]; exact Xi_ne (by omega)).trans ( (show Xi T16 956 (Xi S 904 93).toNat = Xi T15 956 (Xi S 904 93).toNat from (w411.cx 956 rfl _).1).trans ( (show Xi T15 956 (Xi S 904 93).toNat = Xi U14 956 (Xi S 904 93).toNat from (w397.cx 956 rfl _).1).trans ( (show Xi U14 956 (Xi S 904 93).toNat = Xi U13 956 (Xi S 904 93).toNat from by rw [eU14]; exact Xi_ne (by omega)).trans ((show Xi U13 956 (Xi S 904 93).toNat = Xi S 956 (Xi S 904 93).toNat from by rw [eU13]; exact Xi_ne (by omega)))))))))))))
                  have w683 : Xi U35 959 (Xi S 904 93).toNat = Xi U34 959 (Xi S 904 93).toNat := (show Xi U35 959 (Xi S 904 93).toNat = Xi U34 959 (Xi S 904 93).toNat from by rw [eU35]; exact Xi_ne (by omega))
                  have w684 : Xi U35 961 (Xi S 904 93).toNat = Xi U13 961 (Xi S 904 93).toNat := (show Xi U35 961 (Xi S 904 93).toNat = Xi U34 961 (Xi S 904 93).toNat from by rw [eU35]; exact Xi_ne (by omega)).trans ( (show Xi U34 961 (Xi S 904 93).toNat = Xi T33 961 (Xi S 904 93).toNat from by rw [eU34]; exact Xi_ne (by omega)).trans ( (show Xi T33 961 (Xi S 904 93).toNat = Xi U32 961 (Xi S 904 93).toNat from (w671.cx 961 rfl _).1).trans ( (show Xi U32 961 (Xi S 904 93).toNat = Xi T31 961 (Xi S 904 93).toNat from by rw [eU32]; exact Xi_ne (by omega)).trans ( (show Xi T31 961 (Xi S 904 93).toNat = Xi U30 961 (Xi S 904 93).toNat from (w649.cx 961 rfl _).1).trans ( (show Xi U30 961 (Xi S 904 93).toNat = Xi U29 961 (Xi S 904 93).toNat from by rw [eU30]; exact Xi_ne (by omega)).trans ( (show Xi U29 961 (Xi S 904 93).toNat = Xi U17 961 (Xi S 904 93).toNat from by rw [eU29]; exact Xi_ne (by omega)).trans ( (show Xi U17 961 (Xi S 904 93).toNat = Xi T16 961 (Xi S 904 93).toNat from by rw [eU17]; exact Xi_ne (by omega)).trans ( (show Xi T16 961 (Xi S 904 93).toNat = Xi T15 961 (Xi S 904 93).toNat from (w411.cx 961 rfl _).1).trans ( (show Xi T15 961 (Xi S 904 93).toNat = Xi U14 961 (Xi S 904 93).toNat from (w397.cx 961 rfl _).1).trans ((show Xi U14 961 (Xi S 904 93).toNat = Xi U13 961 (Xi S 904 93).toNat from by rw [eU14]; exact Xi_ne (by omega))))))))))))
                  have w685 : Xi U35 962 (Xi S 904 93).toNat = Xi S 962 (Xi S 904 93).toNat := (show Xi U35 962 (Xi S 904 93).toNat = Xi U34 962 (Xi S 904 93).toNat from by rw [eU35]; exact Xi_ne (by omega)).trans ( (show Xi U34 962 (Xi S 904 93).toNat = Xi T33 962 (Xi S 904 93).toNat from by rw [eU34]; exact Xi_ne (by omega)).trans ( (show Xi T33 962 (Xi S 904 93).toNat = Xi U32 962 (Xi S 904 93).toNat from (w671.cx 962 rfl _).1).trans ( (show Xi U32 962 (Xi S 904 93).toNat = Xi T31 962 (Xi S 904 93).toNat from by rw [eU32]; exact Xi_ne (by omega)).trans ( (show Xi T31 962 (Xi S 904 93).toNat = Xi U30 962 (Xi S 904 93).toNat from (w649.cx 962 rfl _).1).trans ( (show Xi U30 962 (Xi S 904 93).toNat = Xi U29 962 (Xi S 904 93).toNat from by rw [eU30]; exact Xi_ne (by omega)).trans ( (show Xi U29 962 (Xi S 904 93).toNat = Xi U17 962 (Xi S 904 93).toNat from by rw [eU29]; exact Xi_ne (by omega)).trans ( (show Xi U17 962 (Xi S 904 93).toNat = Xi T16 962 (Xi S 904 93).toNat from by rw [eU17]; exact Xi_ne (by omega)).trans ( (show Xi T16 962 (Xi S 904 93).toNat = Xi T15 962 (Xi S 904 93).toNat from (w411.cx 962 rfl _).1).trans ( (show Xi T15 962 (Xi S 904 93).toNat = Xi U14 962 (Xi S 904 93).toNat from (w397.cx 962 rfl _).1).trans ( (show Xi U14 962 (Xi S 904 93).toNat = Xi U13 962 (Xi S 904 93).toNat from by rw [eU14]; exact Xi_ne (by omega)).trans ((show Xi U13 962 (Xi S 904 93).toNat = Xi S 962 (Xi S 904 93).toNat from by rw [eU13]; exact Xi_ne (by omega)))))))))))))
                  have w686 : Xi U35 904 100 = Xi T33 904 100 := (show Xi U35 904 100 = Xi U34 904 100 from by rw [eU35]; exact Xi_ne (by omega)).trans ((show Xi U34 904 100 = Xi T33 904 100 from by rw [eU34]; exact Xi_ne (by omega)))
                  have w687 : 0 ≤ Xi T33 904 100 ∧ Xi T33 904 100 ≤ 2 := hHT33.c _ _
                  have w688 : Xi U35 904 101 = Xi T33 904 101 := (show Xi U35 904 101 = Xi U34 904 101 from by rw [eU35]; exact Xi_ne (by omega)).trans ((show Xi U34 904 101 = Xi T33 904 101 from by rw [eU34]; exact Xi_ne (by omega)))
                  have w689 : 0 ≤ Xi T33 904 101 ∧ Xi T33 904 101 ≤ 5010 := hHT33.c _ _
                  have w690 : Xi U35 904 65 = Xi T33 904 65 := (show Xi U35 904 65 = Xi U34 904 65 from by rw [eU35]; exact Xi_ne (by omega)).trans ((show Xi U34 904 65 = Xi T33 904 65 from by rw [eU34]; exact Xi_ne (by omega)))
                  have w691 : 0 ≤ Xi T33 904 65 ∧ Xi T33 904 65 ≤ 1 := hHT33.c _ _
                  have w692 : Xi U35 904 69 = Xi T33 904 69 := (show Xi U35 904 69 = Xi U34 904 69 from by rw [eU35]; exact Xi_ne (by omega)).trans ((show Xi U34 904 69 = Xi T33 904 69 from by rw [eU34]; exact Xi_ne (by omega)))
                  have w693 : 0 ≤ Xi T33 904 69 ∧ Xi T33 904 69 ≤ 2600 := hHT33.c _ _
                  have w694 : Xi U35 904 8 = Xi T33 904 8 := (show Xi U35 904 8 = Xi U34 904 8 from by rw [eU35]; exact Xi_ne (by omega)).trans ((show Xi U34 904 8 = Xi T33 904 8 from by rw [eU34]; exact Xi_ne (by omega)))
                  have w695 : 0 ≤ Xi T33 904 8 ∧ Xi T33 904 8 ≤ 5010 := hHT33.c _ _
                  have w696 : Xi U35 904 93 = Xi S 904 93 := (show Xi U35 904 93 = Xi U34 904 93 from by rw [eU35]; exact Xi_ne (by omega)).trans ( (show Xi U34 904 93 = Xi T33 904 93 from by rw [eU34]; exact Xi_ne (by omega)).trans ( (show Xi T33 904 93 = Xi U32 904 93 from w671.x _ _ rfl).trans ( (show Xi U32 904 93 = Xi T31 904 93 from by rw [eU32]; exact Xi_ne (by omega)).trans ( (show Xi T31 904 93 = Xi U30 904 93 from w649.x _ _ rfl).trans ( (show Xi U30 904 93 = Xi U29 904 93 from by rw [eU30]; exact Xi_ne (by omega)).trans ( (show Xi U29 904 93 = Xi U17 904 93 from by rw [eU29]; exact Xi_ne (by omega)).trans ( (show Xi U17 904 93 = Xi T16 904 93 from by rw [eU17]; exact Xi_ne (by omega)).trans ( (show Xi T16 904 93 = Xi T15 904 93 from w411.x _ _ rfl).trans ( (show Xi T15 904 93 = Xi U14 904 93 from w397.x _ _ rfl).trans ( (show Xi U14 904 93 = Xi U13 904 93 from by rw [eU14]; exact Xi_ne (by omega)).trans ((show Xi U13 904 93 = Xi S 904 93 from by rw [eU13]; exact Xi_ne (by omega)))))))))))))
                  have w697 : 0 ≤ Xi S 904 93 ∧ Xi S 904 93 ≤ 1700 := hH.c _ _
                  have w698 : Xi U35 904 99 = Xi T33 904 99 := (show Xi U35 904 99 = Xi U34 904 99 from by rw [eU35]; exact Xi_ne (by omega)).trans ((show Xi U34 904 99 = Xi T33 904 99 from by rw [eU34]; exact Xi_ne (by omega)))
                  have w699 : 0 ≤ Xi T33 904 99 ∧ Xi T33 904 99 ≤ 2600 := hHT33.c _ _
                  exact Rl_weak (C351 U35 hHU35 hFU35  (by first | assumption | exact (AT_FR (FR_e eU35) rfl (AT_FR (FR_e eU34) rfl (by assumption : AT T33 _ _)))) (by first | assumption | exact (RNV_FR (FR_e eU35) rfl (RNV_FR (FR_e eU34) rfl (by assumption : RNV T33 _)))) (by omega) (by omega) (by omega) (by omega) (by omega) (by omega) ((KT.w (KT.w (KT_FR w671 rfl (KT.w (KT_FR w649 rfl (KT.w (KT_FR (FR_e eU29) rfl (KT.w (KT_FR w411 rfl (KT.tr (KT.w (KT.w KT.rf eU13 (by omega)) eU14 (by omega)) (by assumption : KT T15 U14 _) (by omega))) eU17 (by omega))) eU30 (by omega))) eU32 (by omega))) eU34 (by omega)) eU35 (by omega))) (by first | exact (fun _ q => tvx_2 (w187 q).1 (thv_c (h176 (by omega)) (by omega) (by omega) (by omega)) (by have t := p172 (by omega); omega) (w187 q).2.1 (W187 q)) w187 | exact (fun _ q => tvx_3 (by omega) (thv_c (h194 (by omega)) (by omega) (by omega) (by omega)) (by omega)) r271 | exact (fun _ q => tvx_4 (by omega) (thv_c (h194 (by omega)) (by omega) (by omega) (by omega)) (thv_i (s := Xi U35 904 100) (t := Xi U35 904 101) (r := Xi U35 904 99) (by omega) (by omega) (by omega) (by omega) (by omega) (by omega) (by omega))) o313 | exact (fun _ q => tvx_5 (by omega)) A96 | exact fun q => absurd q (by omega))) (And.intro rfl (And.intro rfl (True.intro)))
                · refine l_aload_n rfl rfl ?_
                  have w700 : Xi U29 904 100 = Xi T15 904 100 := (show Xi U29 904 100 = Xi U17 904 100 from by rw [eU29]; exact Xi_ne (by omega)).trans ( (show Xi U17 904 100 = Xi T16 904 100 from by rw [eU17]; exact Xi_ne (by omega)).trans ((show Xi T16 904 100 = Xi T15 904 100 from w411.x _ _ rfl)))
                  have w701 : 0 ≤ Xi T15 904 100 ∧ Xi T15 904 100 ≤ 2 := hHT15.c _ _
                  have w702 : Xi U29 904 101 = Xi T15 904 101 := (show Xi U29 904 101 = Xi U17 904 101 from by rw [eU29]; exact Xi_ne (by omega)).trans ( (show Xi U17 904 101 = Xi T16 904 101 from by rw [eU17]; exact Xi_ne (by omega)).trans ((show Xi T16 904 101 = Xi T15 904 101 from w411.x _ _ rfl)))
                  have w703 : 0 ≤ Xi T15 904 101 ∧ Xi T15 904 101 ≤ 5010 := hHT15.c _ _
                  have w704 : Xi U29 904 65 = Xi T16 904 65 := (show Xi U29 904 65 = Xi U17 904 65 from by rw [eU29]; exact Xi_ne (by omega)).trans ((show Xi U17 904 65 = Xi T16 904 65 from by rw [eU17]; exact Xi_ne (by omega)))
                  have w705 : 0 ≤ Xi T16 904 65 ∧ Xi T16 904 65 ≤ 1 := hHT16.c _ _
                  have w706 : Xi U29 904 69 = Xi T15 904 69 := (show Xi U29 904 69 = Xi U17 904 69 from by rw [eU29]; exact Xi_ne (by omega)).trans ( (show Xi U17 904 69 = Xi T16 904 69 from by rw [eU17]; exact Xi_ne (by omega)).trans ((show Xi T16 904 69 = Xi T15 904 69 from w411.x _ _ rfl)))
                  have w707 : 0 ≤ Xi T15 904 69 ∧ Xi T15 904 69 ≤ 2600 := hHT15.c _ _
                  have w708 : 0 ≤ Xi U29 904 8 ∧ Xi U29 904 8 ≤ 5010 := hHU29.c _ _
                  have w709 : Xi U29 904 93 = Xi S 904 93 := (show Xi U29 904 93 = Xi U17 904 93 from by rw [eU29]; exact Xi_ne (by omega)).trans ( (show Xi U17 904 93 = Xi T16 904 93 from by rw [eU17]; exact Xi_ne (by omega)).trans ( (show Xi T16 904 93 = Xi T15 904 93 from w411.x _ _ rfl).trans ( (show Xi T15 904 93 = Xi U14 904 93 from w397.x _ _ rfl).trans ( (show Xi U14 904 93 = Xi U13 904 93 from by rw [eU14]; exact Xi_ne (by omega)).trans ((show Xi U13 904 93 = Xi S 904 93 from by rw [eU13]; exact Xi_ne (by omega)))))))
                  have w710 : 0 ≤ Xi S 904 93 ∧ Xi S 904 93 ≤ 1700 := hH.c _ _
                  have w711 : Xi U29 904 99 = Xi T15 904 99 := (show Xi U29 904 99 = Xi U17 904 99 from by rw [eU29]; exact Xi_ne (by omega)).trans ( (show Xi U17 904 99 = Xi T16 904 99 from by rw [eU17]; exact Xi_ne (by omega)).trans ((show Xi T16 904 99 = Xi T15 904 99 from w411.x _ _ rfl)))
                  have w712 : 0 ≤ Xi T15 904 99 ∧ Xi T15 904 99 ≤ 2600 := hHT15.c _ _
                  refine l_callV rfl rfl rfl (t_mo_odd hHU29 _) ?_
                  rintro _ T36 ⟨hHT36, w716, rfl, w713, w714⟩
                  have hFT36 : FR md_mo_test S T36 := FR.tr hFU29 w716 rfl
                  show Rl _ _ _ _ _ [] _ _
                  refine l_goto rfl rfl ?_
                  have w717 : Xi T36 952 (Xi S 904 93).toNat = Xi S 952 (Xi S 904 93).toNat := (show Xi T36 952 (Xi S 904 93).toNat = Xi U29 952 (Xi S 904 93).toNat from (w716.cx 952 rfl _).1).trans ( (show Xi U29 952 (Xi S 904 93).toNat = Xi U17 952 (Xi S 904 93).toNat from by rw [eU29]; exact Xi_ne (by omega)).trans ( (show Xi U17 952 (Xi S 904 93).toNat = Xi T16 952 (Xi S 904 93).toNat from by rw [eU17]; exact Xi_ne (by omega)).trans ( (show Xi T16 952 (Xi S 904 93).toNat = Xi T15 952 (Xi S 904 93).toNat from (w411.cx 952 rfl _).1).trans ( (show Xi T15 952 (Xi S 904 93).toNat = Xi U14 952 (Xi S 904 93).toNat from (w397.cx 952 rfl _).1).trans ( (show Xi U14 952 (Xi S 904 93).toNat = Xi U13 952 (Xi S 904 93).toNat from by rw [eU14]; exact Xi_ne (by omega)).trans ((show Xi U13 952 (Xi S 904 93).toNat = Xi S 952 (Xi S 904 93).toNat from by rw [eU13]; exact Xi_ne (by omega))))))))
                  have w718 : Xi T36 954 (Xi S 904 93).toNat = Xi T15 954 (Xi S 904 93).toNat := (show Xi T36 954 (Xi S 904 93).toNat = Xi U29 954 (Xi S 904 93).toNat from (w716.cx 954 rfl _).1).trans ( (show Xi U29 954 (Xi S 904 93).toNat = Xi U17 954 (Xi S 904 93).toNat from by rw [eU29]; exact Xi_ne (by omega)).trans ( (show Xi U17 954 (Xi S 904 93).toNat = Xi T16 954 (Xi S 904 93).toNat from by rw [eU17]; exact Xi_ne (by omega)).trans ((show Xi T16 954 (Xi S 904 93).toNat = Xi T15 954 (Xi S 904 93).toNat from (w411.cx 954 rfl _).1))))
                  have w719 : Xi T36 955 (Xi S 904 93).toNat = Xi T15 955 (Xi S 904 93).toNat := (show Xi T36 955 (Xi S 904 93).toNat = Xi U29 955 (Xi S 904 93).toNat from (w716.cx 955 rfl _).1).trans ( (show Xi U29 955 (Xi S 904 93).toNat = Xi U17 955 (Xi S 904 93).toNat from by rw [eU29]; exact Xi_ne (by omega)).trans ( (show Xi U17 955 (Xi S 904 93).toNat = Xi T16 955 (Xi S 904 93).toNat from by rw [eU17]; exact Xi_ne (by omega)).trans ((show Xi T16 955 (Xi S 904 93).toNat = Xi T15 955 (Xi S 904 93).toNat from (w411.cx 955 rfl _).1))))
                  have w720 : Xi T36 956 (Xi S 904 93).toNat = Xi S 956 (Xi S 904 93).toNat := (show Xi T36 956 (Xi S 904 93).toNat = Xi U29 956 (Xi S 904 93).toNat from (w716.cx 956 rfl _).1).trans ( (show Xi U29 956 (Xi S 904 93).toNat = Xi U17 956 (Xi S 904 93).toNat from by rw [eU29]; exact Xi_ne (by omega)).trans ( (show Xi U17 956 (Xi S 904 93).toNat = Xi T16 956 (Xi S 904 93).toNat from by rw [eU17]; exact Xi_ne (by omega)).trans ( (show Xi T16 956 (Xi S 904 93).toNat = Xi T15 956 (Xi S 904 93).toNat from (w411.cx 956 rfl _).1).trans ( (show Xi T15 956 (Xi S 904 93).toNat = Xi U14 956 (Xi S 904 93).toNat from (w397.cx 956 rfl _).1).trans ( (show Xi U14 956 (Xi S 904 93).toNat = Xi U13 956 (Xi S 904 93).toNat from by rw [eU14]; exact Xi_ne (by omega)).trans ((show Xi U13 956 (Xi S 904 93).toNat = Xi S 956 (Xi S 904 93).toNat from by rw [eU13]; exact Xi_ne (by omega))))))))
                  have w721 : Xi T36 959 (Xi S 904 93).toNat = Xi S 959 (Xi S 904 93).toNat := (show Xi T36 959 (Xi S 904 93).toNat = Xi U29 959 (Xi S 904 93).toNat from (w716.cx 959 rfl _).1).trans ( (show Xi U29 959 (Xi S 904 93).toNat = Xi U17 959 (Xi S 904 93).toNat from by rw [eU29]; exact Xi_ne (by omega)).trans ( (show Xi U17 959 (Xi S 904 93).toNat = Xi T16 959 (Xi S 904 93).toNat from by rw [eU17]; exact Xi_ne (by omega)).trans ( (show Xi T16 959 (Xi S 904 93).toNat = Xi T15 959 (Xi S 904 93).toNat from (w411.cx 959 rfl _).1).trans ( (show Xi T15 959 (Xi S 904 93).toNat = Xi U14 959 (Xi S 904 93).toNat from (w397.cx 959 rfl _).1).trans ( (show Xi U14 959 (Xi S 904 93).toNat = Xi U13 959 (Xi S 904 93).toNat from by rw [eU14]; exact Xi_ne (by omega)).trans ((show Xi U13 959 (Xi S 904 93).toNat = Xi S 959 (Xi S 904 93).toNat from by rw [eU13]; exact Xi_ne (by omega))))))))
                  have w722 : Xi T36 961 (Xi S 904 93).toNat = Xi U13 961 (Xi S 904 93).toNat := (show Xi T36 961 (Xi S 904 93).toNat = Xi U29 961 (Xi S 904 93).toNat from (w716.cx 961 rfl _).1).trans ( (show Xi U29 961 (Xi S 904 93).toNat = Xi U17 961 (Xi S 904 93).toNat from by rw [eU29]; exact Xi_ne (by omega)).trans ( (show Xi U17 961 (Xi S 904 93).toNat = Xi T16 961 (Xi S 904 93).toNat from by rw [eU17]; exact Xi_ne (by omega)).trans ( (show Xi T16 961 (Xi S 904 93).toNat = Xi T15 961 (Xi S 904 93).toNat from (w411.cx 961 rfl _).1).trans ( (show Xi T15 961 (Xi S 904 93).toNat = Xi U14 961 (Xi S 904 93).toNat from (w397.cx 961 rfl _).1).trans ((show Xi U14 961 (Xi S 904 93).toNat = Xi U13 961 (Xi S 904 93).toNat from by rw [eU14]; exact Xi_ne (by omega)))))))
                  have w723 : Xi T36 962 (Xi S 904 93).toNat = Xi S 962 (Xi S 904 93).toNat := (show Xi T36 962 (Xi S 904 93).toNat = Xi U29 962 (Xi S 904 93).toNat from (w716.cx 962 rfl _).1).trans ( (show Xi U29 962 (Xi S 904 93).toNat = Xi U17 962 (Xi S 904 93).toNat from by rw [eU29]; exact Xi_ne (by omega)).trans ( (show Xi U17 962 (Xi S 904 93).toNat = Xi T16 962 (Xi S 904 93).toNat from by rw [eU17]; exact Xi_ne (by omega)).trans ( (show Xi T16 962 (Xi S 904 93).toNat = Xi T15 962 (Xi S 904 93).toNat from (w411.cx 962 rfl _).1).trans ( (show Xi T15 962 (Xi S 904 93).toNat = Xi U14 962 (Xi S 904 93).toNat from (w397.cx 962 rfl _).1).trans ( (show Xi U14 962 (Xi S 904 93).toNat = Xi U13 962 (Xi S 904 93).toNat from by rw [eU14]; exact Xi_ne (by omega)).trans ((show Xi U13 962 (Xi S 904 93).toNat = Xi S 962 (Xi S 904 93).toNat from by rw [eU13]; exact Xi_ne (by omega))))))))
                  have w724 : Xi T36 904 100 = Xi T15 904 100 := (show Xi T36 904 100 = Xi U29 904 100 from w716.x _ _ rfl).trans ( (show Xi U29 904 100 = Xi U17 904 100 from by rw [eU29]; exact Xi_ne (by omega)).trans ( (show Xi U17 904 100 = Xi T16 904 100 from by rw [eU17]; exact Xi_ne (by omega)).trans ((show Xi T16 904 100 = Xi T15 904 100 from w411.x _ _ rfl))))
                  have w725 : 0 ≤ Xi T15 904 100 ∧ Xi T15 904 100 ≤ 2 := hHT15.c _ _
                  have w726 : Xi T36 904 101 = Xi T15 904 101 := (show Xi T36 904 101 = Xi U29 904 101 from w716.x _ _ rfl).trans ( (show Xi U29 904 101 = Xi U17 904 101 from by rw [eU29]; exact Xi_ne (by omega)).trans ( (show Xi U17 904 101 = Xi T16 904 101 from by rw [eU17]; exact Xi_ne (by omega)).trans ((show Xi T16 904 101 = Xi T15 904 101 from w411.x _ _ rfl))))
                  have w727 : 0 ≤ Xi T15 904 101 ∧ Xi T15 904 101 ≤ 5010 := hHT15.c _ _
                  have w728 : 0 ≤ Xi T36 904 65 ∧ Xi T36 904 65 ≤ 1 := hHT36.c _ _
                  have w729 : Xi T36 904 69 = Xi T15 904 69 := (show Xi T36 904 69 = Xi U29 904 69 from w716.x _ _ rfl).trans ( (show Xi U29 904 69 = Xi U17 904 69 from by rw [eU29]; exact Xi_ne (by omega)).trans ( (show Xi U17 904 69 = Xi T16 904 69 from by rw [eU17]; exact Xi_ne (by omega)).trans ((show Xi T16 904 69 = Xi T15 904 69 from w411.x _ _ rfl))))
                  have w730 : 0 ≤ Xi T15 904 69 ∧ Xi T15 904 69 ≤ 2600 := hHT15.c _ _
                  have w731 : Xi T36 904 8 = Xi U29 904 8 := (show Xi T36 904 8 = Xi U29 904 8 from w716.x _ _ rfl)
                  have w732 : 0 ≤ Xi U29 904 8 ∧ Xi U29 904 8 ≤ 5010 := hHU29.c _ _
                  have w733 : Xi T36 904 93 = Xi S 904 93 := (show Xi T36 904 93 = Xi U29 904 93 from w716.x _ _ rfl).trans ( (show Xi U29 904 93 = Xi U17 904 93 from by rw [eU29]; exact Xi_ne (by omega)).trans ( (show Xi U17 904 93 = Xi T16 904 93 from by rw [eU17]; exact Xi_ne (by omega)).trans ( (show Xi T16 904 93 = Xi T15 904 93 from w411.x _ _ rfl).trans ( (show Xi T15 904 93 = Xi U14 904 93 from w397.x _ _ rfl).trans ( (show Xi U14 904 93 = Xi U13 904 93 from by rw [eU14]; exact Xi_ne (by omega)).trans ((show Xi U13 904 93 = Xi S 904 93 from by rw [eU13]; exact Xi_ne (by omega))))))))
                  have w734 : 0 ≤ Xi S 904 93 ∧ Xi S 904 93 ≤ 1700 := hH.c _ _
                  have w735 : Xi T36 904 99 = Xi T15 904 99 := (show Xi T36 904 99 = Xi U29 904 99 from w716.x _ _ rfl).trans ( (show Xi U29 904 99 = Xi U17 904 99 from by rw [eU29]; exact Xi_ne (by omega)).trans ( (show Xi U17 904 99 = Xi T16 904 99 from by rw [eU17]; exact Xi_ne (by omega)).trans ((show Xi T16 904 99 = Xi T15 904 99 from w411.x _ _ rfl))))
                  have w736 : 0 ≤ Xi T15 904 99 ∧ Xi T15 904 99 ≤ 2600 := hHT15.c _ _
                  exact Rl_weak (C351 T36 hHT36 hFT36  (by first | assumption | exact (by assumption : AT T36 _ _)) (by first | assumption | exact (RNV_FR w716 rfl (RNV_FR (FR_e eU29) rfl (RNV_FR (FR_e eU17) rfl (RNV_FR w411 rfl (by assumption : RNV T15 _)))))) (by omega) (by omega) (by omega) (by omega) (by omega) (by omega) ((KT_FR w716 rfl (KT_FR (FR_e eU29) rfl (KT.w (KT_FR w411 rfl (KT.tr (KT.w (KT.w KT.rf eU13 (by omega)) eU14 (by omega)) (by assumption : KT T15 U14 _) (by omega))) eU17 (by omega))))) (by first | exact (fun _ q => tvx_2 (w187 q).1 (thv_c (h176 (by omega)) (by omega) (by omega) (by omega)) (by have t := p172 (by omega); omega) (w187 q).2.1 (W187 q)) w187 | exact (fun _ q => tvx_3 (by omega) (thv_c (h194 (by omega)) (by omega) (by omega) (by omega)) (by omega)) r271 | exact (fun _ q => tvx_4 (by omega) (thv_c (h194 (by omega)) (by omega) (by omega) (by omega)) (thv_i (s := Xi T36 904 100) (t := Xi T36 904 101) (r := Xi T36 904 99) (by omega) (by omega) (by omega) (by omega) (by omega) (by omega) (by omega))) o313 | exact (fun _ q => tvx_5 (by omega)) A96 | exact fun q => absurd q (by omega))) (And.intro rfl (And.intro rfl (True.intro)))
              · refine l_aload_n rfl rfl ?_
                refine l_gfr rfl rfl rfl rfl rfl (hHU29.r 904 82 952 rfl) ?_
                refine l_aload_n rfl rfl ?_
                refine l_gfi rfl rfl rfl rfl rfl ?_
                have w737 : (Xi U29 904 93) = (Xi S 904 93) := (show Xi U29 904 93 = Xi U17 904 93 from by rw [eU29]; exact Xi_ne (by omega)).trans ( (show Xi U17 904 93 = Xi T16 904 93 from by rw [eU17]; exact Xi_ne (by omega)).trans ( (show Xi T16 904 93 = Xi T15 904 93 from w411.x _ _ rfl).trans ( (show Xi T15 904 93 = Xi U14 904 93 from w397.x _ _ rfl).trans ( (show Xi U14 904 93 = Xi U13 904 93 from by rw [eU14]; exact Xi_ne (by omega)).trans ((show Xi U13 904 93 = Xi S 904 93 from by rw [eU13]; exact Xi_ne (by omega)))))))
                rw [w737]
                refine l_iconst rfl ?_
                refine l_iastore (n := 1700) rfl rfl (by omega) (by omega) (by unfold rg; omega) ?_
                obtain ⟨U37, eU37⟩ : ∃ T : sS, T = uI U29 952 (((Xi S 904 93)).toNat) (Int32.ofInt 3) := ⟨_, rfl⟩
                rw [← eU37]
                have hHU37 : HI U37 := by rw [eU37]; exact HI_w hHU29 (show 0 ≤ 3 by omega) (show 3 ≤ 5 by omega)
                have hFU37 : FR md_mo_test S U37 := by rw [eU37]; exact FR.wI hFU29 (mdf_i (r := (952, 953, 0, 100000)) (List.mem_of_getElem? (i := 11) rfl) (inR_i (by omega) (by omega) (by omega) (by omega)))
                have w738 : Xi U37 952 (((Xi S 904 93)).toNat) = 3 := by rw [eU37]; exact Xi_same (by unfold rg; omega)
                refine l_aload_n rfl rfl ?_
                refine l_gfr rfl rfl rfl rfl rfl (hHU37.r 904 86 956 rfl) ?_
                refine l_aload_n rfl rfl ?_
                refine l_gfi rfl rfl rfl rfl rfl ?_
                have w739 : (Xi U37 904 93) = (Xi S 904 93) := (show Xi U37 904 93 = Xi U29 904 93 from by rw [eU37]; exact Xi_ne (by omega)).trans ( (show Xi U29 904 93 = Xi U17 904 93 from by rw [eU29]; exact Xi_ne (by omega)).trans ( (show Xi U17 904 93 = Xi T16 904 93 from by rw [eU17]; exact Xi_ne (by omega)).trans ( (show Xi T16 904 93 = Xi T15 904 93 from w411.x _ _ rfl).trans ( (show Xi T15 904 93 = Xi U14 904 93 from w397.x _ _ rfl).trans ( (show Xi U14 904 93 = Xi U13 904 93 from by rw [eU14]; exact Xi_ne (by omega)).trans ((show Xi U13 904 93 = Xi S 904 93 from by rw [eU13]; exact Xi_ne (by omega))))))))
                rw [w739]
                refine l_aload_n rfl rfl ?_
                have w740 : Xi U37 904 100 = Xi T15 904 100 := (show Xi U37 904 100 = Xi U29 904 100 from by rw [eU37]; exact Xi_ne (by omega)).trans ( (show Xi U29 904 100 = Xi U17 904 100 from by rw [eU29]; exact Xi_ne (by omega)).trans ( (show Xi U17 904 100 = Xi T16 904 100 from by rw [eU17]; exact Xi_ne (by omega)).trans ((show Xi T16 904 100 = Xi T15 904 100 from w411.x _ _ rfl))))
                have w741 : 0 ≤ Xi T15 904 100 ∧ Xi T15 904 100 ≤ 2 := hHT15.c _ _
                have w742 : Xi U37 904 101 = Xi T15 904 101 := (show Xi U37 904 101 = Xi U29 904 101 from by rw [eU37]; exact Xi_ne (by omega)).trans ( (show Xi U29 904 101 = Xi U17 904 101 from by rw [eU29]; exact Xi_ne (by omega)).trans ( (show Xi U17 904 101 = Xi T16 904 101 from by rw [eU17]; exact Xi_ne (by omega)).trans ((show Xi T16 904 101 = Xi T15 904 101 from w411.x _ _ rfl))))
                have w743 : 0 ≤ Xi T15 904 101 ∧ Xi T15 904 101 ≤ 5010 := hHT15.c _ _
                have w744 : Xi U37 904 65 = Xi T16 904 65 := (show Xi U37 904 65 = Xi U29 904 65 from by rw [eU37]; exact Xi_ne (by omega)).trans ( (show Xi U29 904 65 = Xi U17 904 65 from by rw [eU29]; exact Xi_ne (by omega)).trans ((show Xi U17 904 65 = Xi T16 904 65 from by rw [eU17]; exact Xi_ne (by omega))))
                have w745 : 0 ≤ Xi T16 904 65 ∧ Xi T16 904 65 ≤ 1 := hHT16.c _ _
                have w746 : Xi U37 904 69 = Xi T15 904 69 := (show Xi U37 904 69 = Xi U29 904 69 from by rw [eU37]; exact Xi_ne (by omega)).trans ( (show Xi U29 904 69 = Xi U17 904 69 from by rw [eU29]; exact Xi_ne (by omega)).trans ( (show Xi U17 904 69 = Xi T16 904 69 from by rw [eU17]; exact Xi_ne (by omega)).trans ((show Xi T16 904 69 = Xi T15 904 69 from w411.x _ _ rfl))))
                have w747 : 0 ≤ Xi T15 904 69 ∧ Xi T15 904 69 ≤ 2600 := hHT15.c _ _
                have w748 : Xi U37 904 8 = Xi U29 904 8 := (show Xi U37 904 8 = Xi U29 904 8 from by rw [eU37]; exact Xi_ne (by omega))
                have w749 : 0 ≤ Xi U29 904 8 ∧ Xi U29 904 8 ≤ 5010 := hHU29.c _ _
                have w750 : Xi U37 904 93 = Xi S 904 93 := (show Xi U37 904 93 = Xi U29 904 93 from by rw [eU37]; exact Xi_ne (by omega)).trans ( (show Xi U29 904 93 = Xi U17 904 93 from by rw [eU29]; exact Xi_ne (by omega)).trans ( (show Xi U17 904 93 = Xi T16 904 93 from by rw [eU17]; exact Xi_ne (by omega)).trans ( (show Xi T16 904 93 = Xi T15 904 93 from w411.x _ _ rfl).trans ( (show Xi T15 904 93 = Xi U14 904 93 from w397.x _ _ rfl).trans ( (show Xi U14 904 93 = Xi U13 904 93 from by rw [eU14]; exact Xi_ne (by omega)).trans ((show Xi U13 904 93 = Xi S 904 93 from by rw [eU13]; exact Xi_ne (by omega))))))))
                have w751 : 0 ≤ Xi S 904 93 ∧ Xi S 904 93 ≤ 1700 := hH.c _ _
                have w752 : Xi U37 904 99 = Xi T15 904 99 := (show Xi U37 904 99 = Xi U29 904 99 from by rw [eU37]; exact Xi_ne (by omega)).trans ( (show Xi U29 904 99 = Xi U17 904 99 from by rw [eU29]; exact Xi_ne (by omega)).trans ( (show Xi U17 904 99 = Xi T16 904 99 from by rw [eU17]; exact Xi_ne (by omega)).trans ((show Xi T16 904 99 = Xi T15 904 99 from w411.x _ _ rfl))))
                have w753 : 0 ≤ Xi T15 904 99 ∧ Xi T15 904 99 ≤ 2600 := hHT15.c _ _
                refine l_callV rfl rfl rfl (t_mo_run hHU37 n c (by first | assumption | exact (TK_FR hFU37 rfl (by assumption : TK S _))) (by first | assumption | exact (AT_FR (FR_e eU37) rfl (by assumption : AT U29 _ _))) (by first | assumption | exact (RNV_FR (FR_e eU37) rfl (RNV_FR (FR_e eU29) rfl (RNV_FR (FR_e eU17) rfl (RNV_FR w411 rfl (by assumption : RNV T15 _)))))) _) ?_
                rintro _ T38 ⟨hHT38, w759, z758, rfl, w758, w754, w755, w756, r271, w757⟩
                have hFT38 : FR md_mo_test S T38 := FR.tr hFU37 w759 rfl
                show Rl _ _ _ _ _ [iv z758, iv (Xi S 904 93), .ref 956] _ _
                refine l_iastore (n := 1700) rfl rfl (by omega) (by omega) (by unfold rg; omega) ?_
                obtain ⟨U39, eU39⟩ : ∃ T : sS, T = uI T38 956 (((Xi S 904 93)).toNat) (Int32.ofInt z758) := ⟨_, rfl⟩
                rw [← eU39]
                have hHU39 : HI U39 := by rw [eU39]; exact HI_w hHT38 (show 0 ≤ z758 by omega) (show z758 ≤ 2600 by omega)
                have hFU39 : FR md_mo_test S U39 := by rw [eU39]; exact FR.wI hFT38 (mdf_i (r := (956, 957, 0, 100000)) (List.mem_of_getElem? (i := 15) rfl) (inR_i (by omega) (by omega) (by omega) (by omega)))
                have w760 : Xi U39 956 (((Xi S 904 93)).toNat) = z758 := by rw [eU39]; exact Xi_same (by unfold rg; omega)
                refine l_goto rfl rfl ?_
                have w761 : Xi U39 952 (Xi S 904 93).toNat = Xi U37 952 (Xi S 904 93).toNat := (show Xi U39 952 (Xi S 904 93).toNat = Xi T38 952 (Xi S 904 93).toNat from by rw [eU39]; exact Xi_ne (by omega)).trans ((show Xi T38 952 (Xi S 904 93).toNat = Xi U37 952 (Xi S 904 93).toNat from (w759.cx 952 rfl _).1))
                have w762 : Xi U39 954 (Xi S 904 93).toNat = Xi T15 954 (Xi S 904 93).toNat := (show Xi U39 954 (Xi S 904 93).toNat = Xi T38 954 (Xi S 904 93).toNat from by rw [eU39]; exact Xi_ne (by omega)).trans ( (show Xi T38 954 (Xi S 904 93).toNat = Xi U37 954 (Xi S 904 93).toNat from (w759.cx 954 rfl _).1).trans ( (show Xi U37 954 (Xi S 904 93).toNat = Xi U29 954 (Xi S 904 93).toNat from by rw [eU37]; exact Xi_ne (by omega)).trans ( (show Xi U29 954 (Xi S 904 93).toNat = Xi U17 954 (Xi S 904 93).toNat from by rw [eU29]; exact Xi_ne (by omega)).trans ( (show Xi U17 954 (Xi S 904 93).toNat = Xi T16 954 (Xi S 904 93).toNat from by rw [eU17]; exact Xi_ne (by omega)).trans ((show Xi T16 954 (Xi S 904 93).toNat = Xi T15 954 (Xi S 904 93).toNat from (w411.cx 954 rfl _).1))))))
                have w763 : Xi U39 955 (Xi S 904 93).toNat = Xi T15 955 (Xi S 904 93).toNat := (show Xi U39 955 (Xi S 904 93).toNat = Xi T38 955 (Xi S 904 93).toNat from by rw [eU39]; exact Xi_ne (by omega)).trans ( (show Xi T38 955 (Xi S 904 93).toNat = Xi U37 955 (Xi S 904 93).toNat from (w759.cx 955 rfl _).1).trans ( (show Xi U37 955 (Xi S 904 93).toNat = Xi U29 955 (Xi S 904 93).toNat from by rw [eU37]; exact Xi_ne (by omega)).trans ( (show Xi U29 955 (Xi S 904 93).toNat = Xi U17 955 (Xi S 904 93).toNat from by rw [eU29]; exact Xi_ne (by omega)).trans ( (show Xi U17 955 (Xi S 904 93).toNat = Xi T16 955 (Xi S 904 93).toNat from by rw [eU17]; exact Xi_ne (by omega)).trans ((show Xi T16 955 (Xi S 904 93).toNat = Xi T15 955 (Xi S 904 93).toNat from (w411.cx 955 rfl _).1))))))
                have w764 : Xi U39 959 (Xi S 904 93).toNat = Xi S 959 (Xi S 904 93).toNat := (show Xi U39 959 (Xi S 904 93).toNat = Xi T38 959 (Xi S 904 93).toNat from by rw [eU39]; exact Xi_ne (by omega)).trans ( (show Xi T38 959 (Xi S 904 93).toNat = Xi U37 959 (Xi S 904 93).toNat from (w759.cx 959 rfl _).1).trans ( (show Xi U37 959 (Xi S 904 93).toNat = Xi U29 959 (Xi S 904 93).toNat from by rw [eU37]; exact Xi_ne (by omega)).trans ( (show Xi U29 959 (Xi S 904 93).toNat = Xi U17 959 (Xi S 904 93).toNat from by rw [eU29]; exact Xi_ne (by omega)).trans ( (show Xi U17 959 (Xi S 904 93).toNat = Xi T16 959 (Xi S 904 93).toNat from by rw [eU17]; exact Xi_ne (by omega)).trans ( (show Xi T16 959 (Xi S 904 93).toNat = Xi T15 959 (Xi S 904 93).toNat from (w411.cx 959 rfl _).1).trans ( (show Xi T15 959 (Xi S 904 93).toNat = Xi U14 959 (Xi S 904 93).toNat from (w397.cx 959 rfl _).1).trans ( (show Xi U14 959 (Xi S 904 93).toNat = Xi U13 959 (Xi S 904 93).toNat from by rw [eU14]; exact Xi_ne (by omega)).trans ((show Xi U13 959 (Xi S 904 93).toNat = Xi S 959 (Xi S 904 93).toNat from by rw [eU13]; exact Xi_ne (by omega))))))))))
                have w765 : Xi U39 961 (Xi S 904 93).toNat = Xi U13 961 (Xi S 904 93).toNat := (show Xi U39 961 (Xi S 904 93).toNat = Xi T38 961 (Xi S 904 93).toNat from by rw [eU39]; exact Xi_ne (by omega)).trans ( (show Xi T38 961 (Xi S 904 93).toNat = Xi U37 961 (Xi S 904 93).toNat from (w759.cx 961 rfl _).1).trans ( (show Xi U37 961 (Xi S 904 93).toNat = Xi U29 961 (Xi S 904 93).toNat from by rw [eU37]; exact Xi_ne (by omega)).trans ( (show Xi U29 961 (Xi S 904 93).toNat = Xi U17 961 (Xi S 904 93).toNat from by rw [eU29]; exact Xi_ne (by omega)).trans ( (show Xi U17 961 (Xi S 904 93).toNat = Xi T16 961 (Xi S 904 93).toNat from by rw [eU17]; exact Xi_ne (by omega)).trans ( (show Xi T16 961 (Xi S 904 93).toNat = Xi T15 961 (Xi S 904 93).toNat from (w411.cx 961 rfl _).1).trans ( (show Xi T15 961 (Xi S 904 93).toNat = Xi U14 961 (Xi S 904 93).toNat from (w397.cx 961 rfl _).1).trans ((show Xi U14 961 (Xi S 904 93).toNat = Xi U13 961 (Xi S 904 93).toNat from by rw [eU14]; exact Xi_ne (by omega)))))))))
                have w766 : Xi U39 962 (Xi S 904 93).toNat = Xi S 962 (Xi S 904 93).toNat := (show Xi U39 962 (Xi S 904 93).toNat = Xi T38 962 (Xi S 904 93).toNat from by rw [eU39]; exact Xi_ne (by omega)).trans ( (show Xi T38 962 (Xi S 904 93).toNat = Xi U37 962 (Xi S 904 93).toNat from (w759.cx 962 rfl _).1).trans ( (show Xi U37 962 (Xi S 904 93).toNat = Xi U29 962 (Xi S 904 93).toNat from by rw [eU37]; exact Xi_ne (by omega)).trans ( (show Xi U29 962 (Xi S 904 93).toNat = Xi U17 962 (Xi S 904 93).toNat from by rw [eU29]; exact Xi_ne (by omega)).trans ( (show Xi U17 962 (Xi S 904 93).toNat = Xi T16 962 (Xi S 904 93).toNat from by rw [eU17]; exact Xi_ne (by omega)).trans ( (show Xi T16 962 (Xi S 904 93).toNat = Xi T15 962 (Xi S 904 93).toNat from (w411.cx 962 rfl _).1).trans ( (show Xi T15 962 (Xi S 904 93).toNat = Xi U14 962 (Xi S 904 93).toNat from (w397.cx 962 rfl _).1).trans ( (show Xi U14 962 (Xi S 904 93).toNat = Xi U13 962 (Xi S 904 93).toNat from by rw [eU14]; exact Xi_ne (by omega)).trans ((show Xi U13 962 (Xi S 904 93).toNat = Xi S 962 (Xi S 904 93).toNat from by rw [eU13]; exact Xi_ne (by omega))))))))))
                have w767 : Xi U39 904 100 = Xi T15 904 100 := (show Xi U39 904 100 = Xi T38 904 100 from by rw [eU39]; exact Xi_ne (by omega)).trans ( (show Xi T38 904 100 = Xi U37 904 100 from w759.x _ _ rfl).trans ( (show Xi U37 904 100 = Xi U29 904 100 from by rw [eU37]; exact Xi_ne (by omega)).trans ( (show Xi U29 904 100 = Xi U17 904 100 from by rw [eU29]; exact Xi_ne (by omega)).trans ( (show Xi U17 904 100 = Xi T16 904 100 from by rw [eU17]; exact Xi_ne (by omega)).trans ((show Xi T16 904 100 = Xi T15 904 100 from w411.x _ _ rfl))))))
                have w768 : 0 ≤ Xi T15 904 100 ∧ Xi T15 904 100 ≤ 2 := hHT15.c _ _
                have w769 : Xi U39 904 101 = Xi T15 904 101 := (show Xi U39 904 101 = Xi T38 904 101 from by rw [eU39]; exact Xi_ne (by omega)).trans ( (show Xi T38 904 101 = Xi U37 904 101 from w759.x _ _ rfl).trans ( (show Xi U37 904 101 = Xi U29 904 101 from by rw [eU37]; exact Xi_ne (by omega)).trans ( (show Xi U29 904 101 = Xi U17 904 101 from by rw [eU29]; exact Xi_ne (by omega)).trans ( (show Xi U17 904 101 = Xi T16 904 101 from by rw [eU17]; exact Xi_ne (by omega)).trans ((show Xi T16 904 101 = Xi T15 904 101 from w411.x _ _ rfl))))))
                have w770 : 0 ≤ Xi T15 904 101 ∧ Xi T15 904 101 ≤ 5010 := hHT15.c _ _
                have w771 : Xi U39 904 65 = Xi T38 904 65 := (show Xi U39 904 65 = Xi T38 904 65 from by rw [eU39]; exact Xi_ne (by omega))
                have w772 : 0 ≤ Xi T38 904 65 ∧ Xi T38 904 65 ≤ 1 := hHT38.c _ _
                have w773 : Xi U39 904 69 = Xi T38 904 69 := (show Xi U39 904 69 = Xi T38 904 69 from by rw [eU39]; exact Xi_ne (by omega))
                have w774 : 0 ≤ Xi T38 904 69 ∧ Xi T38 904 69 ≤ 2600 := hHT38.c _ _
                have w775 : Xi U39 904 8 = Xi T38 904 8 := (show Xi U39 904 8 = Xi T38 904 8 from by rw [eU39]; exact Xi_ne (by omega))
                have w776 : 0 ≤ Xi T38 904 8 ∧ Xi T38 904 8 ≤ 5010 := hHT38.c _ _
                have w777 : Xi U39 904 93 = Xi S 904 93 := (show Xi U39 904 93 = Xi T38 904 93 from by rw [eU39]; exact Xi_ne (by omega)).trans ( (show Xi T38 904 93 = Xi U37 904 93 from w759.x _ _ rfl).trans ( (show Xi U37 904 93 = Xi U29 904 93 from by rw [eU37]; exact Xi_ne (by omega)).trans ( (show Xi U29 904 93 = Xi U17 904 93 from by rw [eU29]; exact Xi_ne (by omega)).trans ( (show Xi U17 904 93 = Xi T16 904 93 from by rw [eU17]; exact Xi_ne (by omega)).trans ( (show Xi T16 904 93 = Xi T15 904 93 from w411.x _ _ rfl).trans ( (show Xi T15 904 93 = Xi U14 904 93 from w397.x _ _ rfl).trans ( (show Xi U14 904 93 = Xi U13 904 93 from by rw [eU14]; exact Xi_ne (by omega)).trans ((show Xi U13 904 93 = Xi S 904 93 from by rw [eU13]; exact Xi_ne (by omega))))))))))
                have w778 : 0 ≤ Xi S 904 93 ∧ Xi S 904 93 ≤ 1700 := hH.c _ _
                have w779 : Xi U39 904 99 = Xi T15 904 99 := (show Xi U39 904 99 = Xi T38 904 99 from by rw [eU39]; exact Xi_ne (by omega)).trans ( (show Xi T38 904 99 = Xi U37 904 99 from w759.x _ _ rfl).trans ( (show Xi U37 904 99 = Xi U29 904 99 from by rw [eU37]; exact Xi_ne (by omega)).trans ( (show Xi U29 904 99 = Xi U17 904 99 from by rw [eU29]; exact Xi_ne (by omega)).trans ( (show Xi U17 904 99 = Xi T16 904 99 from by rw [eU17]; exact Xi_ne (by omega)).trans ((show Xi T16 904 99 = Xi T15 904 99 from w411.x _ _ rfl))))))
                have w780 : 0 ≤ Xi T15 904 99 ∧ Xi T15 904 99 ≤ 2600 := hHT15.c _ _
                exact Rl_weak (C351 U39 hHU39 hFU39  (by first | assumption | exact (AT_FR (FR_e eU39) rfl (by assumption : AT T38 _ _))) (by first | assumption | exact (RNV_FR (FR_e eU39) rfl (by assumption : RNV T38 _))) (by omega) (by omega) (by omega) (by omega) (by omega) (by omega) ((KT.w (KT_FR w759 rfl (KT.w (KT_FR (FR_e eU29) rfl (KT.w (KT_FR w411 rfl (KT.tr (KT.w (KT.w KT.rf eU13 (by omega)) eU14 (by omega)) (by assumption : KT T15 U14 _) (by omega))) eU17 (by omega))) eU37 (by omega))) eU39 (by omega))) (by first | exact (fun _ q => tvx_2 (w187 q).1 (thv_c (h176 (by omega)) (by omega) (by omega) (by omega)) (by have t := p172 (by omega); omega) (w187 q).2.1 (W187 q)) w187 | exact (fun _ q => tvx_3 (by omega) (thv_c (h194 (by omega)) (by omega) (by omega) (by omega)) (by omega)) r271 | exact (fun _ q => tvx_4 (by omega) (thv_c (h194 (by omega)) (by omega) (by omega) (by omega)) (thv_i (s := Xi U39 904 100) (t := Xi U39 904 101) (r := Xi U39 904 99) (by omega) (by omega) (by omega) (by omega) (by omega) (by omega) (by omega))) o313 | exact (fun _ q => tvx_5 (by omega)) A96 | exact fun q => absurd q (by omega))) (And.intro rfl (And.intro rfl (True.intro)))
          · refine l_aload_n rfl rfl ?_
            have w781 : Xi U14 904 100 = Xi S 904 100 := (show Xi U14 904 100 = Xi U13 904 100 from by rw [eU14]; exact Xi_ne (by omega)).trans ((show Xi U13 904 100 = Xi S 904 100 from by rw [eU13]; exact Xi_ne (by omega)))
            have w782 : 0 ≤ Xi S 904 100 ∧ Xi S 904 100 ≤ 2 := hH.c _ _
            have w783 : Xi U14 904 101 = Xi S 904 101 := (show Xi U14 904 101 = Xi U13 904 101 from by rw [eU14]; exact Xi_ne (by omega)).trans ((show Xi U13 904 101 = Xi S 904 101 from by rw [eU13]; exact Xi_ne (by omega)))
            have w784 : 0 ≤ Xi S 904 101 ∧ Xi S 904 101 ≤ 5010 := hH.c _ _
            have w785 : Xi U14 904 65 = Xi S 904 65 := (show Xi U14 904 65 = Xi U13 904 65 from by rw [eU14]; exact Xi_ne (by omega)).trans ((show Xi U13 904 65 = Xi S 904 65 from by rw [eU13]; exact Xi_ne (by omega)))
            have w786 : 0 ≤ Xi S 904 65 ∧ Xi S 904 65 ≤ 1 := hH.c _ _
            have w787 : Xi U14 904 69 = Xi S 904 69 := (show Xi U14 904 69 = Xi U13 904 69 from by rw [eU14]; exact Xi_ne (by omega)).trans ((show Xi U13 904 69 = Xi S 904 69 from by rw [eU13]; exact Xi_ne (by omega)))
            have w788 : 0 ≤ Xi S 904 69 ∧ Xi S 904 69 ≤ 2600 := hH.c _ _
            have w789 : Xi U14 904 8 = Xi S 904 8 := (show Xi U14 904 8 = Xi U13 904 8 from by rw [eU14]; exact Xi_ne (by omega)).trans ((show Xi U13 904 8 = Xi S 904 8 from by rw [eU13]; exact Xi_ne (by omega)))
            have w790 : 0 ≤ Xi S 904 8 ∧ Xi S 904 8 ≤ 5010 := hH.c _ _
            have w791 : Xi U14 904 93 = Xi S 904 93 := (show Xi U14 904 93 = Xi U13 904 93 from by rw [eU14]; exact Xi_ne (by omega)).trans ((show Xi U13 904 93 = Xi S 904 93 from by rw [eU13]; exact Xi_ne (by omega)))
            have w792 : 0 ≤ Xi S 904 93 ∧ Xi S 904 93 ≤ 1700 := hH.c _ _
            have w793 : Xi U14 904 99 = Xi S 904 99 := (show Xi U14 904 99 = Xi U13 904 99 from by rw [eU14]; exact Xi_ne (by omega)).trans ((show Xi U13 904 99 = Xi S 904 99 from by rw [eU13]; exact Xi_ne (by omega)))
            have w794 : 0 ≤ Xi S 904 99 ∧ Xi S 904 99 ≤ 2600 := hH.c _ _
            refine l_callV rfl rfl rfl (t_mo_property hHU14 n c (by first | assumption | exact (TK_FR hFU14 rfl (by assumption : TK S _))) (by first | assumption | exact (AT_FR (FR_e eU14) rfl (AT_FR (FR_e eU13) rfl (by assumption : AT S _ _)))) (by first | assumption | exact (RNV_FR (FR_e eU14) rfl (RNV_FR (FR_e eU13) rfl (by assumption : RNV S _)))) (by first | assumption | omega) _) ?_
            rintro _ T40 ⟨hHT40, w802, rfl, w795, w796, w797, w798, w799, w800, p172⟩
            have hFT40 : FR md_mo_test S T40 := FR.tr hFU14 w802 rfl
            show Rl _ _ _ _ _ [] _ _
            refine l_aload_n rfl rfl ?_
            have w803 : Xi T40 904 100 = Xi S 904 100 := (show Xi T40 904 100 = Xi U14 904 100 from w802.x _ _ rfl).trans ( (show Xi U14 904 100 = Xi U13 904 100 from by rw [eU14]; exact Xi_ne (by omega)).trans ((show Xi U13 904 100 = Xi S 904 100 from by rw [eU13]; exact Xi_ne (by omega))))
            have w804 : 0 ≤ Xi S 904 100 ∧ Xi S 904 100 ≤ 2 := hH.c _ _
            have w805 : Xi T40 904 101 = Xi S 904 101 := (show Xi T40 904 101 = Xi U14 904 101 from w802.x _ _ rfl).trans ( (show Xi U14 904 101 = Xi U13 904 101 from by rw [eU14]; exact Xi_ne (by omega)).trans ((show Xi U13 904 101 = Xi S 904 101 from by rw [eU13]; exact Xi_ne (by omega))))
            have w806 : 0 ≤ Xi S 904 101 ∧ Xi S 904 101 ≤ 5010 := hH.c _ _
            have w807 : 0 ≤ Xi T40 904 65 ∧ Xi T40 904 65 ≤ 1 := hHT40.c _ _
            have w808 : 0 ≤ Xi T40 904 69 ∧ Xi T40 904 69 ≤ 2600 := hHT40.c _ _
            have w809 : 0 ≤ Xi T40 904 8 ∧ Xi T40 904 8 ≤ 5010 := hHT40.c _ _
            have w810 : Xi T40 904 93 = Xi S 904 93 := (show Xi T40 904 93 = Xi U14 904 93 from w802.x _ _ rfl).trans ( (show Xi U14 904 93 = Xi U13 904 93 from by rw [eU14]; exact Xi_ne (by omega)).trans ((show Xi U13 904 93 = Xi S 904 93 from by rw [eU13]; exact Xi_ne (by omega))))
            have w811 : 0 ≤ Xi S 904 93 ∧ Xi S 904 93 ≤ 1700 := hH.c _ _
            have w812 : Xi T40 904 99 = Xi S 904 99 := (show Xi T40 904 99 = Xi U14 904 99 from w802.x _ _ rfl).trans ( (show Xi U14 904 99 = Xi U13 904 99 from by rw [eU14]; exact Xi_ne (by omega)).trans ((show Xi U13 904 99 = Xi S 904 99 from by rw [eU13]; exact Xi_ne (by omega))))
            have w813 : 0 ≤ Xi S 904 99 ∧ Xi S 904 99 ≤ 2600 := hH.c _ _
            refine l_callV rfl rfl rfl (t_mo_thingOfTest hHT40 n c (by first | assumption | exact (TK_FR hFT40 rfl (by assumption : TK S _))) (by first | assumption | exact (by assumption : AT T40 _ _)) (by first | assumption | exact (by assumption : RNV T40 _)) (by first | assumption | omega) _) ?_
            rintro _ T41 ⟨hHT41, w821, rfl, w814, w815, w816, w817, w818, w819, h176⟩
            have hFT41 : FR md_mo_test S T41 := FR.tr hFT40 w821 rfl
            show Rl _ _ _ _ _ [] _ _
            refine l_aload_n rfl rfl ?_
            refine l_bipush rfl rfl ?_
            have w822 : 0 ≤ Xi T41 904 100 ∧ Xi T41 904 100 ≤ 2 := hHT41.c _ _
            have w823 : 0 ≤ Xi T41 904 101 ∧ Xi T41 904 101 ≤ 5010 := hHT41.c _ _
            have w824 : 0 ≤ Xi T41 904 65 ∧ Xi T41 904 65 ≤ 1 := hHT41.c _ _
            have w825 : 0 ≤ Xi T41 904 69 ∧ Xi T41 904 69 ≤ 2600 := hHT41.c _ _
            have w826 : 0 ≤ Xi T41 904 8 ∧ Xi T41 904 8 ≤ 5010 := hHT41.c _ _
            have w827 : Xi T41 904 93 = Xi S 904 93 := (show Xi T41 904 93 = Xi T40 904 93 from w821.x _ _ rfl).trans ( (show Xi T40 904 93 = Xi U14 904 93 from w802.x _ _ rfl).trans ( (show Xi U14 904 93 = Xi U13 904 93 from by rw [eU14]; exact Xi_ne (by omega)).trans ((show Xi U13 904 93 = Xi S 904 93 from by rw [eU13]; exact Xi_ne (by omega)))))
            have w828 : 0 ≤ Xi S 904 93 ∧ Xi S 904 93 ≤ 1700 := hH.c _ _
            have w829 : 0 ≤ Xi T41 904 99 ∧ Xi T41 904 99 ≤ 2600 := hHT41.c _ _
            refine l_callV rfl rfl rfl (t_mo_take__2 hHT41 n c 104 ⟨by omega, by omega⟩ (by first | assumption | exact (TK_FR hFT41 rfl (by assumption : TK S _))) (by first | assumption | exact (by assumption : AT T41 _ _)) (by first | assumption | omega) _) ?_
            rintro _ T42 ⟨hHT42, w835, rfl, w830, w831, w832, w833⟩
            have hFT42 : FR md_mo_test S T42 := FR.tr hFT41 w835 rfl
            show Rl _ _ _ _ _ [] _ _
            refine l_aload_n rfl rfl ?_
            refine l_iload_n rfl rfl ?_
            have w836 : Xi T42 904 100 = Xi T41 904 100 := (show Xi T42 904 100 = Xi T41 904 100 from w835.x _ _ rfl)
            have w837 : 0 ≤ Xi T41 904 100 ∧ Xi T41 904 100 ≤ 2 := hHT41.c _ _
            have w838 : Xi T42 904 101 = Xi T41 904 101 := (show Xi T42 904 101 = Xi T41 904 101 from w835.x _ _ rfl)
            have w839 : 0 ≤ Xi T41 904 101 ∧ Xi T41 904 101 ≤ 5010 := hHT41.c _ _
            have w840 : 0 ≤ Xi T42 904 65 ∧ Xi T42 904 65 ≤ 1 := hHT42.c _ _
            have w841 : Xi T42 904 69 = Xi T41 904 69 := (show Xi T42 904 69 = Xi T41 904 69 from w835.x _ _ rfl)
            have w842 : 0 ≤ Xi T41 904 69 ∧ Xi T41 904 69 ≤ 2600 := hHT41.c _ _
            have w843 : 0 ≤ Xi T42 904 8 ∧ Xi T42 904 8 ≤ 5010 := hHT42.c _ _
            have w844 : Xi T42 904 93 = Xi S 904 93 := (show Xi T42 904 93 = Xi T41 904 93 from w835.x _ _ rfl).trans ( (show Xi T41 904 93 = Xi T40 904 93 from w821.x _ _ rfl).trans ( (show Xi T40 904 93 = Xi U14 904 93 from w802.x _ _ rfl).trans ( (show Xi U14 904 93 = Xi U13 904 93 from by rw [eU14]; exact Xi_ne (by omega)).trans ((show Xi U13 904 93 = Xi S 904 93 from by rw [eU13]; exact Xi_ne (by omega))))))
            have w845 : 0 ≤ Xi S 904 93 ∧ Xi S 904 93 ≤ 1700 := hH.c _ _
            have w846 : Xi T42 904 99 = Xi T41 904 99 := (show Xi T42 904 99 = Xi T41 904 99 from w835.x _ _ rfl)
            have w847 : 0 ≤ Xi T41 904 99 ∧ Xi T41 904 99 ≤ 2600 := hHT41.c _ _
            refine l_callV rfl rfl rfl (t_mo_testedWhat hHT42 n c isNow ⟨by omega, by omega⟩ (by first | assumption | exact (TK_FR hFT42 rfl (by assumption : TK S _))) (by first | assumption | exact (by assumption : AT T42 _ _)) (by first | assumption | exact (RNV_FR w835 rfl (by assumption : RNV T41 _))) (by first | assumption | omega) _) ?_
            rintro _ T43 ⟨hHT43, w855, rfl, w848, w849, w850, w851, w852, w853, w187⟩
            have hFT43 : FR md_mo_test S T43 := FR.tr hFT42 w855 rfl
            show Rl _ _ _ _ _ [] _ _
            have W187 : Xi T43 904 65 = 0 → Xi T43 952 (Xi S 904 93).toNat = 0 → Xi T43 907 (Xi T43 957 (Xi S 904 93).toNat).toNat ≠ 4 → Xi T43 907 (Xi T43 957 (Xi S 904 93).toNat).toNat ≠ 5 → 0 ≤ Xi T43 960 (Xi S 904 93).toNat ∧ Xi T43 960 (Xi S 904 93).toNat < Xi T43 904 69 := fun q a b e => (w187 q).2.2 a (by rw [(hFT42.cx 907 rfl _).1, ← (hFT43.cx 907 rfl _).1]; exact b) (by rw [(hFT42.cx 907 rfl _).1, ← (hFT43.cx 907 rfl _).1]; exact e)
            refine l_goto rfl rfl ?_
            have w856 : Xi T43 954 (Xi S 904 93).toNat = Xi T41 954 (Xi S 904 93).toNat := (show Xi T43 954 (Xi S 904 93).toNat = Xi T42 954 (Xi S 904 93).toNat from (w855.cx 954 rfl _).1).trans ((show Xi T42 954 (Xi S 904 93).toNat = Xi T41 954 (Xi S 904 93).toNat from (w835.cx 954 rfl _).1))
            have w857 : Xi T43 955 (Xi S 904 93).toNat = Xi T41 955 (Xi S 904 93).toNat := (show Xi T43 955 (Xi S 904 93).toNat = Xi T42 955 (Xi S 904 93).toNat from (w855.cx 955 rfl _).1).trans ((show Xi T42 955 (Xi S 904 93).toNat = Xi T41 955 (Xi S 904 93).toNat from (w835.cx 955 rfl _).1))
            have w858 : Xi T43 956 (Xi S 904 93).toNat = Xi T40 956 (Xi S 904 93).toNat := (show Xi T43 956 (Xi S 904 93).toNat = Xi T42 956 (Xi S 904 93).toNat from (w855.cx 956 rfl _).1).trans ( (show Xi T42 956 (Xi S 904 93).toNat = Xi T41 956 (Xi S 904 93).toNat from (w835.cx 956 rfl _).1).trans ((show Xi T41 956 (Xi S 904 93).toNat = Xi T40 956 (Xi S 904 93).toNat from (w821.cx 956 rfl _).1)))
            have w859 : Xi T43 959 (Xi S 904 93).toNat = Xi S 959 (Xi S 904 93).toNat := (show Xi T43 959 (Xi S 904 93).toNat = Xi T42 959 (Xi S 904 93).toNat from (w855.cx 959 rfl _).1).trans ( (show Xi T42 959 (Xi S 904 93).toNat = Xi T41 959 (Xi S 904 93).toNat from (w835.cx 959 rfl _).1).trans ( (show Xi T41 959 (Xi S 904 93).toNat = Xi T40 959 (Xi S 904 93).toNat from (w821.cx 959 rfl _).1).trans ( (show Xi T40 959 (Xi S 904 93).toNat = Xi U14 959 (Xi S 904 93).toNat from (w802.cx 959 rfl _).1).trans ( (show Xi U14 959 (Xi S 904 93).toNat = Xi U13 959 (Xi S 904 93).toNat from by rw [eU14]; exact Xi_ne (by omega)).trans ((show Xi U13 959 (Xi S 904 93).toNat = Xi S 959 (Xi S 904 93).toNat from by rw [eU13]; exact Xi_ne (by omega)))))))
            have w860 : Xi T43 961 (Xi S 904 93).toNat = Xi U13 961 (Xi S 904 93).toNat := (show Xi T43 961 (Xi S 904 93).toNat = Xi T42 961 (Xi S 904 93).toNat from (w855.cx 961 rfl _).1).trans ( (show Xi T42 961 (Xi S 904 93).toNat = Xi T41 961 (Xi S 904 93).toNat from (w835.cx 961 rfl _).1).trans ( (show Xi T41 961 (Xi S 904 93).toNat = Xi T40 961 (Xi S 904 93).toNat from (w821.cx 961 rfl _).1).trans ( (show Xi T40 961 (Xi S 904 93).toNat = Xi U14 961 (Xi S 904 93).toNat from (w802.cx 961 rfl _).1).trans ((show Xi U14 961 (Xi S 904 93).toNat = Xi U13 961 (Xi S 904 93).toNat from by rw [eU14]; exact Xi_ne (by omega))))))
            have w861 : Xi T43 962 (Xi S 904 93).toNat = Xi S 962 (Xi S 904 93).toNat := (show Xi T43 962 (Xi S 904 93).toNat = Xi T42 962 (Xi S 904 93).toNat from (w855.cx 962 rfl _).1).trans ( (show Xi T42 962 (Xi S 904 93).toNat = Xi T41 962 (Xi S 904 93).toNat from (w835.cx 962 rfl _).1).trans ( (show Xi T41 962 (Xi S 904 93).toNat = Xi T40 962 (Xi S 904 93).toNat from (w821.cx 962 rfl _).1).trans ( (show Xi T40 962 (Xi S 904 93).toNat = Xi U14 962 (Xi S 904 93).toNat from (w802.cx 962 rfl _).1).trans ( (show Xi U14 962 (Xi S 904 93).toNat = Xi U13 962 (Xi S 904 93).toNat from by rw [eU14]; exact Xi_ne (by omega)).trans ((show Xi U13 962 (Xi S 904 93).toNat = Xi S 962 (Xi S 904 93).toNat from by rw [eU13]; exact Xi_ne (by omega)))))))
            have w862 : Xi T43 904 100 = Xi T41 904 100 := (show Xi T43 904 100 = Xi T42 904 100 from w855.x _ _ rfl).trans ((show Xi T42 904 100 = Xi T41 904 100 from w835.x _ _ rfl))
            have w863 : 0 ≤ Xi T41 904 100 ∧ Xi T41 904 100 ≤ 2 := hHT41.c _ _
            have w864 : Xi T43 904 101 = Xi T41 904 101 := (show Xi T43 904 101 = Xi T42 904 101 from w855.x _ _ rfl).trans ((show Xi T42 904 101 = Xi T41 904 101 from w835.x _ _ rfl))
            have w865 : 0 ≤ Xi T41 904 101 ∧ Xi T41 904 101 ≤ 5010 := hHT41.c _ _
            have w866 : 0 ≤ Xi T43 904 65 ∧ Xi T43 904 65 ≤ 1 := hHT43.c _ _
            have w867 : 0 ≤ Xi T43 904 69 ∧ Xi T43 904 69 ≤ 2600 := hHT43.c _ _
            have w868 : 0 ≤ Xi T43 904 8 ∧ Xi T43 904 8 ≤ 5010 := hHT43.c _ _
            have w869 : Xi T43 904 93 = Xi S 904 93 := (show Xi T43 904 93 = Xi T42 904 93 from w855.x _ _ rfl).trans ( (show Xi T42 904 93 = Xi T41 904 93 from w835.x _ _ rfl).trans ( (show Xi T41 904 93 = Xi T40 904 93 from w821.x _ _ rfl).trans ( (show Xi T40 904 93 = Xi U14 904 93 from w802.x _ _ rfl).trans ( (show Xi U14 904 93 = Xi U13 904 93 from by rw [eU14]; exact Xi_ne (by omega)).trans ((show Xi U13 904 93 = Xi S 904 93 from by rw [eU13]; exact Xi_ne (by omega)))))))
            have w870 : 0 ≤ Xi S 904 93 ∧ Xi S 904 93 ≤ 1700 := hH.c _ _
            have w871 : Xi T43 904 99 = Xi T41 904 99 := (show Xi T43 904 99 = Xi T42 904 99 from w855.x _ _ rfl).trans ((show Xi T42 904 99 = Xi T41 904 99 from w835.x _ _ rfl))
            have w872 : 0 ≤ Xi T41 904 99 ∧ Xi T41 904 99 ≤ 2600 := hHT41.c _ _
            exact Rl_weak (C351 T43 hHT43 hFT43  (by first | assumption | exact (by assumption : AT T43 _ _)) (by first | assumption | exact (by assumption : RNV T43 _)) (by omega) (by omega) (by omega) (by omega) (by omega) (by omega) ((KT.tr (KT_FR w835 rfl (KT.tr (KT.tr (KT.w (KT.w KT.rf eU13 (by omega)) eU14 (by omega)) (by assumption : KT T40 U14 _) (by omega)) (by assumption : KT T41 T40 _) (by omega))) (by assumption : KT T43 T42 _) (by omega))) (by first | exact (fun _ q => tvx_2 (w187 q).1 (thv_c (h176 (by omega)) (by omega) (by omega) (by omega)) (by have t := p172 (by omega); omega) (w187 q).2.1 (W187 q)) w187 | exact (fun _ q => tvx_3 (by omega) (thv_c (h194 (by omega)) (by omega) (by omega) (by omega)) (by omega)) r271 | exact (fun _ q => tvx_4 (by omega) (thv_c (h194 (by omega)) (by omega) (by omega) (by omega)) (thv_i (s := Xi T43 904 100) (t := Xi T43 904 101) (r := Xi T43 904 99) (by omega) (by omega) (by omega) (by omega) (by omega) (by omega) (by omega))) o313 | exact (fun _ q => tvx_5 (by omega)) A96 | exact fun q => absurd q (by omega))) (And.intro rfl (And.intro rfl (True.intro)))
        · refine l_aload_n rfl rfl ?_
          refine l_gfr rfl rfl rfl rfl rfl (hHU14.r 904 82 952 rfl) ?_
          refine l_aload_n rfl rfl ?_
          refine l_gfi rfl rfl rfl rfl rfl ?_
          have w873 : (Xi U14 904 93) = (Xi S 904 93) := (show Xi U14 904 93 = Xi U13 904 93 from by rw [eU14]; exact Xi_ne (by omega)).trans ((show Xi U13 904 93 = Xi S 904 93 from by rw [eU13]; exact Xi_ne (by omega)))
          rw [w873]
          refine l_iconst rfl ?_
          refine l_iastore (n := 1700) rfl rfl (by omega) (by omega) (by unfold rg; omega) ?_
          obtain ⟨U44, eU44⟩ : ∃ T : sS, T = uI U14 952 (((Xi S 904 93)).toNat) (Int32.ofInt 5) := ⟨_, rfl⟩
          rw [← eU44]
          have hHU44 : HI U44 := by rw [eU44]; exact HI_w hHU14 (show 0 ≤ 5 by omega) (show 5 ≤ 5 by omega)
          have hFU44 : FR md_mo_test S U44 := by rw [eU44]; exact FR.wI hFU14 (mdf_i (r := (952, 953, 0, 100000)) (List.mem_of_getElem? (i := 11) rfl) (inR_i (by omega) (by omega) (by omega) (by omega)))
          have w874 : Xi U44 952 (((Xi S 904 93)).toNat) = 5 := by rw [eU44]; exact Xi_same (by unfold rg; omega)
          refine l_aload_n rfl rfl ?_
          have w875 : Xi U44 904 100 = Xi S 904 100 := (show Xi U44 904 100 = Xi U14 904 100 from by rw [eU44]; exact Xi_ne (by omega)).trans ( (show Xi U14 904 100 = Xi U13 904 100 from by rw [eU14]; exact Xi_ne (by omega)).trans ((show Xi U13 904 100 = Xi S 904 100 from by rw [eU13]; exact Xi_ne (by omega))))
          have w876 : 0 ≤ Xi S 904 100 ∧ Xi S 904 100 ≤ 2 := hH.c _ _
          have w877 : Xi U44 904 101 = Xi S 904 101 := (show Xi U44 904 101 = Xi U14 904 101 from by rw [eU44]; exact Xi_ne (by omega)).trans ( (show Xi U14 904 101 = Xi U13 904 101 from by rw [eU14]; exact Xi_ne (by omega)).trans ((show Xi U13 904 101 = Xi S 904 101 from by rw [eU13]; exact Xi_ne (by omega))))
          have w878 : 0 ≤ Xi S 904 101 ∧ Xi S 904 101 ≤ 5010 := hH.c _ _
          have w879 : Xi U44 904 65 = Xi S 904 65 := (show Xi U44 904 65 = Xi U14 904 65 from by rw [eU44]; exact Xi_ne (by omega)).trans ( (show Xi U14 904 65 = Xi U13 904 65 from by rw [eU14]; exact Xi_ne (by omega)).trans ((show Xi U13 904 65 = Xi S 904 65 from by rw [eU13]; exact Xi_ne (by omega))))
          have w880 : 0 ≤ Xi S 904 65 ∧ Xi S 904 65 ≤ 1 := hH.c _ _
          have w881 : Xi U44 904 69 = Xi S 904 69 := (show Xi U44 904 69 = Xi U14 904 69 from by rw [eU44]; exact Xi_ne (by omega)).trans ( (show Xi U14 904 69 = Xi U13 904 69 from by rw [eU14]; exact Xi_ne (by omega)).trans ((show Xi U13 904 69 = Xi S 904 69 from by rw [eU13]; exact Xi_ne (by omega))))
          have w882 : 0 ≤ Xi S 904 69 ∧ Xi S 904 69 ≤ 2600 := hH.c _ _
          have w883 : Xi U44 904 8 = Xi S 904 8 := (show Xi U44 904 8 = Xi U14 904 8 from by rw [eU44]; exact Xi_ne (by omega)).trans ( (show Xi U14 904 8 = Xi U13 904 8 from by rw [eU14]; exact Xi_ne (by omega)).trans ((show Xi U13 904 8 = Xi S 904 8 from by rw [eU13]; exact Xi_ne (by omega))))
          have w884 : 0 ≤ Xi S 904 8 ∧ Xi S 904 8 ≤ 5010 := hH.c _ _
          have w885 : Xi U44 904 93 = Xi S 904 93 := (show Xi U44 904 93 = Xi U14 904 93 from by rw [eU44]; exact Xi_ne (by omega)).trans ( (show Xi U14 904 93 = Xi U13 904 93 from by rw [eU14]; exact Xi_ne (by omega)).trans ((show Xi U13 904 93 = Xi S 904 93 from by rw [eU13]; exact Xi_ne (by omega))))
          have w886 : 0 ≤ Xi S 904 93 ∧ Xi S 904 93 ≤ 1700 := hH.c _ _
          have w887 : Xi U44 904 99 = Xi S 904 99 := (show Xi U44 904 99 = Xi U14 904 99 from by rw [eU44]; exact Xi_ne (by omega)).trans ( (show Xi U14 904 99 = Xi U13 904 99 from by rw [eU14]; exact Xi_ne (by omega)).trans ((show Xi U13 904 99 = Xi S 904 99 from by rw [eU13]; exact Xi_ne (by omega))))
          have w888 : 0 ≤ Xi S 904 99 ∧ Xi S 904 99 ≤ 2600 := hH.c _ _
          refine l_callV rfl rfl rfl (t_mo_look hHU44 n c (by first | assumption | exact (TK_FR hFU44 rfl (by assumption : TK S _))) (by first | assumption | exact (AT_FR (FR_e eU44) rfl (AT_FR (FR_e eU14) rfl (AT_FR (FR_e eU13) rfl (by assumption : AT S _ _))))) _) ?_
          rintro _ _ ⟨rfl, z890, rfl, w890, w889⟩
          show Rl _ _ _ _ _ [iv z890] _ _
          have l91 : z890 ≠ 1 → Xi U44 904 65 = 0 ∧ Xi U44 907 (Xi U44 904 8).toNat = z890 := by assumption
          refine l_istore rfl rfl rfl ?_
          have w891 : Xi U44 954 (Xi S 904 93).toNat = Xi S 954 (Xi S 904 93).toNat := (show Xi U44 954 (Xi S 904 93).toNat = Xi U14 954 (Xi S 904 93).toNat from by rw [eU44]; exact Xi_ne (by omega)).trans ( (show Xi U14 954 (Xi S 904 93).toNat = Xi U13 954 (Xi S 904 93).toNat from by rw [eU14]; exact Xi_ne (by omega)).trans ((show Xi U13 954 (Xi S 904 93).toNat = Xi S 954 (Xi S 904 93).toNat from by rw [eU13]; exact Xi_ne (by omega))))
          have w892 : Xi U44 955 (Xi S 904 93).toNat = Xi S 955 (Xi S 904 93).toNat := (show Xi U44 955 (Xi S 904 93).toNat = Xi U14 955 (Xi S 904 93).toNat from by rw [eU44]; exact Xi_ne (by omega)).trans ( (show Xi U14 955 (Xi S 904 93).toNat = Xi U13 955 (Xi S 904 93).toNat from by rw [eU14]; exact Xi_ne (by omega)).trans ((show Xi U13 955 (Xi S 904 93).toNat = Xi S 955 (Xi S 904 93).toNat from by rw [eU13]; exact Xi_ne (by omega))))
          have w893 : Xi U44 956 (Xi S 904 93).toNat = Xi S 956 (Xi S 904 93).toNat := (show Xi U44 956 (Xi S 904 93).toNat = Xi U14 956 (Xi S 904 93).toNat from by rw [eU44]; exact Xi_ne (by omega)).trans ( (show Xi U14 956 (Xi S 904 93).toNat = Xi U13 956 (Xi S 904 93).toNat from by rw [eU14]; exact Xi_ne (by omega)).trans ((show Xi U13 956 (Xi S 904 93).toNat = Xi S 956 (Xi S 904 93).toNat from by rw [eU13]; exact Xi_ne (by omega))))
          have w894 : Xi U44 959 (Xi S 904 93).toNat = Xi S 959 (Xi S 904 93).toNat := (show Xi U44 959 (Xi S 904 93).toNat = Xi U14 959 (Xi S 904 93).toNat from by rw [eU44]; exact Xi_ne (by omega)).trans ( (show Xi U14 959 (Xi S 904 93).toNat = Xi U13 959 (Xi S 904 93).toNat from by rw [eU14]; exact Xi_ne (by omega)).trans ((show Xi U13 959 (Xi S 904 93).toNat = Xi S 959 (Xi S 904 93).toNat from by rw [eU13]; exact Xi_ne (by omega))))
          have w895 : Xi U44 961 (Xi S 904 93).toNat = Xi U13 961 (Xi S 904 93).toNat := (show Xi U44 961 (Xi S 904 93).toNat = Xi U14 961 (Xi S 904 93).toNat from by rw [eU44]; exact Xi_ne (by omega)).trans ((show Xi U14 961 (Xi S 904 93).toNat = Xi U13 961 (Xi S 904 93).toNat from by rw [eU14]; exact Xi_ne (by omega)))
          have w896 : Xi U44 962 (Xi S 904 93).toNat = Xi S 962 (Xi S 904 93).toNat := (show Xi U44 962 (Xi S 904 93).toNat = Xi U14 962 (Xi S 904 93).toNat from by rw [eU44]; exact Xi_ne (by omega)).trans ( (show Xi U14 962 (Xi S 904 93).toNat = Xi U13 962 (Xi S 904 93).toNat from by rw [eU14]; exact Xi_ne (by omega)).trans ((show Xi U13 962 (Xi S 904 93).toNat = Xi S 962 (Xi S 904 93).toNat from by rw [eU13]; exact Xi_ne (by omega))))
          have w897 : Xi U44 904 100 = Xi S 904 100 := (show Xi U44 904 100 = Xi U14 904 100 from by rw [eU44]; exact Xi_ne (by omega)).trans ( (show Xi U14 904 100 = Xi U13 904 100 from by rw [eU14]; exact Xi_ne (by omega)).trans ((show Xi U13 904 100 = Xi S 904 100 from by rw [eU13]; exact Xi_ne (by omega))))
          have w898 : 0 ≤ Xi S 904 100 ∧ Xi S 904 100 ≤ 2 := hH.c _ _
          have w899 : Xi U44 904 101 = Xi S 904 101 := (show Xi U44 904 101 = Xi U14 904 101 from by rw [eU44]; exact Xi_ne (by omega)).trans ( (show Xi U14 904 101 = Xi U13 904 101 from by rw [eU14]; exact Xi_ne (by omega)).trans ((show Xi U13 904 101 = Xi S 904 101 from by rw [eU13]; exact Xi_ne (by omega))))
          have w900 : 0 ≤ Xi S 904 101 ∧ Xi S 904 101 ≤ 5010 := hH.c _ _
          have w901 : Xi U44 904 65 = Xi S 904 65 := (show Xi U44 904 65 = Xi U14 904 65 from by rw [eU44]; exact Xi_ne (by omega)).trans ( (show Xi U14 904 65 = Xi U13 904 65 from by rw [eU14]; exact Xi_ne (by omega)).trans ((show Xi U13 904 65 = Xi S 904 65 from by rw [eU13]; exact Xi_ne (by omega))))
          have w902 : 0 ≤ Xi S 904 65 ∧ Xi S 904 65 ≤ 1 := hH.c _ _
          have w903 : Xi U44 904 69 = Xi S 904 69 := (show Xi U44 904 69 = Xi U14 904 69 from by rw [eU44]; exact Xi_ne (by omega)).trans ( (show Xi U14 904 69 = Xi U13 904 69 from by rw [eU14]; exact Xi_ne (by omega)).trans ((show Xi U13 904 69 = Xi S 904 69 from by rw [eU13]; exact Xi_ne (by omega))))
          have w904 : 0 ≤ Xi S 904 69 ∧ Xi S 904 69 ≤ 2600 := hH.c _ _
          have w905 : Xi U44 904 8 = Xi S 904 8 := (show Xi U44 904 8 = Xi U14 904 8 from by rw [eU44]; exact Xi_ne (by omega)).trans ( (show Xi U14 904 8 = Xi U13 904 8 from by rw [eU14]; exact Xi_ne (by omega)).trans ((show Xi U13 904 8 = Xi S 904 8 from by rw [eU13]; exact Xi_ne (by omega))))
          have w906 : 0 ≤ Xi S 904 8 ∧ Xi S 904 8 ≤ 5010 := hH.c _ _
          have w907 : Xi U44 904 93 = Xi S 904 93 := (show Xi U44 904 93 = Xi U14 904 93 from by rw [eU44]; exact Xi_ne (by omega)).trans ( (show Xi U14 904 93 = Xi U13 904 93 from by rw [eU14]; exact Xi_ne (by omega)).trans ((show Xi U13 904 93 = Xi S 904 93 from by rw [eU13]; exact Xi_ne (by omega))))
          have w908 : 0 ≤ Xi S 904 93 ∧ Xi S 904 93 ≤ 1700 := hH.c _ _
          have w909 : Xi U44 904 99 = Xi S 904 99 := (show Xi U44 904 99 = Xi U14 904 99 from by rw [eU44]; exact Xi_ne (by omega)).trans ( (show Xi U14 904 99 = Xi U13 904 99 from by rw [eU14]; exact Xi_ne (by omega)).trans ((show Xi U13 904 99 = Xi S 904 99 from by rw [eU13]; exact Xi_ne (by omega))))
          have w910 : 0 ≤ Xi S 904 99 ∧ Xi S 904 99 ≤ 2600 := hH.c _ _
          exact Rl_weak (C96 _ U44 hHU44 hFU44 (v2) (z890) (by omega) (by omega) (by first | exact a133 | exact AT_FR hFU44 rfl hA | assumption | exact (AT_FR (FR_e eU44) rfl (AT_FR (FR_e eU14) rfl (AT_FR (FR_e eU13) rfl hA)))) (by first | assumption | exact (RNV_FR (FR_e eU44) rfl (RNV_FR (FR_e eU14) rfl (RNV_FR (FR_e eU13) rfl (by assumption : RNV S _))))) (by omega) (by omega) (by omega) (by omega) (by omega) (by omega) (by omega) ((KT.w (KT.w (KT.w KT.rf eU13 (by omega)) eU14 (by omega)) eU44 (by omega))) rfl) (And.intro rfl (And.intro rfl (And.intro rfl (And.intro rfl (True.intro)))))
      · refine l_iload_n rfl rfl ?_
        refine l_if_ne rfl rfl (by unfold rg; omega) (fun w911 => ?_) (fun w912 => ?_)
        · refine l_iconst rfl ?_
          refine l_goto rfl rfl ?_
          refine l_istore_n rfl rfl rfl ?_
          refine l_iinc rfl rfl rfl rfl ?_
          refine l_goto rfl rfl ?_
          have w913 : 0 ≤ Xi S 904 100 ∧ Xi S 904 100 ≤ 2 := hH.c _ _
          have w914 : 0 ≤ Xi S 904 101 ∧ Xi S 904 101 ≤ 5010 := hH.c _ _
          have w915 : 0 ≤ Xi S 904 65 ∧ Xi S 904 65 ≤ 1 := hH.c _ _
          have w916 : 0 ≤ Xi S 904 69 ∧ Xi S 904 69 ≤ 2600 := hH.c _ _
          have w917 : 0 ≤ Xi S 904 8 ∧ Xi S 904 8 ≤ 5010 := hH.c _ _
          have w918 : 0 ≤ Xi S 904 93 ∧ Xi S 904 93 ≤ 1700 := hH.c _ _
          have w919 : 0 ≤ Xi S 904 99 ∧ Xi S 904 99 ≤ 2600 := hH.c _ _
          exact Rl_weak (ih13 _ (by omega) (v2) (1) ((v4 + 1)) (by omega) (by omega) (by omega) (by omega) rfl) (And.intro rfl (And.intro rfl (And.intro rfl (And.intro rfl (And.intro rfl (True.intro))))))
        · refine l_aload_n rfl rfl ?_
          refine l_gfr rfl rfl rfl rfl rfl (hH.r 904 4 907 rfl) ?_
          refine l_iload rfl rfl ?_
          refine l_iaload (n := 5002) rfl rfl (by omega) (by omega) (by unfold rg; omega) ?_
          refine l_bipush rfl rfl ?_
          refine l_icmp_ne rfl rfl (by unfold rg; omega) (by unfold rg; omega) (fun w920 => ?_) (fun w921 => ?_)
          · refine l_iconst rfl ?_
            refine l_istore_n rfl rfl rfl ?_
            refine l_iinc rfl rfl rfl rfl ?_
            refine l_goto rfl rfl ?_
            have w922 : 0 ≤ Xi S 904 100 ∧ Xi S 904 100 ≤ 2 := hH.c _ _
            have w923 : 0 ≤ Xi S 904 101 ∧ Xi S 904 101 ≤ 5010 := hH.c _ _
            have w924 : 0 ≤ Xi S 904 65 ∧ Xi S 904 65 ≤ 1 := hH.c _ _
            have w925 : 0 ≤ Xi S 904 69 ∧ Xi S 904 69 ≤ 2600 := hH.c _ _
            have w926 : 0 ≤ Xi S 904 8 ∧ Xi S 904 8 ≤ 5010 := hH.c _ _
            have w927 : 0 ≤ Xi S 904 93 ∧ Xi S 904 93 ≤ 1700 := hH.c _ _
            have w928 : 0 ≤ Xi S 904 99 ∧ Xi S 904 99 ≤ 2600 := hH.c _ _
            exact Rl_weak (ih13 _ (by omega) (v2) (0) ((v4 + 1)) (by omega) (by omega) (by omega) (by omega) rfl) (And.intro rfl (And.intro rfl (And.intro rfl (And.intro rfl (And.intro rfl (True.intro))))))
          · refine l_iconst rfl ?_
            refine l_goto rfl rfl ?_
            refine l_istore_n rfl rfl rfl ?_
            refine l_iinc rfl rfl rfl rfl ?_
            refine l_goto rfl rfl ?_
            have w929 : 0 ≤ Xi S 904 100 ∧ Xi S 904 100 ≤ 2 := hH.c _ _
            have w930 : 0 ≤ Xi S 904 101 ∧ Xi S 904 101 ≤ 5010 := hH.c _ _
            have w931 : 0 ≤ Xi S 904 65 ∧ Xi S 904 65 ≤ 1 := hH.c _ _
            have w932 : 0 ≤ Xi S 904 69 ∧ Xi S 904 69 ≤ 2600 := hH.c _ _
            have w933 : 0 ≤ Xi S 904 8 ∧ Xi S 904 8 ≤ 5010 := hH.c _ _
            have w934 : 0 ≤ Xi S 904 93 ∧ Xi S 904 93 ≤ 1700 := hH.c _ _
            have w935 : 0 ≤ Xi S 904 99 ∧ Xi S 904 99 ≤ 2600 := hH.c _ _
            exact Rl_weak (ih13 _ (by omega) (v2) (1) ((v4 + 1)) (by omega) (by omega) (by omega) (by omega) rfl) (And.intro rfl (And.intro rfl (And.intro rfl (And.intro rfl (And.intro rfl (True.intro))))))
  refine l_aload_n rfl rfl ?_
  refine l_gfi rfl rfl rfl rfl rfl ?_
  refine l_istore_n rfl rfl rfl ?_
  refine l_iconst rfl ?_
  refine l_istore_n rfl rfl rfl ?_
  refine l_aload_n rfl rfl ?_
  refine l_gfi rfl rfl rfl rfl rfl ?_
  refine l_istore rfl rfl rfl ?_
  have w936 : 0 ≤ Xi S 904 100 ∧ Xi S 904 100 ≤ 2 := hH.c _ _
  have w937 : 0 ≤ Xi S 904 101 ∧ Xi S 904 101 ≤ 5010 := hH.c _ _
  have w938 : 0 ≤ Xi S 904 65 ∧ Xi S 904 65 ≤ 1 := hH.c _ _
  have w939 : 0 ≤ Xi S 904 69 ∧ Xi S 904 69 ≤ 2600 := hH.c _ _
  have w940 : 0 ≤ Xi S 904 8 ∧ Xi S 904 8 ≤ 5010 := hH.c _ _
  have w941 : 0 ≤ Xi S 904 93 ∧ Xi S 904 93 ≤ 1700 := hH.c _ _
  have w942 : 0 ≤ Xi S 904 99 ∧ Xi S 904 99 ≤ 2600 := hH.c _ _
  exact Rl_weak (C13 _ ((Xi S 904 8)) (0) ((Xi S 904 8)) (by omega) (by omega) (by omega) (by omega) rfl) (And.intro rfl (And.intro rfl (And.intro rfl (And.intro rfl (And.intro rfl (True.intro))))))
def md_mo_tests : List rec := [(904, 905, 8, 9), (904, 905, 65, 66), (904, 905, 66, 67), (904, 905, 69, 70), (904, 905, 78, 79), (904, 905, 93, 94), (904, 905, 94, 95), (904, 905, 99, 100), (904, 905, 100, 101), (904, 905, 101, 102), (950, 951, 0, 100000), (951, 952, 0, 100000), (952, 953, 0, 100000), (953, 954, 0, 100000), (954, 955, 0, 100000), (955, 956, 0, 100000), (956, 957, 0, 100000), (957, 958, 0, 100000), (958, 959, 0, 100000), (959, 960, 0, 100000), (960, 961, 0, 100000), (961, 962, 0, 100000), (962, 963, 0, 100000)]
abbrev Q_mo_tests (S : sS) (n : Nat) (c : Nat) : pst := fun r S1 => HI S1 ∧ FR md_mo_tests S S1 ∧ (r = none ∧ (AT S1 n (c - 1)) ∧ (Xi S 904 8 ≤ Xi S1 904 8 ∧ (Xi S1 904 8 ≤ n ∨ Xi S1 904 8 = Xi S 904 8)) ∧ (RNV S1 n) ∧ (Xi S1 904 65 = 0 → Xi S 904 65 = 0) ∧ (Xi S 904 69 ≤ Xi S1 904 69) ∧ (Xi S1 904 94 = Xi S1 904 93) ∧ (Xi S1 904 93 ≤ 1668) ∧ (Xi S1 904 65 = 0 → TVA S1 n (Xi S1 904 93)))
set_option maxRecDepth 100000 in
theorem t_mo_tests {S : sS} (hH : HI S) (n : Nat) (c : Nat) (hT : TK S n) (hA : AT S n c) (hv : RNV S n) (hx : Xi S 904 8 ≤ n) (hc : 1 ≤ c) (h0 : Xi S 904 93 = 0) (d : Nat) : Mt lay0 (d + 7) m_mo_tests [.ref 904] S (Q_mo_tests S n c) := by
  refine Mt_R rfl rfl ?_
  have hF : FR md_mo_tests S S := FR.rf
  have w1 : 0 ≤ Xi S 904 65 ∧ Xi S 904 65 ≤ 1 := hH.c _ _
  have w2 : 0 ≤ Xi S 904 69 ∧ Xi S 904 69 ≤ 2600 := hH.c _ _
  have w3 : 0 ≤ Xi S 904 8 ∧ Xi S 904 8 ≤ 5010 := hH.c _ _
  have w4 : 0 ≤ Xi S 904 93 ∧ Xi S 904 93 ≤ 1700 := hH.c _ _
  have hn5 := hT.1
  have hat := hA
  have h8 : 0 ≤ Xi S 904 8 ∧ Xi S 904 8 ≤ 5010 := hH.c _ _
  have h69 : 0 ≤ Xi S 904 69 ∧ Xi S 904 69 ≤ 2600 := hH.c _ _
  have ha0 : Xi S 904 65 = 0 → Xi S 904 8 ≤ n := fun q => (hA q).1
  have ha3 : Xi S 904 65 = 0 → 2 * Xi S 904 69 ≤ Xi S 904 8 + 1 := fun q => (hA q).2.1
  clear hat
  have C5 : ∀ (n5 : Nat) (T1 : sS) (_ : HI T1) (_ : FR md_mo_tests S T1), (AT T1 n (c - 1)) → (RNV T1 n) → (Xi S 904 8 ≤ Xi T1 904 8) → (Xi T1 904 8 ≤ n) → (Xi T1 904 93 ≤ 1668) → (Xi S 904 69 ≤ Xi T1 904 69) → (Xi T1 904 65 = 0 → Xi S 904 65 = 0) → (Xi T1 904 65 = 0 → TVA T1 n (Xi T1 904 93)) → n5 = (5002 - Xi T1 904 8).toNat → Rl lay0 (d + 6) m_mo_tests 5 [(0, .ref 904)] [] T1 (Q_mo_tests S n c) := by
    intro n5
    induction n5 using Nat.strongRecOn with
    | ind n5 ih5 =>
      intro T1 hHT1 hFT1 A5 V5 w5 w6 w7 w8 w9 E5 hm5
      have w10 : 0 ≤ Xi T1 904 65 ∧ Xi T1 904 65 ≤ 1 := hHT1.c _ _
      have w11 : 0 ≤ Xi T1 904 69 ∧ Xi T1 904 69 ≤ 2600 := hHT1.c _ _
      have w12 : 0 ≤ Xi T1 904 8 ∧ Xi T1 904 8 ≤ 5010 := hHT1.c _ _
      have w13 : 0 ≤ Xi T1 904 93 ∧ Xi T1 904 93 ≤ 1700 := hHT1.c _ _
      refine l_aload_n rfl rfl ?_
      refine l_bipush rfl rfl ?_
      have w14 : 0 ≤ Xi T1 904 65 ∧ Xi T1 904 65 ≤ 1 := hHT1.c _ _
      have w15 : 0 ≤ Xi T1 904 69 ∧ Xi T1 904 69 ≤ 2600 := hHT1.c _ _
      have w16 : 0 ≤ Xi T1 904 8 ∧ Xi T1 904 8 ≤ 5010 := hHT1.c _ _
      have w17 : 0 ≤ Xi T1 904 93 ∧ Xi T1 904 93 ≤ 1700 := hHT1.c _ _
      have w18 : 0 ≤ Xi T1 904 94 ∧ Xi T1 904 94 ≤ 1700 := hHT1.c _ _
      refine l_callV rfl rfl rfl (t_mo_isNext hHT1 n (c - 1) 116 ⟨by omega, by omega⟩ (by first | assumption | exact (TK_FR hFT1 rfl (by assumption : TK S _))) (by first | assumption | exact (by assumption : AT T1 _ _)) _) ?_
      rintro _ _ ⟨rfl, z21, rfl, w21, w19, w20⟩
      show Rl _ _ _ _ _ [iv z21] _ _
      have j8 : z21 = 1 → Xi T1 904 65 = 0 ∧ Xi T1 907 (Xi T1 904 8).toNat = 116 := by assumption
      refine l_if_eq rfl rfl (by unfold rg; omega) (fun w22 => ?_) (fun w23 => ?_)
      · refine l_aload_n rfl rfl ?_
        refine l_aload_n rfl rfl ?_
        refine l_gfi rfl rfl rfl rfl rfl ?_
        refine l_pfi rfl rfl rfl rfl ?_
        obtain ⟨U2, eU2⟩ : ∃ T : sS, T = uI T1 904 94 (Int32.ofInt (Xi T1 904 93)) := ⟨_, rfl⟩
        rw [← eU2]
        have hHU2 : HI U2 := by rw [eU2]; exact HI_w hHT1 (show 0 ≤ (Xi T1 904 93) by omega) (show (Xi T1 904 93) ≤ 1700 by omega)
        have hFU2 : FR md_mo_tests S U2 := by rw [eU2]; exact FR.wI hFT1 (mdf_i (r := (904, 905, 94, 95)) (List.mem_of_getElem? (i := 6) rfl) (inR_i (by omega) (by omega) (by omega) (by omega)))
        have w24 : Xi U2 904 94 = (Xi T1 904 93) := by rw [eU2]; exact Xi_same (by unfold rg; omega)
        have V37 : Xi U2 904 65 = 0 → TVA U2 n (Xi U2 904 93) := fun q i hi => by rw [eU2, Xi_ne (by omega)] at q hi; exact (E5 q i hi).mv (fun k a b => by rw [eU2, Xi_ne (by omega)]) (by rw [eU2, Xi_ne (by omega)]; exact Int.le_refl _) (fun j => by rw [eU2, Xi_ne (by omega)])
        refine l_return rfl rfl ?_
        have w25 : Xi U2 904 65 = Xi T1 904 65 := (show Xi U2 904 65 = Xi T1 904 65 from by rw [eU2]; exact Xi_ne (by omega))
        have w26 : 0 ≤ Xi T1 904 65 ∧ Xi T1 904 65 ≤ 1 := hHT1.c _ _
        have w27 : Xi U2 904 69 = Xi T1 904 69 := (show Xi U2 904 69 = Xi T1 904 69 from by rw [eU2]; exact Xi_ne (by omega))
        have w28 : 0 ≤ Xi T1 904 69 ∧ Xi T1 904 69 ≤ 2600 := hHT1.c _ _
        have w29 : Xi U2 904 8 = Xi T1 904 8 := (show Xi U2 904 8 = Xi T1 904 8 from by rw [eU2]; exact Xi_ne (by omega))
        have w30 : 0 ≤ Xi T1 904 8 ∧ Xi T1 904 8 ≤ 5010 := hHT1.c _ _
        have w31 : Xi U2 904 93 = Xi T1 904 93 := (show Xi U2 904 93 = Xi T1 904 93 from by rw [eU2]; exact Xi_ne (by omega))
        have w32 : 0 ≤ Xi T1 904 93 ∧ Xi T1 904 93 ≤ 1700 := hHT1.c _ _
        have w33 : 0 ≤ Xi U2 904 94 ∧ Xi U2 904 94 ≤ 1700 := hHU2.c _ _
        exact ⟨hHU2, hFU2, rfl, (AT_FR (FR_e eU2) rfl A5), (by omega), (by first | assumption | exact (RNV_FR (FR_e eU2) rfl (by assumption : RNV T1 _))), (by omega), (by omega), (by omega), (by omega), (V37)⟩
      · refine l_aload_n rfl rfl ?_
        refine l_dup rfl rfl ?_
        refine l_gfi rfl rfl rfl rfl rfl ?_
        refine l_iconst rfl ?_
        refine l_iadd rfl ?_
        refine l_pfi rfl rfl rfl rfl ?_
        obtain ⟨U3, eU3⟩ : ∃ T : sS, T = uI T1 904 8 (Int32.ofInt ((Xi T1 904 8) + 1)) := ⟨_, rfl⟩
        rw [← eU3]
        have hHU3 : HI U3 := by rw [eU3]; exact HI_w hHT1 (show 0 ≤ ((Xi T1 904 8) + 1) by omega) (show ((Xi T1 904 8) + 1) ≤ 5010 by omega)
        have hFU3 : FR md_mo_tests S U3 := by rw [eU3]; exact FR.wI hFT1 (mdf_i (r := (904, 905, 8, 9)) (List.mem_of_getElem? (i := 0) rfl) (inR_i (by omega) (by omega) (by omega) (by omega)))
        have w34 : Xi U3 904 8 = ((Xi T1 904 8) + 1) := by rw [eU3]; exact Xi_same (by unfold rg; omega)
        have b21 : Xi T1 904 93 ≤ 1666 := by have t := at_tc A5 hHT1 (by omega); omega
        have t21 : AT U3 n c ∧ _ := at_mv (S := T1) (P := T1) (c2 := c) (TK_FR hFT1 rfl hT) A5 (fun _ => rfl) (fun _ => rfl) rfl rfl rfl rfl eU3 (by omega) (by omega) (by omega) (by omega) (Or.inr ⟨by omega, Or.inl (by omega)⟩)
        have a21 : AT U3 n c := t21.1
        have K21 : KT U3 T1 (Xi T1 904 93) := KT_FR (FR_e eU3) rfl KT.rf
        have x21 : ∀ j, Xi U3 907 j = Xi T1 907 j := fun j => by rw [eU3, Xi_ne (by omega)]
        refine l_aload_n rfl rfl ?_
        refine l_iconst rfl ?_
        have w35 : Xi U3 904 65 = Xi T1 904 65 := (show Xi U3 904 65 = Xi T1 904 65 from by rw [eU3]; exact Xi_ne (by omega))
        have w36 : 0 ≤ Xi T1 904 65 ∧ Xi T1 904 65 ≤ 1 := hHT1.c _ _
        have w37 : Xi U3 904 69 = Xi T1 904 69 := (show Xi U3 904 69 = Xi T1 904 69 from by rw [eU3]; exact Xi_ne (by omega))
        have w38 : 0 ≤ Xi T1 904 69 ∧ Xi T1 904 69 ≤ 2600 := hHT1.c _ _
        have w39 : 0 ≤ Xi U3 904 8 ∧ Xi U3 904 8 ≤ 5010 := hHU3.c _ _
        have w40 : Xi U3 904 93 = Xi T1 904 93 := (show Xi U3 904 93 = Xi T1 904 93 from by rw [eU3]; exact Xi_ne (by omega))
        have w41 : 0 ≤ Xi T1 904 93 ∧ Xi T1 904 93 ≤ 1700 := hHT1.c _ _
        have w42 : Xi U3 904 94 = Xi T1 904 94 := (show Xi U3 904 94 = Xi T1 904 94 from by rw [eU3]; exact Xi_ne (by omega))
        have w43 : 0 ≤ Xi T1 904 94 ∧ Xi T1 904 94 ≤ 1700 := hHT1.c _ _
        refine l_callV rfl rfl rfl (t_mo_test hHU3 n c 0 ⟨by omega, by omega⟩ (by first | assumption | exact (TK_FR hFU3 rfl (by assumption : TK S _))) (by first | assumption | exact (by assumption : AT U3 _ _)) (by first | assumption | exact (RNV_FR (FR_e eU3) rfl (by assumption : RNV T1 _))) (by first | assumption | omega) (by first | assumption | omega) (by first | assumption | omega) _) ?_
        rintro _ T4 ⟨hHT4, w51, rfl, w44, w45, w46, w47, w48, k26, w49, v26⟩
        have hFT4 : FR md_mo_tests S T4 := FR.tr hFU3 w51 rfl
        show Rl _ _ _ _ _ [] _ _
        have V26 : Xi T4 904 65 = 0 → TVA T4 n (Xi T4 904 93) := fun q => ((E5 (by omega)).mv (KT.tr K21 k26 (by omega)) (by omega) (fun j => ((by assumption : FR md_mo_test U3 T4).cx 907 rfl j).1.trans (x21 j))).add (by omega) (by omega) (by rw [show (Xi T1 904 93).toNat = (Xi U3 904 93).toNat by omega]; exact v26 q)
        refine l_goto rfl rfl ?_
        have w52 : 0 ≤ Xi T4 904 65 ∧ Xi T4 904 65 ≤ 1 := hHT4.c _ _
        have w53 : 0 ≤ Xi T4 904 69 ∧ Xi T4 904 69 ≤ 2600 := hHT4.c _ _
        have w54 : 0 ≤ Xi T4 904 8 ∧ Xi T4 904 8 ≤ 5010 := hHT4.c _ _
        have w55 : 0 ≤ Xi T4 904 93 ∧ Xi T4 904 93 ≤ 1700 := hHT4.c _ _
        have w56 : Xi T4 904 94 = Xi T1 904 94 := (show Xi T4 904 94 = Xi U3 904 94 from w51.x _ _ rfl).trans ((show Xi U3 904 94 = Xi T1 904 94 from by rw [eU3]; exact Xi_ne (by omega)))
        have w57 : 0 ≤ Xi T1 904 94 ∧ Xi T1 904 94 ≤ 1700 := hHT1.c _ _
        exact Rl_weak (ih5 _ (by omega) T4 hHT4 hFT4  (by assumption) (by assumption) (by omega) (by omega) (by omega) (by omega) (by omega) (by first | exact V26 | exact V2) rfl) (And.intro rfl (True.intro))
  refine l_aload_n rfl rfl ?_
  refine l_iconst rfl ?_
  have w58 : 0 ≤ Xi S 904 65 ∧ Xi S 904 65 ≤ 1 := hH.c _ _
  have w59 : 0 ≤ Xi S 904 69 ∧ Xi S 904 69 ≤ 2600 := hH.c _ _
  have w60 : 0 ≤ Xi S 904 8 ∧ Xi S 904 8 ≤ 5010 := hH.c _ _
  have w61 : 0 ≤ Xi S 904 93 ∧ Xi S 904 93 ≤ 1700 := hH.c _ _
  have w62 : 0 ≤ Xi S 904 94 ∧ Xi S 904 94 ≤ 1700 := hH.c _ _
  refine l_callV rfl rfl rfl (t_mo_test hH n c 0 ⟨by omega, by omega⟩ (by first | assumption | exact (TK_FR hF rfl (by assumption : TK S _))) (by first | assumption | exact (by assumption : AT S _ _)) (by first | assumption | exact (by assumption : RNV S _)) (by first | assumption | omega) (by first | assumption | omega) (by first | assumption | omega) _) ?_
  rintro _ T5 ⟨hHT5, w70, rfl, w63, w64, w65, w66, w67, k2_, w68, v2_⟩
  have hFT5 : FR md_mo_tests S T5 := FR.tr hF w70 rfl
  show Rl _ _ _ _ _ [] _ _
  have V2 : Xi T5 904 65 = 0 → TVA T5 n (Xi T5 904 93) := fun q i hi => by rw [show i = (Xi S 904 93).toNat by omega]; exact v2_ q
  have w71 : 0 ≤ Xi T5 904 65 ∧ Xi T5 904 65 ≤ 1 := hHT5.c _ _
  have w72 : 0 ≤ Xi T5 904 69 ∧ Xi T5 904 69 ≤ 2600 := hHT5.c _ _
  have w73 : 0 ≤ Xi T5 904 8 ∧ Xi T5 904 8 ≤ 5010 := hHT5.c _ _
  have w74 : 0 ≤ Xi T5 904 93 ∧ Xi T5 904 93 ≤ 1700 := hHT5.c _ _
  have w75 : Xi T5 904 94 = Xi S 904 94 := (show Xi T5 904 94 = Xi S 904 94 from w70.x _ _ rfl)
  have w76 : 0 ≤ Xi S 904 94 ∧ Xi S 904 94 ≤ 1700 := hH.c _ _
  exact Rl_weak (C5 _ T5 hHT5 hFT5  (by assumption) (by assumption) (by omega) (by omega) (by omega) (by omega) (by omega) (by first | exact V26 | exact V2) rfl) (And.intro rfl (True.intro))
abbrev Q_mo_beginsOf__2 (S : sS) (n : Nat) (t : Int) : pst := fun r S1 => S = S1 ∧ (∃ z : Int, r = some (iv z) ∧ (0 ≤ z ∧ z ≤ 1) ∧ (z = 1 → Xi S 907 t.toNat = 102))
set_option maxRecDepth 100000 in
theorem t_mo_beginsOf__2 {S : sS} (hH : HI S) (n : Nat) (t : Int) (ht : 0 ≤ t ∧ t ≤ 5001) (hT : TK S n) (ht : t ≤ n) (d : Nat) : Mt lay0 (d + 1) m_mo_beginsOf [.ref 904, iv t] S (Q_mo_beginsOf__2 S n t) := by
  refine Mt_R rfl rfl ?_
  have hn5 := hT.1
  have C17 : ∀ (n17 : Nat) (v2 : Int), (1 ≤ v2 ∧ v2 ≤ 5001) → (t < v2) → (v2 ≤ n) → (Xi S 907 t.toNat = 102) → n17 = (5002 - v2).toNat → Rl lay0 (d + 0) m_mo_beginsOf 17 [(0, .ref 904), (1, iv t), (2, iv v2)] [] S (Q_mo_beginsOf__2 S n t) := by
    intro n17
    induction n17 using Nat.strongRecOn with
    | ind n17 ih17 =>
      intro v2 w1 w2 w3 w4 hm17
      refine l_aload_n rfl rfl ?_
      refine l_gfr rfl rfl rfl rfl rfl (hH.r 904 4 907 rfl) ?_
      refine l_iload_n rfl rfl ?_
      refine l_iaload (n := 5002) rfl rfl (by omega) (by omega) (by unfold rg; omega) ?_
      have w5 : 0 ≤ (Xi S 907 ((v2).toNat)) ∧ (Xi S 907 ((v2).toNat)) ≤ 154 := hH.c _ _
      have u22 : (Xi S 907 ((v2).toNat)) = 3 → v2 < n := fun q => tk_lt hT (by omega) (by omega) (by omega)
      refine l_iconst rfl ?_
      refine l_icmp_ne rfl rfl (by unfold rg; omega) (by unfold rg; omega) (fun w6 => ?_) (fun w7 => ?_)
      · refine l_iload_n rfl rfl ?_
        refine l_iload_n rfl rfl ?_
        refine l_iconst rfl ?_
        refine l_iadd rfl ?_
        refine l_icmp_le rfl rfl (by unfold rg; omega) (by unfold rg; omega) (fun w8 => ?_) (fun w9 => ?_)
        · refine l_iconst rfl ?_
          refine l_ireturn rfl rfl ?_
          exact ⟨rfl, _, rfl, ⟨by omega, by omega⟩, (by omega)⟩
        · refine l_aload_n rfl rfl ?_
          refine l_gfr rfl rfl rfl rfl rfl (hH.r 904 4 907 rfl) ?_
          refine l_iload_n rfl rfl ?_
          refine l_iaload (n := 5002) rfl rfl (by omega) (by omega) (by unfold rg; omega) ?_
          refine l_bipush rfl rfl ?_
          refine l_icmp_ne rfl rfl (by unfold rg; omega) (by unfold rg; omega) (fun w10 => ?_) (fun w11 => ?_)
          · refine l_iconst rfl ?_
            refine l_ireturn rfl rfl ?_
            exact ⟨rfl, _, rfl, ⟨by omega, by omega⟩, (by omega)⟩
          · refine l_iconst rfl ?_
            refine l_goto rfl rfl ?_
            refine l_ireturn rfl rfl ?_
            exact ⟨rfl, _, rfl, ⟨by omega, by omega⟩, (by omega)⟩
      · refine l_iinc rfl rfl rfl rfl ?_
        refine l_goto rfl rfl ?_
        exact Rl_weak (ih17 _ (by omega) ((v2 + 1)) (by omega) (by omega) (by omega) (by omega) rfl) (And.intro rfl (And.intro rfl (And.intro rfl (True.intro))))
  refine l_iload_n rfl rfl ?_
  refine l_iconst rfl ?_
  refine l_iadd rfl ?_
  refine l_istore_n rfl rfl rfl ?_
  refine l_aload_n rfl rfl ?_
  refine l_gfr rfl rfl rfl rfl rfl (hH.r 904 4 907 rfl) ?_
  refine l_iload_n rfl rfl ?_
  refine l_iaload (n := 5002) rfl rfl (by omega) (by omega) (by unfold rg; omega) ?_
  have w12 : 0 ≤ (Xi S 907 ((t).toNat)) ∧ (Xi S 907 ((t).toNat)) ≤ 154 := hH.c _ _
  have u9 : (Xi S 907 ((t).toNat)) = 102 → t < n := fun q => tk_lt hT (by omega) ht (by omega)
  refine l_bipush rfl rfl ?_
  refine l_icmp_eq rfl rfl (by unfold rg; omega) (by unfold rg; omega) (fun w13 => ?_) (fun w14 => ?_)
  · exact Rl_weak (C17 _ ((t + 1)) (by omega) (by omega) (by omega) (by omega) rfl) (And.intro rfl (And.intro rfl (And.intro rfl (True.intro))))
  · refine l_iconst rfl ?_
    refine l_ireturn rfl rfl ?_
    exact ⟨rfl, _, rfl, ⟨by omega, by omega⟩, (by omega)⟩
abbrev Q_mo_oddOf (S : sS) (n : Nat) (first : Int) : pst := fun r S1 => S = S1 ∧ (∃ z : Int, r = some (iv z) ∧ (-1 ≤ z ∧ z ≤ 5001) ∧ (z ≠ -1 → z ≤ n))
set_option maxRecDepth 100000 in
theorem t_mo_oddOf {S : sS} (hH : HI S) (n : Nat) (first : Int) (hfirst : 0 ≤ first ∧ first ≤ 5001) (hT : TK S n) (ht : first ≤ n) (d : Nat) : Mt lay0 (d + 1) m_mo_oddOf [.ref 904, iv first] S (Q_mo_oddOf S n first) := by
  refine Mt_R rfl rfl ?_
  have hn5 := hT.1
  have C14 : ∀ (n14 : Nat) (v2 : Int), (0 ≤ v2 ∧ v2 ≤ 5001) → (first ≤ v2) → (v2 ≤ n) → n14 = (5002 - v2).toNat → Rl lay0 (d + 0) m_mo_oddOf 14 [(0, .ref 904), (2, iv v2)] [] S (Q_mo_oddOf S n first) := by
    intro n14
    induction n14 using Nat.strongRecOn with
    | ind n14 ih14 =>
      intro v2 w1 w2 w3 hm14
      have C51 : ∀  (v2 : Int), (0 ≤ v2 ∧ v2 ≤ 5001) → (first ≤ v2) → (v2 ≤ n) → Rl lay0 (d + 0) m_mo_oddOf 51 [(0, .ref 904), (2, iv v2)] [] S (Q_mo_oddOf S n first) := by
        intro v2 w4 w5 w6
        refine l_aload_n rfl rfl ?_
        refine l_gfr rfl rfl rfl rfl rfl (hH.r 904 4 907 rfl) ?_
        refine l_iload_n rfl rfl ?_
        refine l_iaload (n := 5002) rfl rfl (by omega) (by omega) (by unfold rg; omega) ?_
        have w7 : 0 ≤ (Xi S 907 ((v2).toNat)) ∧ (Xi S 907 ((v2).toNat)) ≤ 154 := hH.c _ _
        refine l_iconst rfl ?_
        refine l_icmp_ne rfl rfl (by unfold rg; omega) (by unfold rg; omega) (fun w8 => ?_) (fun w9 => ?_)
        · refine l_iconst rfl ?_
          refine l_ireturn rfl rfl ?_
          exact ⟨rfl, _, rfl, ⟨by omega, by omega⟩, (by first | assumption | omega)⟩
        · refine l_iload_n rfl rfl ?_
          refine l_goto rfl rfl ?_
          refine l_ireturn rfl rfl ?_
          exact ⟨rfl, _, rfl, ⟨by omega, by omega⟩, (by first | assumption | omega)⟩
      refine l_aload_n rfl rfl ?_
      refine l_gfr rfl rfl rfl rfl rfl (hH.r 904 4 907 rfl) ?_
      refine l_iload_n rfl rfl ?_
      refine l_iaload (n := 5002) rfl rfl (by omega) (by omega) (by unfold rg; omega) ?_
      have w10 : 0 ≤ (Xi S 907 ((v2).toNat)) ∧ (Xi S 907 ((v2).toNat)) ≤ 154 := hH.c _ _
      refine l_bipush rfl rfl ?_
      refine l_icmp_eq rfl rfl (by unfold rg; omega) (by unfold rg; omega) (fun w11 => ?_) (fun w12 => ?_)
      · exact Rl_weak (C51 (v2) (by omega) (by omega) (by omega)) (And.intro rfl (And.intro rfl (True.intro)))
      · refine l_aload_n rfl rfl ?_
        refine l_gfr rfl rfl rfl rfl rfl (hH.r 904 4 907 rfl) ?_
        refine l_iload_n rfl rfl ?_
        refine l_iaload (n := 5002) rfl rfl (by omega) (by omega) (by unfold rg; omega) ?_
        have u30 : (Xi S 907 ((v2).toNat)) ≠ 1 → v2 < n := fun q => tk_lt hT (by omega) (by omega) q
        refine l_iconst rfl ?_
        refine l_icmp_eq rfl rfl (by unfold rg; omega) (by unfold rg; omega) (fun w13 => ?_) (fun w14 => ?_)
        · exact Rl_weak (C51 (v2) (by omega) (by omega) (by omega)) (And.intro rfl (And.intro rfl (True.intro)))
        · refine l_aload_n rfl rfl ?_
          refine l_gfr rfl rfl rfl rfl rfl (hH.r 904 4 907 rfl) ?_
          refine l_iload_n rfl rfl ?_
          refine l_iaload (n := 5002) rfl rfl (by omega) (by omega) (by unfold rg; omega) ?_
          refine l_iconst rfl ?_
          refine l_icmp_eq rfl rfl (by unfold rg; omega) (by unfold rg; omega) (fun w15 => ?_) (fun w16 => ?_)
          · exact Rl_weak (C51 (v2) (by omega) (by omega) (by omega)) (And.intro rfl (And.intro rfl (True.intro)))
          · refine l_iinc rfl rfl rfl rfl ?_
            refine l_goto rfl rfl ?_
            exact Rl_weak (ih14 _ (by omega) ((v2 + 1)) (by omega) (by omega) (by omega) rfl) (And.intro rfl (And.intro rfl (True.intro)))
  refine l_iload_n rfl rfl ?_
  refine l_istore_n rfl rfl rfl ?_
  refine l_aload_n rfl rfl ?_
  refine l_gfr rfl rfl rfl rfl rfl (hH.r 904 4 907 rfl) ?_
  refine l_iload_n rfl rfl ?_
  refine l_iaload (n := 5002) rfl rfl (by omega) (by omega) (by unfold rg; omega) ?_
  have w17 : 0 ≤ (Xi S 907 ((first).toNat)) ∧ (Xi S 907 ((first).toNat)) ≤ 154 := hH.c _ _
  refine l_iconst rfl ?_
  refine l_icmp_ne rfl rfl (by unfold rg; omega) (by unfold rg; omega) (fun w18 => ?_) (fun w19 => ?_)
  · exact Rl_weak (C14 _ (first) (by omega) (by omega) (by omega) rfl) (And.intro rfl (And.intro rfl (True.intro)))
  · refine l_iconst rfl ?_
    refine l_ireturn rfl rfl ?_
    exact ⟨rfl, _, rfl, ⟨by omega, by omega⟩, (by first | assumption | omega)⟩
/-! SAFETY of the reference: cutting into tokens -/
theorem w1b : ∀ b : Fin 32, 0 ≤ lorF (lshlF 0 5) (b.val : Int) ∧ lorF (lshlF 0 5) (b.val : Int) < 32 := by decide +kernel
theorem w2b : ∀ a b : Fin 32, 0 ≤ lorF (lshlF (a.val : Int) 5) (b.val : Int) ∧ lorF (lshlF (a.val : Int) 5) (b.val : Int) < 1024 := by decide +kernel
theorem w1i {x : Int} (h : 0 ≤ x ∧ x < 32) : 0 ≤ lorF (lshlF 0 5) x ∧ lorF (lshlF 0 5) x < 32 := by
  have t := w1b ⟨x.toNat, by omega⟩
  rw [show ((x.toNat : Nat) : Int) = x by omega] at t
  exact t
theorem w2i {a x : Int} (ha : 0 ≤ a ∧ a < 32) (h : 0 ≤ x ∧ x < 32) : 0 ≤ lorF (lshlF a 5) x ∧ lorF (lshlF a 5) x < 1024 := by
  have t := w2b ⟨a.toNat, by omega⟩ ⟨x.toNat, by omega⟩
  rw [show ((x.toNat : Nat) : Int) = x by omega, show ((a.toNat : Nat) : Int) = a by omega] at t
  exact t
theorem ltr1 {c : Int} (h : ltr c = 1) : 97 ≤ sml c ∧ sml c ≤ 122 := by
  unfold ltr at h
  split at h
  · assumption
  · exact absurd h (by decide)
/-- key words of three letters and more are large -/
def KWM (S : sS) : Prop := ∀ k : Int, 100 ≤ k → k ≤ 154 → K3 k → 1024 ≤ Xj S 911 (k - 100).toNat
/-- the tokens before m; p lies behind the last of them -/
def CT (S : sS) (m p : Int) : Prop := (∀ i : Nat, (i : Int) < m → Xi S 907 i ≠ 1 ∧ (Xi S 907 i = 5 → Xi S 908 i + 1 + Xi S 909 i ≤ 5000)) ∧ (∀ i : Nat, (i : Int) + 1 < m → Xi S 908 i < Xi S 908 (i + 1) ∧ (K3 (Xi S 907 i) → Xi S 908 i + 3 ≤ Xi S 908 (i + 1))) ∧ (∀ i : Nat, (i : Int) + 1 = m → Xi S 908 i < p ∧ (K3 (Xi S 907 i) → Xi S 908 i + 3 ≤ p))
theorem CT.le {S : sS} {m p p2 : Int} (h : CT S m p) (e : p ≤ p2) : CT S m p2 := ⟨h.1, h.2.1, fun i hi => by
  obtain ⟨a, b⟩ := h.2.2 i hi
  exact ⟨by omega, fun q => by have := b q; omega⟩⟩
theorem CT.mv {S T : sS} {m p : Int} (h : CT S m p) (x : ∀ k : Nat, 907 ≤ k → k ≤ 909 → ∀ i : Nat, (i : Int) < m → Xi T k i = Xi S k i) : CT T m p := by
  refine ⟨fun i hi => ?_, fun i hi => ?_, fun i hi => ?_⟩
  · rw [x 907 (by omega) (by omega) i hi, x 908 (by omega) (by omega) i hi, x 909 (by omega) (by omega) i hi]; exact h.1 i hi
  · rw [x 907 (by omega) (by omega) i (by omega), x 908 (by omega) (by omega) i (by omega), x 908 (by omega) (by omega) (i + 1) (by omega)]; exact h.2.1 i hi
  · rw [x 907 (by omega) (by omega) i (by omega), x 908 (by omega) (by omega) i (by omega)]; exact h.2.2 i hi
theorem CT.w {S U : sS} {m p : Int} {k j : Nat} {v : Int32} (h : CT S m p) (e : U = uI S k j v) (hj : m ≤ j) : CT U m p := h.mv (fun k2 _ _ i hi => by rw [e, Xi_ne (by omega)])
theorem CT.add {S : sS} {m p q : Int} (h : CT S m p) (h0 : 0 ≤ m) (hp : Xi S 908 m.toNat = p) (h1 : Xi S 907 m.toNat ≠ 1) (h5 : Xi S 907 m.toNat = 5 → p + 1 + Xi S 909 m.toNat ≤ 5000) (hq : p < q) (hk : K3 (Xi S 907 m.toNat) → p + 3 ≤ q) : CT S (m + 1) q := by
  refine ⟨fun i hi => ?_, fun i hi => ?_, fun i hi => ?_⟩
  · rcases (by omega : (i : Int) < m ∨ i = m.toNat) with c | c
    · exact h.1 i c
    · rw [c]; exact ⟨h1, fun z => by have := h5 z; omega⟩
  · rcases (by omega : (i : Int) + 1 < m ∨ (i : Int) + 1 = m) with c | c
    · exact h.2.1 i c
    · rw [show i + 1 = m.toNat by omega, hp]; exact h.2.2 i c
  · rw [show i = m.toNat by omega, hp]; exact ⟨hq, hk⟩
theorem CT.rf {S : sS} {p : Int} : CT S 0 p := ⟨fun i hi => absurd hi (by omega), fun i hi => absurd hi (by omega), fun i hi => absurd hi (by omega)⟩
/-- texts lie within the story -/
def TXK (S : sS) (n : Nat) : Prop := ∀ i : Nat, i < n → Xi S 907 i = 5 → Xi S 908 i + 1 + Xi S 909 i ≤ 5000
theorem ct_tk {S U1 U2 : sS} {m p : Int} {a b : Int} {j : Nat} (h : CT S m p) (h0 : 0 ≤ m) (hm : m ≤ 5000) (e1 : U1 = uI S 907 j (Int32.ofInt a)) (e2 : U2 = uI U1 908 j (Int32.ofInt b)) (hj : j = m.toNat) (ha : a = 1) (hb : b = p) (hp : 0 ≤ p ∧ p ≤ 5000) : TK U2 m.toNat ∧ TXK U2 m.toNat := by
  have c : CT U2 m p := (h.w e1 (by omega)).w e2 (by omega)
  have x7 : Xi U2 907 m.toNat = 1 := by rw [e2, Xi_ne (by omega), e1, hj, ha]; exact Xi_same ⟨by omega, by omega⟩
  have x8 : Xi U2 908 m.toNat = p := by rw [e2, hj, hb]; exact Xi_same ⟨by omega, by omega⟩
  refine ⟨⟨by omega, x7, fun i hi => (c.1 i (by omega)).1, fun i hi => ?_⟩, fun i hi => (c.1 i (by omega)).2⟩
  rcases (by omega : (i : Int) + 1 < m ∨ (i : Int) + 1 = m) with q | q
  · exact c.2.1 i q
  · rw [show i + 1 = m.toNat by omega, x8]; exact c.2.2 i q
theorem TXK_FR {l : List rec} {S T : sS} {n : Nat} (h : FR l S T) (e : kdis l [(907, 910)] = true) (hT : TXK S n) : TXK T n := by
  have k := h.smk e
  unfold TXK
  simp only [k.x 907 rfl, k.x 908 rfl, k.x 909 rfl]
  exact hT
abbrev Q_mo_blanks (S : sS) (from_ : Int) : pst := fun r S1 => S = S1 ∧ (∃ z : Int, r = some (iv z) ∧ (0 ≤ z ∧ z ≤ 5001) ∧ (from_ ≤ z) ∧ (from_ ≤ Xi S 904 3 → z ≤ Xi S 904 3))
set_option maxRecDepth 100000 in
theorem t_mo_blanks {S : sS} (hH : HI S) (from_ : Int) (hfrom_ : 0 ≤ from_ ∧ from_ ≤ 5001) (d : Nat) : Mt lay0 (d + 1) m_mo_blanks [.ref 904, iv from_] S (Q_mo_blanks S from_) := by
  refine Mt_R rfl rfl ?_
  have w1 : 0 ≤ Xi S 904 3 ∧ Xi S 904 3 ≤ 5000 := hH.c _ _
  have hst : 0 ≤ Xi S 904 3 ∧ Xi S 904 3 ≤ 5000 := hH.c _ _
  have C4 : ∀ (n4 : Nat) (v2 : Int) (v3 : Int), (0 ≤ v2 ∧ v2 ≤ 5001) → (0 ≤ v3 ∧ v3 ≤ 1) → (from_ ≤ v2) → (from_ ≤ Xi S 904 3 → v2 ≤ Xi S 904 3) → n4 = (2 * (5002 - v2) + v3).toNat → Rl lay0 (d + 0) m_mo_blanks 4 [(0, .ref 904), (2, iv v2), (3, iv v3)] [] S (Q_mo_blanks S from_) := by
    intro n4
    induction n4 using Nat.strongRecOn with
    | ind n4 ih4 =>
      intro v2 v3 w2 w3 w4 w5 hm4
      have C10 : ∀ (n10 : Nat) (v2 : Int) (v3 : Int), (0 ≤ v2 ∧ v2 ≤ 5001) → (0 ≤ v3 ∧ v3 ≤ 0) → (from_ ≤ v2) → (from_ ≤ Xi S 904 3 → v2 ≤ Xi S 904 3) → ((2 * (5002 - v2) + v3).toNat ≤ n4) → n10 = (5002 - v2).toNat → Rl lay0 (d + 0) m_mo_blanks 10 [(0, .ref 904), (2, iv v2), (3, iv v3)] [] S (Q_mo_blanks S from_) := by
        intro n10
        induction n10 using Nat.strongRecOn with
        | ind n10 ih10 =>
          intro v2 v3 w6 w7 w8 w9 w10 hm10
          have C68 : ∀  (v2 : Int) (v3 : Int), (0 ≤ v2 ∧ v2 ≤ 5001) → (0 ≤ v3 ∧ v3 ≤ 0) → (from_ ≤ v2) → (from_ ≤ Xi S 904 3 → v2 ≤ Xi S 904 3) → ((2 * (5002 - v2) + v3).toNat ≤ n4) → Rl lay0 (d + 0) m_mo_blanks 68 [(0, .ref 904), (2, iv v2), (3, iv v3)] [] S (Q_mo_blanks S from_) := by
            intro v2 v3 w11 w12 w13 w14 w15
            have C90 : ∀ (n90 : Nat) (v2 : Int) (v4 : Int), (0 ≤ v2 ∧ v2 ≤ 4999) → (0 ≤ v4 ∧ v4 ≤ 5000) → (from_ ≤ v2) → (v2 ≤ v4) → (v4 ≤ Xi S 904 3) → (v2 < Xi S 904 3) → ((2 * (5002 - v2) + v3).toNat ≤ n4) → n90 = (5002 - v4).toNat → Rl lay0 (d + 0) m_mo_blanks 90 [(0, .ref 904), (2, iv v2), (4, iv v4)] [] S (Q_mo_blanks S from_) := by
              intro n90
              induction n90 using Nat.strongRecOn with
              | ind n90 ih90 =>
                intro v2 v4 w16 w17 w18 w19 w20 w21 w22 hm90
                have C117 : ∀  (v2 : Int) (v4 : Int), (0 ≤ v2 ∧ v2 ≤ 4999) → (0 ≤ v4 ∧ v4 ≤ 5000) → (from_ ≤ v2) → (v2 ≤ v4) → (v4 ≤ Xi S 904 3) → (v2 < Xi S 904 3) → ((2 * (5002 - v2) + v3).toNat ≤ n4) → Rl lay0 (d + 0) m_mo_blanks 117 [(0, .ref 904), (2, iv v2), (4, iv v4)] [] S (Q_mo_blanks S from_) := by
                  intro v2 v4 w23 w24 w25 w26 w27 w28 w29
                  refine l_iload rfl rfl ?_
                  refine l_aload_n rfl rfl ?_
                  refine l_gfi rfl rfl rfl rfl rfl ?_
                  refine l_icmp_ge rfl rfl (by unfold rg; omega) (by unfold rg; omega) (fun w30 => ?_) (fun w31 => ?_)
                  · refine l_iconst rfl ?_
                    refine l_istore_n rfl rfl rfl ?_
                    refine l_iload_n rfl rfl ?_
                    refine l_if_eq rfl rfl (by unfold rg; omega) (fun w32 => ?_) (fun w33 => absurd w33 (by omega))
                    · refine l_iload_n rfl rfl ?_
                      refine l_istore_n rfl rfl rfl ?_
                      refine l_goto rfl rfl ?_
                      exact Rl_weak (ih4 _ (by omega) (v2) (0) (by omega) (by omega) (by omega) (by omega) rfl) (And.intro rfl (And.intro rfl (And.intro rfl (True.intro))))
                  · refine l_iconst rfl ?_
                    refine l_goto rfl rfl ?_
                    refine l_istore_n rfl rfl rfl ?_
                    refine l_iload_n rfl rfl ?_
                    refine l_if_eq rfl rfl (by unfold rg; omega) (fun w34 => absurd w34 (by omega)) (fun w35 => ?_)
                    · refine l_iload rfl rfl ?_
                      refine l_iconst rfl ?_
                      refine l_iadd rfl ?_
                      refine l_goto rfl rfl ?_
                      refine l_istore_n rfl rfl rfl ?_
                      refine l_goto rfl rfl ?_
                      exact Rl_weak (ih4 _ (by omega) ((v4 + 1)) (1) (by omega) (by omega) (by omega) (by omega) rfl) (And.intro rfl (And.intro rfl (And.intro rfl (True.intro))))
                refine l_iload rfl rfl ?_
                refine l_aload_n rfl rfl ?_
                refine l_gfi rfl rfl rfl rfl rfl ?_
                refine l_icmp_ge rfl rfl (by unfold rg; omega) (by unfold rg; omega) (fun w36 => ?_) (fun w37 => ?_)
                · exact Rl_weak (C117 (v2) (v4) (by omega) (by omega) (by omega) (by omega) (by omega) (by omega) (by omega)) (And.intro rfl (And.intro rfl (And.intro rfl (True.intro))))
                · refine l_aload_n rfl rfl ?_
                  refine l_gfr rfl rfl rfl rfl rfl (hH.r 904 2 906 rfl) ?_
                  refine l_iload rfl rfl ?_
                  refine l_baload (n := 5000) rfl rfl rfl (by decide) (by omega) (by omega) (by unfold rg; omega) ?_
                  have w38 : -128 ≤ (Xi S 906 ((v4).toNat)) ∧ (Xi S 906 ((v4).toNat)) ≤ 127 := hH.c _ _
                  refine l_bipush rfl rfl ?_
                  refine l_icmp_eq rfl rfl (by unfold rg; omega) (by unfold rg; omega) (fun w39 => ?_) (fun w40 => ?_)
                  · exact Rl_weak (C117 (v2) (v4) (by omega) (by omega) (by omega) (by omega) (by omega) (by omega) (by omega)) (And.intro rfl (And.intro rfl (And.intro rfl (True.intro))))
                  · refine l_iinc rfl rfl rfl rfl ?_
                    refine l_goto rfl rfl ?_
                    exact Rl_weak (ih90 _ (by omega) (v2) ((v4 + 1)) (by omega) (by omega) (by omega) (by omega) (by omega) (by omega) (by omega) rfl) (And.intro rfl (And.intro rfl (And.intro rfl (True.intro))))
            refine l_iload_n rfl rfl ?_
            refine l_aload_n rfl rfl ?_
            refine l_gfi rfl rfl rfl rfl rfl ?_
            refine l_icmp_ge rfl rfl (by unfold rg; omega) (by unfold rg; omega) (fun w41 => ?_) (fun w42 => ?_)
            · exact Rl_weak (ih4 _ (by omega) (v2) (v3) (by omega) (by omega) (by omega) (by omega) rfl) (And.intro rfl (And.intro rfl (And.intro rfl (True.intro))))
            · refine l_aload_n rfl rfl ?_
              refine l_gfr rfl rfl rfl rfl rfl (hH.r 904 2 906 rfl) ?_
              refine l_iload_n rfl rfl ?_
              refine l_baload (n := 5000) rfl rfl rfl (by decide) (by omega) (by omega) (by unfold rg; omega) ?_
              have w43 : -128 ≤ (Xi S 906 ((v2).toNat)) ∧ (Xi S 906 ((v2).toNat)) ≤ 127 := hH.c _ _
              refine l_bipush rfl rfl ?_
              refine l_icmp_ne rfl rfl (by unfold rg; omega) (by unfold rg; omega) (fun w44 => ?_) (fun w45 => ?_)
              · exact Rl_weak (ih4 _ (by omega) (v2) (v3) (by omega) (by omega) (by omega) (by omega) rfl) (And.intro rfl (And.intro rfl (And.intro rfl (True.intro))))
              · refine l_iload_n rfl rfl ?_
                refine l_istore rfl rfl rfl ?_
                exact Rl_weak (C90 _ (v2) (v2) (by omega) (by omega) (by omega) (by omega) (by omega) (by omega) (by omega) rfl) (And.intro rfl (And.intro rfl (And.intro rfl (True.intro))))
          refine l_iload_n rfl rfl ?_
          refine l_aload_n rfl rfl ?_
          refine l_gfi rfl rfl rfl rfl rfl ?_
          refine l_icmp_ge rfl rfl (by unfold rg; omega) (by unfold rg; omega) (fun w46 => ?_) (fun w47 => ?_)
          · exact Rl_weak (C68 (v2) (v3) (by omega) (by omega) (by omega) (by omega) (by omega)) (And.intro rfl (And.intro rfl (And.intro rfl (True.intro))))
          · refine l_aload_n rfl rfl ?_
            refine l_gfr rfl rfl rfl rfl rfl (hH.r 904 2 906 rfl) ?_
            refine l_iload_n rfl rfl ?_
            refine l_baload (n := 5000) rfl rfl rfl (by decide) (by omega) (by omega) (by unfold rg; omega) ?_
            have w48 : -128 ≤ (Xi S 906 ((v2).toNat)) ∧ (Xi S 906 ((v2).toNat)) ≤ 127 := hH.c _ _
            refine l_bipush rfl rfl ?_
            refine l_icmp_eq rfl rfl (by unfold rg; omega) (by unfold rg; omega) (fun w49 => ?_) (fun w50 => ?_)
            · refine l_iinc rfl rfl rfl rfl ?_
              refine l_goto rfl rfl ?_
              exact Rl_weak (ih10 _ (by omega) ((v2 + 1)) (v3) (by omega) (by omega) (by omega) (by omega) (by omega) rfl) (And.intro rfl (And.intro rfl (And.intro rfl (True.intro))))
            · refine l_aload_n rfl rfl ?_
              refine l_gfr rfl rfl rfl rfl rfl (hH.r 904 2 906 rfl) ?_
              refine l_iload_n rfl rfl ?_
              refine l_baload (n := 5000) rfl rfl rfl (by decide) (by omega) (by omega) (by unfold rg; omega) ?_
              refine l_bipush rfl rfl ?_
              refine l_icmp_eq rfl rfl (by unfold rg; omega) (by unfold rg; omega) (fun w51 => ?_) (fun w52 => ?_)
              · refine l_iinc rfl rfl rfl rfl ?_
                refine l_goto rfl rfl ?_
                exact Rl_weak (ih10 _ (by omega) ((v2 + 1)) (v3) (by omega) (by omega) (by omega) (by omega) (by omega) rfl) (And.intro rfl (And.intro rfl (And.intro rfl (True.intro))))
              · refine l_aload_n rfl rfl ?_
                refine l_gfr rfl rfl rfl rfl rfl (hH.r 904 2 906 rfl) ?_
                refine l_iload_n rfl rfl ?_
                refine l_baload (n := 5000) rfl rfl rfl (by decide) (by omega) (by omega) (by unfold rg; omega) ?_
                refine l_bipush rfl rfl ?_
                refine l_icmp_eq rfl rfl (by unfold rg; omega) (by unfold rg; omega) (fun w53 => ?_) (fun w54 => ?_)
                · refine l_iinc rfl rfl rfl rfl ?_
                  refine l_goto rfl rfl ?_
                  exact Rl_weak (ih10 _ (by omega) ((v2 + 1)) (v3) (by omega) (by omega) (by omega) (by omega) (by omega) rfl) (And.intro rfl (And.intro rfl (And.intro rfl (True.intro))))
                · refine l_aload_n rfl rfl ?_
                  refine l_gfr rfl rfl rfl rfl rfl (hH.r 904 2 906 rfl) ?_
                  refine l_iload_n rfl rfl ?_
                  refine l_baload (n := 5000) rfl rfl rfl (by decide) (by omega) (by omega) (by unfold rg; omega) ?_
                  refine l_bipush rfl rfl ?_
                  refine l_icmp_ne rfl rfl (by unfold rg; omega) (by unfold rg; omega) (fun w55 => ?_) (fun w56 => ?_)
                  · exact Rl_weak (C68 (v2) (v3) (by omega) (by omega) (by omega) (by omega) (by omega)) (And.intro rfl (And.intro rfl (And.intro rfl (True.intro))))
                  · refine l_iinc rfl rfl rfl rfl ?_
                    refine l_goto rfl rfl ?_
                    exact Rl_weak (ih10 _ (by omega) ((v2 + 1)) (v3) (by omega) (by omega) (by omega) (by omega) (by omega) rfl) (And.intro rfl (And.intro rfl (And.intro rfl (True.intro))))
      refine l_iload_n rfl rfl ?_
      refine l_if_eq rfl rfl (by unfold rg; omega) (fun w57 => ?_) (fun w58 => ?_)
      · refine l_iload_n rfl rfl ?_
        refine l_ireturn rfl rfl ?_
        exact ⟨rfl, _, rfl, ⟨by omega, by omega⟩, (by first | assumption | omega), (by first | assumption | omega)⟩
      · refine l_iconst rfl ?_
        refine l_istore_n rfl rfl rfl ?_
        exact Rl_weak (C10 _ (v2) (0) (by omega) (by omega) (by omega) (by omega) (by omega) rfl) (And.intro rfl (And.intro rfl (And.intro rfl (True.intro))))
  refine l_iload_n rfl rfl ?_
  refine l_istore_n rfl rfl rfl ?_
  refine l_iconst rfl ?_
  refine l_istore_n rfl rfl rfl ?_
  exact Rl_weak (C4 _ (from_) (1) (by omega) (by omega) (by omega) (by omega) rfl) (And.intro rfl (And.intro rfl (And.intro rfl (True.intro))))
abbrev Q_mo_keyOf__2 (S : sS) (w : Int) : pst := fun r S1 => S = S1 ∧ (∃ z : Int, r = some (iv z) ∧ (0 ≤ z ∧ z ≤ 154) ∧ (z ≠ 3 → 100 ≤ z ∧ w = Xj S 911 (z - 100).toNat))
set_option maxRecDepth 100000 in
theorem t_mo_keyOf__2 {S : sS} (hH : HI S) (w : Int) (hw : rgL w) (d : Nat) : Mt lay0 (d + 1) m_mo_keyOf [.ref 904, jw w] S (Q_mo_keyOf__2 S w) := by
  refine Mt_R rfl rfl ?_
  have hw2 : -9223372036854775808 ≤ w ∧ w < 9223372036854775808 := hw
  have C2 : ∀ (n2 : Nat) (v3 : Int), (0 ≤ v3 ∧ v3 ≤ 55) → n2 = (56 - v3).toNat → Rl lay0 (d + 0) m_mo_keyOf 2 [(0, .ref 904), (1, jw w), (3, iv v3)] [] S (Q_mo_keyOf__2 S w) := by
    intro n2
    induction n2 using Nat.strongRecOn with
    | ind n2 ih2 =>
      intro v3 w1 hm2
      refine l_iload_n rfl rfl ?_
      refine l_bipush rfl rfl ?_
      refine l_icmp_ge rfl rfl (by unfold rg; omega) (by unfold rg; omega) (fun w2 => ?_) (fun w3 => ?_)
      · refine l_iconst rfl ?_
        refine l_ireturn rfl rfl ?_
        exact ⟨rfl, _, rfl, ⟨by omega, by omega⟩, (by first | (exact fun q => absurd rfl q) | (exact fun _ => ⟨by omega, by rw [show (100 + v3 - 100 : Int) = v3 by omega]; omega⟩))⟩
      · refine l_aload_n rfl rfl ?_
        refine l_gfr rfl rfl rfl rfl rfl (hH.r 904 9 911 rfl) ?_
        refine l_iload_n rfl rfl ?_
        refine l_laload (n := 55) rfl rfl (by omega) (by omega) (by unfold rg; omega) ?_
        have w4 : -9223372036854775808 ≤ (Xj S 911 ((v3).toNat)) ∧ (Xj S 911 ((v3).toNat)) < 9223372036854775808 := Xj_rg
        refine l_lload_n rfl rfl ?_
        refine l_lcmp rfl (by unfold rgL; omega) (by unfold rgL; omega) (fun c5 w5 w5a w5b w5c => ?_)
        refine l_if_ne rfl rfl (by unfold rg; omega) (fun w6 => ?_) (fun w7 => ?_)
        · refine l_iinc rfl rfl rfl rfl ?_
          refine l_goto rfl rfl ?_
          exact Rl_weak (ih2 _ (by omega) ((v3 + 1)) (by omega) rfl) (And.intro rfl (And.intro rfl (And.intro rfl (True.intro))))
        · refine l_bipush rfl rfl ?_
          refine l_iload_n rfl rfl ?_
          refine l_iadd rfl ?_
          refine l_ireturn rfl rfl ?_
          exact ⟨rfl, _, rfl, ⟨by omega, by omega⟩, (by first | (exact fun q => absurd rfl q) | (exact fun _ => ⟨by omega, by rw [show (100 + v3 - 100 : Int) = v3 by omega]; omega⟩))⟩
  refine l_iconst rfl ?_
  refine l_istore_n rfl rfl rfl ?_
  exact Rl_weak (C2 _ (0) (by omega) rfl) (And.intro rfl (And.intro rfl (And.intro rfl (True.intro))))
abbrev Q_mo_wordOf__2 (S : sS) (t : Nat) (from_ : Int) (n : Int) : pst := fun r S1 => S = S1 ∧ (∃ z : Int, r = some (jw z) ∧ (n ≤ 2 → 0 ≤ z ∧ z < 1024))
set_option maxRecDepth 100000 in
theorem t_mo_wordOf__2 {S : sS} (hH : HI S) (t : Nat) (from_ : Int) (n : Int) (ht : bp t) (hfrom_ : 0 ≤ from_ ∧ from_ ≤ 5000) (hn : 0 ≤ n ∧ n ≤ 5000) (hn : from_ + n ≤ 5000) (hl : ∀ i : Nat, from_ ≤ (i : Int) → (i : Int) < from_ + n → ltr (Xi S t i) = 1) (d : Nat) : Mt lay0 (d + 3) m_mo_wordOf [.ref t, iv from_, iv n] S (Q_mo_wordOf__2 S t from_ n) := by
  refine Mt_R rfl rfl ?_
  have C5 : ∀ (n5 : Nat) (v3 : Int) (v5 : Int), (0 ≤ v5 ∧ v5 ≤ 5000) → (v5 = 0 → v3 = 0) → (v5 = 1 → 0 ≤ v3 ∧ v3 < 32) → (v5 = 2 → 0 ≤ v3 ∧ v3 < 1024) → (v5 ≤ n) → n5 = (5001 - v5).toNat → Rl lay0 (d + 2) m_mo_wordOf 5 [(0, .ref t), (1, iv from_), (2, iv n), (3, jw v3), (5, iv v5)] [] S (Q_mo_wordOf__2 S t from_ n) := by
    intro n5
    induction n5 using Nat.strongRecOn with
    | ind n5 ih5 =>
      intro v3 v5 w1 w2 w3 w4 w5 hm5
      refine l_iload rfl rfl ?_
      refine l_iload_n rfl rfl ?_
      refine l_icmp_ge rfl rfl (by unfold rg; omega) (by unfold rg; omega) (fun w6 => ?_) (fun w7 => ?_)
      · refine l_lload_n rfl rfl ?_
        refine l_lreturn rfl rfl ?_
        exact ⟨rfl, _, rfl, (by omega)⟩
      · refine l_lload_n rfl rfl ?_
        refine l_iconst rfl ?_
        refine l_lshlF rfl ?_
        have w8 : rgL (lshlF v3 5) := lshlF_rg
        refine l_aload_n rfl rfl ?_
        refine l_iload_n rfl rfl ?_
        refine l_iload rfl rfl ?_
        refine l_iadd rfl ?_
        refine l_baload (n := 5000) rfl (bp_sv (by assumption)) (lay_bp (by assumption)) (by decide) (by omega) (by omega) (by unfold rg; omega) ?_
        have w9 : -128 ≤ (Xi S t (((from_ + v5)).toNat)) ∧ (Xi S t (((from_ + v5)).toNat)) ≤ 127 := bpc hH (by assumption)
        refine l_callS rfl rfl (by decide) rfl (t_mo_small hH (Xi S t (((from_ + v5)).toNat)) ⟨by omega, by omega⟩ _) ?_
        rintro _ _ ⟨rfl, z12, rfl, w12, w10, w11⟩
        show Rl _ _ _ _ _ [iv z12, jw (lshlF v3 5)] _ _
        have y20 : 97 ≤ z12 ∧ z12 ≤ 122 := by rw [(by assumption : z12 = sml _)]; exact ltr1 (hl (from_ + v5).toNat (by omega) (by omega))
        refine l_bipush rfl rfl ?_
        refine l_isub rfl ?_
        refine l_i2l rfl (by unfold rg; omega) ?_
        refine l_lorF rfl ?_
        have w13 : rgL (lorF (lshlF v3 5) (z12 - 96)) := lorF_rg
        have o27 : v5 = 0 → 0 ≤ (lorF (lshlF v3 5) (z12 - 96)) ∧ (lorF (lshlF v3 5) (z12 - 96)) < 32 := fun q => by rw [show v3 = 0 by omega]; exact w1i (by omega)
        have p27 : v5 = 1 → 0 ≤ (lorF (lshlF v3 5) (z12 - 96)) ∧ (lorF (lshlF v3 5) (z12 - 96)) < 1024 := fun q => w2i (by omega) (by omega)
        refine l_lstore_n rfl rfl rfl rfl ?_
        refine l_iinc rfl rfl rfl rfl ?_
        refine l_goto rfl rfl ?_
        exact Rl_weak (ih5 _ (by omega) ((lorF (lshlF v3 5) (z12 - 96))) ((v5 + 1)) (by omega) (by omega) (by omega) (by omega) (by omega) rfl) (And.intro rfl (And.intro rfl (And.intro rfl (And.intro rfl (And.intro rfl (True.intro))))))
  refine l_lconst (z := 0) rfl rfl ?_
  refine l_lstore_n rfl rfl rfl rfl ?_
  refine l_iconst rfl ?_
  refine l_istore rfl rfl rfl ?_
  exact Rl_weak (C5 _ (0) (0) (by omega) (by omega) (by omega) (by omega) (by omega) rfl) (And.intro rfl (And.intro rfl (And.intro rfl (And.intro rfl (And.intro rfl (True.intro))))))
/-! SAFETY of the reference: what a sentence without anything odd leaves -/
def SNQ (S : sS) (n : Nat) : Prop := (Xi S 904 70 ≤ 1 → Xi S 904 81 ≤ n ∧ Xi S 907 (Xi S 904 81).toNat = 5) ∧ (Xi S 904 70 = 1 → 1 ≤ Xi S 904 69) ∧ (Xi S 904 70 = 2 ∨ Xi S 904 70 = 7 ∨ Xi S 904 70 = 8 ∨ Xi S 904 70 = 9 → 2 ≤ Xi S 904 69) ∧ (3 ≤ Xi S 904 70 ∧ Xi S 904 70 ≤ 5 → Xi S 904 102 < Xi S 904 69 ∧ Xi S 904 103 < Xi S 904 69) ∧
  (Xi S 904 70 = 9 → 0 ≤ Xi S 904 78 ∧ Xi S 904 78 ≤ n ∧ (Xi S 907 (Xi S 904 78).toNat ≠ 4 → Xi S 907 (Xi S 904 78).toNat ≠ 5 → 3 ≤ Xi S 904 69)) ∧ (10 ≤ Xi S 904 70 ∧ Xi S 904 70 ≤ 16 → Xi S 904 71 + Xi S 904 72 ≤ Xi S 904 69 ∧ 1 ≤ Xi S 904 72) ∧
  ((10 ≤ Xi S 904 70 ∧ Xi S 904 70 ≤ 12) ∨ (14 ≤ Xi S 904 70 ∧ Xi S 904 70 ≤ 16) → Xi S 904 78 < Xi S 904 69) ∧ (Xi S 904 70 = 12 ∨ (14 ≤ Xi S 904 70 ∧ Xi S 904 70 ≤ 16) → 0 ≤ Xi S 904 78) ∧ (Xi S 904 70 = 13 ∨ Xi S 904 70 = 14 ∨ (Xi S 904 70 = 12 ∧ Xi S 904 73 ≠ 0) → Xi S 904 74 < Xi S 904 69) ∧ (17 ≤ Xi S 904 70 ∧ Xi S 904 70 ≤ 19 → 3 ≤ Xi S 904 69)
theorem SNQ_FR {l : List rec} {S T : sS} {n : Nat} (h : FR l S T) (e : (kdis l [(907, 908)] && mD l [69, 70, 71, 72, 73, 74, 78, 81, 102, 103]) = true) (hq : SNQ S n) : SNQ T n := by
  rw [Bool.and_eq_true] at e
  have k := h.smk e.1
  unfold SNQ
  rw [mD_x h e.2 69 (by decide), mD_x h e.2 70 (by decide), mD_x h e.2 71 (by decide), mD_x h e.2 72 (by decide), mD_x h e.2 73 (by decide), mD_x h e.2 74 (by decide), mD_x h e.2 78 (by decide), mD_x h e.2 81 (by decide), mD_x h e.2 102 (by decide), mD_x h e.2 103 (by decide), k.x 907 rfl, k.x 907 rfl]
  exact hq
theorem TVA_FR {l : List rec} {S T : sS} {n : Nat} {m : Int} (h : FR l S T) (e : (kdis l [(907, 908), (952, 963)] && mD l [69]) = true) (hq : TVA S n m) : TVA T n m := by
  rw [Bool.and_eq_true] at e
  have k := h.smk e.1
  refine hq.mv (fun i _ k2 a b => ?_) (by rw [mD_x h e.2 69 (by decide)]; exact Int.le_refl _) (fun j => k.x 907 rfl j)
  rcases (by omega : k2 = 952 ∨ k2 = 953 ∨ k2 = 954 ∨ k2 = 955 ∨ k2 = 956 ∨ k2 = 957 ∨ k2 = 958 ∨ k2 = 959 ∨ k2 = 960 ∨ k2 = 961 ∨ k2 = 962) with h | h | h | h | h | h | h | h | h | h | h <;> subst h <;> exact k.x _ rfl i
theorem PVA_FR {l : List rec} {S T : sS} {n : Nat} {m : Int} (hH : HI S) (h : FR l S T) (e : (kdis l [(907, 908), (952, 966)] && mD l [69, 93]) = true) (hq : PVA S n m) : PVA T n m := by
  rw [Bool.and_eq_true] at e
  have k := h.smk e.1
  refine hq.mv hH (fun i _ k2 a b => ?_) (fun i _ => ⟨k.x 963 rfl i, k.x 964 rfl i, k.x 965 rfl i⟩) (by rw [mD_x h e.2 69 (by decide)]; exact Int.le_refl _) (by rw [mD_x h e.2 93 (by decide)]; exact Int.le_refl _) (fun j => k.x 907 rfl j)
  rcases (by omega : k2 = 952 ∨ k2 = 953 ∨ k2 = 954 ∨ k2 = 955 ∨ k2 = 956 ∨ k2 = 957 ∨ k2 = 958 ∨ k2 = 959 ∨ k2 = 960 ∨ k2 = 961 ∨ k2 = 962) with h | h | h | h | h | h | h | h | h | h | h <;> subst h <;> exact k.x _ rfl i
theorem at_0 {S : sS} {n : Nat} (hH : HI S) (h8 : Xi S 904 8 ≤ n) (h69 : Xi S 904 69 = 0) (h93 : Xi S 904 93 = 0) : AT S n 0 := fun _ => by
  have a : 0 ≤ Xi S 904 8 ∧ Xi S 904 8 ≤ 5010 := hH.c _ _
  have b : 0 ≤ Xi S 908 (Xi S 904 8).toNat ∧ Xi S 908 (Xi S 904 8).toNat ≤ 5000 := hH.c 908 _
  refine ⟨h8, by omega, fun _ => by omega, by omega⟩
def md_mo_partOne : List rec := [(904, 905, 8, 9), (904, 905, 65, 66), (904, 905, 66, 67), (904, 905, 69, 70), (904, 905, 81, 82), (950, 951, 0, 100000), (951, 952, 0, 100000)]
abbrev Q_mo_partOne (S : sS) (n : Nat) (c : Nat) : pst := fun r S1 => HI S1 ∧ FR md_mo_partOne S S1 ∧ (r = none ∧ (AT S1 n c) ∧ (Xi S 904 8 ≤ Xi S1 904 8 ∧ Xi S1 904 8 ≤ n) ∧ (RNV S1 n) ∧ (Xi S 904 69 ≤ Xi S1 904 69) ∧ (Xi S1 904 65 = 0 → Xi S1 904 81 ≤ n ∧ Xi S 907 (Xi S1 904 81).toNat = 5 ∧ 1 ≤ Xi S1 904 69))
set_option maxRecDepth 100000 in
theorem t_mo_partOne {S : sS} (hH : HI S) (n : Nat) (c : Nat) (hT : TK S n) (hA : AT S n c) (hv : RNV S n) (hb : Xi S 904 65 = 0) (hk : Xi S 907 (Xi S 904 8).toNat ≠ 1) (d : Nat) : Mt lay0 (d + 3) m_mo_partOne [.ref 904] S (Q_mo_partOne S n c) := by
  refine Mt_R rfl rfl ?_
  have hF : FR md_mo_partOne S S := FR.rf
  have w1 : 0 ≤ Xi S 904 65 ∧ Xi S 904 65 ≤ 1 := hH.c _ _
  have w2 : 0 ≤ Xi S 904 69 ∧ Xi S 904 69 ≤ 2600 := hH.c _ _
  have w3 : 0 ≤ Xi S 904 8 ∧ Xi S 904 8 ≤ 5010 := hH.c _ _
  have hn5 := hT.1
  have hat := hA
  have h8 : 0 ≤ Xi S 904 8 ∧ Xi S 904 8 ≤ 5010 := hH.c _ _
  have h69 : 0 ≤ Xi S 904 69 ∧ Xi S 904 69 ≤ 2600 := hH.c _ _
  have ha0 : Xi S 904 65 = 0 → Xi S 904 8 ≤ n := fun q => (hA q).1
  have ha3 : Xi S 904 65 = 0 → 2 * Xi S 904 69 ≤ Xi S 904 8 + 1 := fun q => (hA q).2.1
  clear hat
  have hx := ha0 hb
  refine l_aload_n rfl rfl ?_
  refine l_dup rfl rfl ?_
  refine l_gfi rfl rfl rfl rfl rfl ?_
  refine l_iconst rfl ?_
  refine l_iadd rfl ?_
  refine l_pfi rfl rfl rfl rfl ?_
  obtain ⟨U1, eU1⟩ : ∃ T : sS, T = uI S 904 8 (Int32.ofInt ((Xi S 904 8) + 1)) := ⟨_, rfl⟩
  rw [← eU1]
  have hHU1 : HI U1 := by rw [eU1]; exact HI_w hH (show 0 ≤ ((Xi S 904 8) + 1) by omega) (show ((Xi S 904 8) + 1) ≤ 5010 by omega)
  have hFU1 : FR md_mo_partOne S U1 := by rw [eU1]; exact FR.wI hF (mdf_i (r := (904, 905, 8, 9)) (List.mem_of_getElem? (i := 0) rfl) (inR_i (by omega) (by omega) (by omega) (by omega)))
  have w4 : Xi U1 904 8 = ((Xi S 904 8) + 1) := by rw [eU1]; exact Xi_same (by unfold rg; omega)
  have t7 : AT U1 n c ∧ _ := (at_mv (S := S) (P := S) (TK_FR hF rfl (by assumption : TK S _)) (by first | assumption | exact (by assumption : AT S _ _)) (fun j => rfl) (fun j => rfl) (rfl) (rfl) (rfl) (rfl) eU1 (by omega) (by omega) (by omega) (by omega) (Or.inl rfl))
  have a7 : AT U1 n c := t7.1
  have l7 := t7.2
  refine l_aload_n rfl rfl ?_
  refine l_iconst rfl ?_
  have w5 : Xi U1 904 65 = Xi S 904 65 := (show Xi U1 904 65 = Xi S 904 65 from by rw [eU1]; exact Xi_ne (by omega))
  have w6 : 0 ≤ Xi S 904 65 ∧ Xi S 904 65 ≤ 1 := hH.c _ _
  have w7 : Xi U1 904 69 = Xi S 904 69 := (show Xi U1 904 69 = Xi S 904 69 from by rw [eU1]; exact Xi_ne (by omega))
  have w8 : 0 ≤ Xi S 904 69 ∧ Xi S 904 69 ≤ 2600 := hH.c _ _
  have w9 : 0 ≤ Xi U1 904 8 ∧ Xi U1 904 8 ≤ 5010 := hHU1.c _ _
  have w10 : Xi U1 904 81 = Xi S 904 81 := (show Xi U1 904 81 = Xi S 904 81 from by rw [eU1]; exact Xi_ne (by omega))
  have w11 : 0 ≤ Xi S 904 81 ∧ Xi S 904 81 ≤ 5010 := hH.c _ _
  have w12 : Xi U1 904 93 = Xi S 904 93 := (show Xi U1 904 93 = Xi S 904 93 from by rw [eU1]; exact Xi_ne (by omega))
  have w13 : 0 ≤ Xi S 904 93 ∧ Xi S 904 93 ≤ 1700 := hH.c _ _
  refine l_callV rfl rfl rfl (t_mo_take__2 hHU1 n c 5 ⟨by omega, by omega⟩ (by first | assumption | exact (TK_FR hFU1 rfl (by assumption : TK S _))) (by first | assumption | exact (by assumption : AT U1 _ _)) (by first | assumption | omega) _) ?_
  rintro _ T2 ⟨hHT2, w19, rfl, w14, w15, w16, w17⟩
  have hFT2 : FR md_mo_partOne S T2 := FR.tr hFU1 w19 rfl
  show Rl _ _ _ _ _ [] _ _
  have d12 : Xi T2 904 65 = 0 → ∀ x : Int, x = Xi T2 904 8 - 1 → Xi S 907 x.toNat = 5 := fun q x e => by have t := (by assumption : Xi T2 904 65 = 0 → Xi T2 904 8 = Xi U1 904 8 + 1 ∧ Xi U1 907 (Xi U1 904 8).toNat = 5) q; rw [(hFU1.cx 907 rfl _).1] at t; rw [show x = Xi U1 904 8 by omega]; exact t.2
  refine l_aload_n rfl rfl ?_
  refine l_aload_n rfl rfl ?_
  refine l_gfi rfl rfl rfl rfl rfl ?_
  have w20 : 0 ≤ (Xi T2 904 8) ∧ (Xi T2 904 8) ≤ 5010 := hHT2.c _ _
  refine l_iconst rfl ?_
  refine l_isub rfl ?_
  refine l_pfi rfl rfl rfl rfl ?_
  obtain ⟨U3, eU3⟩ : ∃ T : sS, T = uI T2 904 81 (Int32.ofInt ((Xi T2 904 8) - 1)) := ⟨_, rfl⟩
  rw [← eU3]
  have hHU3 : HI U3 := by rw [eU3]; exact HI_w hHT2 (show 0 ≤ ((Xi T2 904 8) - 1) by omega) (show ((Xi T2 904 8) - 1) ≤ 5010 by omega)
  have hFU3 : FR md_mo_partOne S U3 := by rw [eU3]; exact FR.wI hFT2 (mdf_i (r := (904, 905, 81, 82)) (List.mem_of_getElem? (i := 4) rfl) (inR_i (by omega) (by omega) (by omega) (by omega)))
  have w21 : Xi U3 904 81 = ((Xi T2 904 8) - 1) := by rw [eU3]; exact Xi_same (by unfold rg; omega)
  refine l_aload_n rfl rfl ?_
  refine l_sipush rfl rfl ?_
  have w22 : Xi U3 904 65 = Xi T2 904 65 := (show Xi U3 904 65 = Xi T2 904 65 from by rw [eU3]; exact Xi_ne (by omega))
  have w23 : 0 ≤ Xi T2 904 65 ∧ Xi T2 904 65 ≤ 1 := hHT2.c _ _
  have w24 : Xi U3 904 69 = Xi S 904 69 := (show Xi U3 904 69 = Xi T2 904 69 from by rw [eU3]; exact Xi_ne (by omega)).trans ( (show Xi T2 904 69 = Xi U1 904 69 from w19.x _ _ rfl).trans ((show Xi U1 904 69 = Xi S 904 69 from by rw [eU1]; exact Xi_ne (by omega))))
  have w25 : 0 ≤ Xi S 904 69 ∧ Xi S 904 69 ≤ 2600 := hH.c _ _
  have w26 : Xi U3 904 8 = Xi T2 904 8 := (show Xi U3 904 8 = Xi T2 904 8 from by rw [eU3]; exact Xi_ne (by omega))
  have w27 : 0 ≤ Xi T2 904 8 ∧ Xi T2 904 8 ≤ 5010 := hHT2.c _ _
  have w28 : 0 ≤ Xi U3 904 81 ∧ Xi U3 904 81 ≤ 5010 := hHU3.c _ _
  have w29 : Xi U3 904 93 = Xi S 904 93 := (show Xi U3 904 93 = Xi T2 904 93 from by rw [eU3]; exact Xi_ne (by omega)).trans ( (show Xi T2 904 93 = Xi U1 904 93 from w19.x _ _ rfl).trans ((show Xi U1 904 93 = Xi S 904 93 from by rw [eU1]; exact Xi_ne (by omega))))
  have w30 : 0 ≤ Xi S 904 93 ∧ Xi S 904 93 ≤ 1700 := hH.c _ _
  refine l_callV rfl rfl rfl (t_mo_take__2 hHU3 n c 134 ⟨by omega, by omega⟩ (by first | assumption | exact (TK_FR hFU3 rfl (by assumption : TK S _))) (by first | assumption | exact (AT_FR (FR_e eU3) rfl (by assumption : AT T2 _ _))) (by first | assumption | omega) _) ?_
  rintro _ T4 ⟨hHT4, w36, rfl, w31, w32, w33, w34⟩
  have hFT4 : FR md_mo_partOne S T4 := FR.tr hFU3 w36 rfl
  show Rl _ _ _ _ _ [] _ _
  refine l_aload_n rfl rfl ?_
  have w37 : 0 ≤ Xi T4 904 65 ∧ Xi T4 904 65 ≤ 1 := hHT4.c _ _
  have w38 : Xi T4 904 69 = Xi S 904 69 := (show Xi T4 904 69 = Xi U3 904 69 from w36.x _ _ rfl).trans ( (show Xi U3 904 69 = Xi T2 904 69 from by rw [eU3]; exact Xi_ne (by omega)).trans ( (show Xi T2 904 69 = Xi U1 904 69 from w19.x _ _ rfl).trans ((show Xi U1 904 69 = Xi S 904 69 from by rw [eU1]; exact Xi_ne (by omega)))))
  have w39 : 0 ≤ Xi S 904 69 ∧ Xi S 904 69 ≤ 2600 := hH.c _ _
  have w40 : 0 ≤ Xi T4 904 8 ∧ Xi T4 904 8 ≤ 5010 := hHT4.c _ _
  have w41 : Xi T4 904 81 = Xi U3 904 81 := (show Xi T4 904 81 = Xi U3 904 81 from w36.x _ _ rfl)
  have w42 : 0 ≤ Xi U3 904 81 ∧ Xi U3 904 81 ≤ 5010 := hHU3.c _ _
  have w43 : Xi T4 904 93 = Xi S 904 93 := (show Xi T4 904 93 = Xi U3 904 93 from w36.x _ _ rfl).trans ( (show Xi U3 904 93 = Xi T2 904 93 from by rw [eU3]; exact Xi_ne (by omega)).trans ( (show Xi T2 904 93 = Xi U1 904 93 from w19.x _ _ rfl).trans ((show Xi U1 904 93 = Xi S 904 93 from by rw [eU1]; exact Xi_ne (by omega)))))
  have w44 : 0 ≤ Xi S 904 93 ∧ Xi S 904 93 ≤ 1700 := hH.c _ _
  refine l_callV rfl rfl rfl (t_mo_run hHT4 n c (by first | assumption | exact (TK_FR hFT4 rfl (by assumption : TK S _))) (by first | assumption | exact (by assumption : AT T4 _ _)) (by first | assumption | exact (RNV_FR w36 rfl (RNV_FR (FR_e eU3) rfl (RNV_FR w19 rfl (RNV_FR (FR_e eU1) rfl (by assumption : RNV S _)))))) _) ?_
  rintro _ T5 ⟨hHT5, w51, z50, rfl, w50, w45, w46, w47, w48, w49⟩
  have hFT5 : FR md_mo_partOne S T5 := FR.tr hFT4 w51 rfl
  show Rl _ _ _ _ _ [iv z50] _ _
  refine l_pop rfl rfl ?_
  refine l_return rfl rfl ?_
  have w52 : 0 ≤ Xi T5 904 65 ∧ Xi T5 904 65 ≤ 1 := hHT5.c _ _
  have w53 : 0 ≤ Xi T5 904 69 ∧ Xi T5 904 69 ≤ 2600 := hHT5.c _ _
  have w54 : 0 ≤ Xi T5 904 8 ∧ Xi T5 904 8 ≤ 5010 := hHT5.c _ _
  have w55 : Xi T5 904 81 = Xi U3 904 81 := (show Xi T5 904 81 = Xi T4 904 81 from w51.x _ _ rfl).trans ((show Xi T4 904 81 = Xi U3 904 81 from w36.x _ _ rfl))
  have w56 : 0 ≤ Xi U3 904 81 ∧ Xi U3 904 81 ≤ 5010 := hHU3.c _ _
  have w57 : Xi T5 904 93 = Xi S 904 93 := (show Xi T5 904 93 = Xi T4 904 93 from w51.x _ _ rfl).trans ( (show Xi T4 904 93 = Xi U3 904 93 from w36.x _ _ rfl).trans ( (show Xi U3 904 93 = Xi T2 904 93 from by rw [eU3]; exact Xi_ne (by omega)).trans ( (show Xi T2 904 93 = Xi U1 904 93 from w19.x _ _ rfl).trans ((show Xi U1 904 93 = Xi S 904 93 from by rw [eU1]; exact Xi_ne (by omega))))))
  have w58 : 0 ≤ Xi S 904 93 ∧ Xi S 904 93 ≤ 1700 := hH.c _ _
  exact ⟨hHT5, hFT5, rfl, (by first | assumption | exact (by assumption : AT T5 _ _)), (by omega), (by first | assumption | exact (by assumption : RNV T5 _)), (by omega), (fun q => ⟨by omega, d12 (by omega) _ (by omega), by omega⟩)⟩
def md_mo_partTwo : List rec := [(904, 905, 8, 9), (904, 905, 65, 66), (904, 905, 66, 67), (904, 905, 69, 70), (904, 905, 78, 79), (904, 905, 93, 94), (904, 905, 94, 95), (904, 905, 99, 100), (904, 905, 100, 101), (904, 905, 101, 102), (950, 951, 0, 100000), (951, 952, 0, 100000), (952, 953, 0, 100000), (953, 954, 0, 100000), (954, 955, 0, 100000), (955, 956, 0, 100000), (956, 957, 0, 100000), (957, 958, 0, 100000), (958, 959, 0, 100000), (959, 960, 0, 100000), (960, 961, 0, 100000), (961, 962, 0, 100000), (962, 963, 0, 100000)]
abbrev Q_mo_partTwo (S : sS) (n : Nat) (c : Nat) : pst := fun r S1 => HI S1 ∧ FR md_mo_partTwo S S1 ∧ (r = none ∧ (AT S1 n c) ∧ (Xi S 904 8 ≤ Xi S1 904 8 ∧ Xi S1 904 8 ≤ n) ∧ (RNV S1 n) ∧ (Xi S 904 69 ≤ Xi S1 904 69) ∧ (Xi S1 904 65 = 0 → 2 ≤ Xi S1 904 69) ∧ (Xi S1 904 94 ≤ 1668) ∧ (Xi S1 904 65 = 0 → TVA S1 n (Xi S1 904 94)))
set_option maxRecDepth 100000 in
theorem t_mo_partTwo {S : sS} (hH : HI S) (n : Nat) (c : Nat) (hT : TK S n) (hA : AT S n c) (hv : RNV S n) (hb : Xi S 904 65 = 0) (hk : Xi S 907 (Xi S 904 8).toNat = 135) (z1 : Xi S 904 93 = 0) (d : Nat) : Mt lay0 (d + 8) m_mo_partTwo [.ref 904] S (Q_mo_partTwo S n c) := by
  refine Mt_R rfl rfl ?_
  have hF : FR md_mo_partTwo S S := FR.rf
  have w1 : 0 ≤ Xi S 904 65 ∧ Xi S 904 65 ≤ 1 := hH.c _ _
  have w2 : 0 ≤ Xi S 904 69 ∧ Xi S 904 69 ≤ 2600 := hH.c _ _
  have w3 : 0 ≤ Xi S 904 8 ∧ Xi S 904 8 ≤ 5010 := hH.c _ _
  have w4 : 0 ≤ Xi S 904 93 ∧ Xi S 904 93 ≤ 1700 := hH.c _ _
  have hn5 := hT.1
  have hat := hA
  have h8 : 0 ≤ Xi S 904 8 ∧ Xi S 904 8 ≤ 5010 := hH.c _ _
  have h69 : 0 ≤ Xi S 904 69 ∧ Xi S 904 69 ≤ 2600 := hH.c _ _
  have ha0 : Xi S 904 65 = 0 → Xi S 904 8 ≤ n := fun q => (hA q).1
  have ha3 : Xi S 904 65 = 0 → 2 * Xi S 904 69 ≤ Xi S 904 8 + 1 := fun q => (hA q).2.1
  clear hat
  have hx := ha0 hb
  refine l_aload_n rfl rfl ?_
  refine l_dup rfl rfl ?_
  refine l_gfi rfl rfl rfl rfl rfl ?_
  refine l_iconst rfl ?_
  refine l_iadd rfl ?_
  refine l_pfi rfl rfl rfl rfl ?_
  obtain ⟨U1, eU1⟩ : ∃ T : sS, T = uI S 904 8 (Int32.ofInt ((Xi S 904 8) + 1)) := ⟨_, rfl⟩
  rw [← eU1]
  have hHU1 : HI U1 := by rw [eU1]; exact HI_w hH (show 0 ≤ ((Xi S 904 8) + 1) by omega) (show ((Xi S 904 8) + 1) ≤ 5010 by omega)
  have hFU1 : FR md_mo_partTwo S U1 := by rw [eU1]; exact FR.wI hF (mdf_i (r := (904, 905, 8, 9)) (List.mem_of_getElem? (i := 0) rfl) (inR_i (by omega) (by omega) (by omega) (by omega)))
  have w5 : Xi U1 904 8 = ((Xi S 904 8) + 1) := by rw [eU1]; exact Xi_same (by unfold rg; omega)
  have t7 : AT U1 n (c + 1) ∧ _ := (at_mv (S := S) (P := S) (TK_FR hF rfl (by assumption : TK S _)) (by first | assumption | exact (by assumption : AT S _ _)) (fun j => rfl) (fun j => rfl) (rfl) (rfl) (rfl) (rfl) eU1 (by omega) (by omega) (by omega) (by omega) (Or.inr ⟨rfl, by unfold K3; omega⟩))
  have a7 : AT U1 n (c + 1) := t7.1
  have l7 := t7.2
  refine l_aload_n rfl rfl ?_
  refine l_bipush rfl rfl ?_
  have w6 : Xi U1 904 65 = Xi S 904 65 := (show Xi U1 904 65 = Xi S 904 65 from by rw [eU1]; exact Xi_ne (by omega))
  have w7 : 0 ≤ Xi S 904 65 ∧ Xi S 904 65 ≤ 1 := hH.c _ _
  have w8 : Xi U1 904 69 = Xi S 904 69 := (show Xi U1 904 69 = Xi S 904 69 from by rw [eU1]; exact Xi_ne (by omega))
  have w9 : 0 ≤ Xi S 904 69 ∧ Xi S 904 69 ≤ 2600 := hH.c _ _
  have w10 : 0 ≤ Xi U1 904 8 ∧ Xi U1 904 8 ≤ 5010 := hHU1.c _ _
  have w11 : Xi U1 904 93 = Xi S 904 93 := (show Xi U1 904 93 = Xi S 904 93 from by rw [eU1]; exact Xi_ne (by omega))
  have w12 : 0 ≤ Xi S 904 93 ∧ Xi S 904 93 ≤ 1700 := hH.c _ _
  have w13 : Xi U1 904 94 = Xi S 904 94 := (show Xi U1 904 94 = Xi S 904 94 from by rw [eU1]; exact Xi_ne (by omega))
  have w14 : 0 ≤ Xi S 904 94 ∧ Xi S 904 94 ≤ 1700 := hH.c _ _
  refine l_callV rfl rfl rfl (t_mo_take__2 hHU1 n (c + 1) 58 ⟨by omega, by omega⟩ (by first | assumption | exact (TK_FR hFU1 rfl (by assumption : TK S _))) (by first | assumption | exact (by assumption : AT U1 _ _)) (by first | assumption | omega) _) ?_
  rintro _ T2 ⟨hHT2, w20, rfl, w15, w16, w17, w18⟩
  have hFT2 : FR md_mo_partTwo S T2 := FR.tr hFU1 w20 rfl
  show Rl _ _ _ _ _ [] _ _
  refine l_aload_n rfl rfl ?_
  have w21 : 0 ≤ Xi T2 904 65 ∧ Xi T2 904 65 ≤ 1 := hHT2.c _ _
  have w22 : Xi T2 904 69 = Xi S 904 69 := (show Xi T2 904 69 = Xi U1 904 69 from w20.x _ _ rfl).trans ((show Xi U1 904 69 = Xi S 904 69 from by rw [eU1]; exact Xi_ne (by omega)))
  have w23 : 0 ≤ Xi S 904 69 ∧ Xi S 904 69 ≤ 2600 := hH.c _ _
  have w24 : 0 ≤ Xi T2 904 8 ∧ Xi T2 904 8 ≤ 5010 := hHT2.c _ _
  have w25 : Xi T2 904 93 = Xi S 904 93 := (show Xi T2 904 93 = Xi U1 904 93 from w20.x _ _ rfl).trans ((show Xi U1 904 93 = Xi S 904 93 from by rw [eU1]; exact Xi_ne (by omega)))
  have w26 : 0 ≤ Xi S 904 93 ∧ Xi S 904 93 ≤ 1700 := hH.c _ _
  have w27 : Xi T2 904 94 = Xi S 904 94 := (show Xi T2 904 94 = Xi U1 904 94 from w20.x _ _ rfl).trans ((show Xi U1 904 94 = Xi S 904 94 from by rw [eU1]; exact Xi_ne (by omega)))
  have w28 : 0 ≤ Xi S 904 94 ∧ Xi S 904 94 ≤ 1700 := hH.c _ _
  refine l_callV rfl rfl rfl (t_mo_art__2 hHT2 n (c + 1) (by first | assumption | exact (TK_FR hFT2 rfl (by assumption : TK S _))) (by first | assumption | exact (by assumption : AT T2 _ _)) _) ?_
  rintro _ T3 ⟨hHT3, w33, rfl, w29, w30, w31⟩
  have hFT3 : FR md_mo_partTwo S T3 := FR.tr hFT2 w33 rfl
  show Rl _ _ _ _ _ [] _ _
  refine l_aload_n rfl rfl ?_
  have w34 : 0 ≤ Xi T3 904 65 ∧ Xi T3 904 65 ≤ 1 := hHT3.c _ _
  have w35 : Xi T3 904 69 = Xi S 904 69 := (show Xi T3 904 69 = Xi T2 904 69 from w33.x _ _ rfl).trans ( (show Xi T2 904 69 = Xi U1 904 69 from w20.x _ _ rfl).trans ((show Xi U1 904 69 = Xi S 904 69 from by rw [eU1]; exact Xi_ne (by omega))))
  have w36 : 0 ≤ Xi S 904 69 ∧ Xi S 904 69 ≤ 2600 := hH.c _ _
  have w37 : 0 ≤ Xi T3 904 8 ∧ Xi T3 904 8 ≤ 5010 := hHT3.c _ _
  have w38 : Xi T3 904 93 = Xi S 904 93 := (show Xi T3 904 93 = Xi T2 904 93 from w33.x _ _ rfl).trans ( (show Xi T2 904 93 = Xi U1 904 93 from w20.x _ _ rfl).trans ((show Xi U1 904 93 = Xi S 904 93 from by rw [eU1]; exact Xi_ne (by omega))))
  have w39 : 0 ≤ Xi S 904 93 ∧ Xi S 904 93 ≤ 1700 := hH.c _ _
  have w40 : Xi T3 904 94 = Xi S 904 94 := (show Xi T3 904 94 = Xi T2 904 94 from w33.x _ _ rfl).trans ( (show Xi T2 904 94 = Xi U1 904 94 from w20.x _ _ rfl).trans ((show Xi U1 904 94 = Xi S 904 94 from by rw [eU1]; exact Xi_ne (by omega))))
  have w41 : 0 ≤ Xi S 904 94 ∧ Xi S 904 94 ≤ 1700 := hH.c _ _
  refine l_callV rfl rfl rfl (t_mo_run hHT3 n (c + 1) (by first | assumption | exact (TK_FR hFT3 rfl (by assumption : TK S _))) (by first | assumption | exact (by assumption : AT T3 _ _)) (by first | assumption | exact (RNV_FR w33 rfl (RNV_FR w20 rfl (RNV_FR (FR_e eU1) rfl (by assumption : RNV S _))))) _) ?_
  rintro _ T4 ⟨hHT4, w48, z47, rfl, w47, w42, w43, w44, w45, w46⟩
  have hFT4 : FR md_mo_partTwo S T4 := FR.tr hFT3 w48 rfl
  show Rl _ _ _ _ _ [iv z47] _ _
  refine l_pop rfl rfl ?_
  refine l_aload_n rfl rfl ?_
  refine l_bipush rfl rfl ?_
  have w49 : 0 ≤ Xi T4 904 65 ∧ Xi T4 904 65 ≤ 1 := hHT4.c _ _
  have w50 : 0 ≤ Xi T4 904 69 ∧ Xi T4 904 69 ≤ 2600 := hHT4.c _ _
  have w51 : 0 ≤ Xi T4 904 8 ∧ Xi T4 904 8 ≤ 5010 := hHT4.c _ _
  have w52 : Xi T4 904 93 = Xi S 904 93 := (show Xi T4 904 93 = Xi T3 904 93 from w48.x _ _ rfl).trans ( (show Xi T3 904 93 = Xi T2 904 93 from w33.x _ _ rfl).trans ( (show Xi T2 904 93 = Xi U1 904 93 from w20.x _ _ rfl).trans ((show Xi U1 904 93 = Xi S 904 93 from by rw [eU1]; exact Xi_ne (by omega)))))
  have w53 : 0 ≤ Xi S 904 93 ∧ Xi S 904 93 ≤ 1700 := hH.c _ _
  have w54 : Xi T4 904 94 = Xi S 904 94 := (show Xi T4 904 94 = Xi T3 904 94 from w48.x _ _ rfl).trans ( (show Xi T3 904 94 = Xi T2 904 94 from w33.x _ _ rfl).trans ( (show Xi T2 904 94 = Xi U1 904 94 from w20.x _ _ rfl).trans ((show Xi U1 904 94 = Xi S 904 94 from by rw [eU1]; exact Xi_ne (by omega)))))
  have w55 : 0 ≤ Xi S 904 94 ∧ Xi S 904 94 ≤ 1700 := hH.c _ _
  refine l_callV rfl rfl rfl (t_mo_take__2 hHT4 n (c + 1) 104 ⟨by omega, by omega⟩ (by first | assumption | exact (TK_FR hFT4 rfl (by assumption : TK S _))) (by first | assumption | exact (by assumption : AT T4 _ _)) (by first | assumption | omega) _) ?_
  rintro _ T5 ⟨hHT5, w61, rfl, w56, w57, w58, w59⟩
  have hFT5 : FR md_mo_partTwo S T5 := FR.tr hFT4 w61 rfl
  show Rl _ _ _ _ _ [] _ _
  refine l_aload_n rfl rfl ?_
  have w62 : 0 ≤ Xi T5 904 65 ∧ Xi T5 904 65 ≤ 1 := hHT5.c _ _
  have w63 : Xi T5 904 69 = Xi T4 904 69 := (show Xi T5 904 69 = Xi T4 904 69 from w61.x _ _ rfl)
  have w64 : 0 ≤ Xi T4 904 69 ∧ Xi T4 904 69 ≤ 2600 := hHT4.c _ _
  have w65 : 0 ≤ Xi T5 904 8 ∧ Xi T5 904 8 ≤ 5010 := hHT5.c _ _
  have w66 : Xi T5 904 93 = Xi S 904 93 := (show Xi T5 904 93 = Xi T4 904 93 from w61.x _ _ rfl).trans ( (show Xi T4 904 93 = Xi T3 904 93 from w48.x _ _ rfl).trans ( (show Xi T3 904 93 = Xi T2 904 93 from w33.x _ _ rfl).trans ( (show Xi T2 904 93 = Xi U1 904 93 from w20.x _ _ rfl).trans ((show Xi U1 904 93 = Xi S 904 93 from by rw [eU1]; exact Xi_ne (by omega))))))
  have w67 : 0 ≤ Xi S 904 93 ∧ Xi S 904 93 ≤ 1700 := hH.c _ _
  have w68 : Xi T5 904 94 = Xi S 904 94 := (show Xi T5 904 94 = Xi T4 904 94 from w61.x _ _ rfl).trans ( (show Xi T4 904 94 = Xi T3 904 94 from w48.x _ _ rfl).trans ( (show Xi T3 904 94 = Xi T2 904 94 from w33.x _ _ rfl).trans ( (show Xi T2 904 94 = Xi U1 904 94 from w20.x _ _ rfl).trans ((show Xi U1 904 94 = Xi S 904 94 from by rw [eU1]; exact Xi_ne (by omega))))))
  have w69 : 0 ≤ Xi S 904 94 ∧ Xi S 904 94 ≤ 1700 := hH.c _ _
  refine l_callV rfl rfl rfl (t_mo_run hHT5 n (c + 1) (by first | assumption | exact (TK_FR hFT5 rfl (by assumption : TK S _))) (by first | assumption | exact (by assumption : AT T5 _ _)) (by first | assumption | exact (RNV_FR w61 rfl (by assumption : RNV T4 _))) _) ?_
  rintro _ T6 ⟨hHT6, w76, z75, rfl, w75, w70, w71, w72, w73, w74⟩
  have hFT6 : FR md_mo_partTwo S T6 := FR.tr hFT5 w76 rfl
  show Rl _ _ _ _ _ [iv z75] _ _
  refine l_pop rfl rfl ?_
  refine l_aload_n rfl rfl ?_
  refine l_sipush rfl rfl ?_
  have w77 : 0 ≤ Xi T6 904 65 ∧ Xi T6 904 65 ≤ 1 := hHT6.c _ _
  have w78 : 0 ≤ Xi T6 904 69 ∧ Xi T6 904 69 ≤ 2600 := hHT6.c _ _
  have w79 : 0 ≤ Xi T6 904 8 ∧ Xi T6 904 8 ≤ 5010 := hHT6.c _ _
  have w80 : Xi T6 904 93 = Xi S 904 93 := (show Xi T6 904 93 = Xi T5 904 93 from w76.x _ _ rfl).trans ( (show Xi T5 904 93 = Xi T4 904 93 from w61.x _ _ rfl).trans ( (show Xi T4 904 93 = Xi T3 904 93 from w48.x _ _ rfl).trans ( (show Xi T3 904 93 = Xi T2 904 93 from w33.x _ _ rfl).trans ( (show Xi T2 904 93 = Xi U1 904 93 from w20.x _ _ rfl).trans ((show Xi U1 904 93 = Xi S 904 93 from by rw [eU1]; exact Xi_ne (by omega)))))))
  have w81 : 0 ≤ Xi S 904 93 ∧ Xi S 904 93 ≤ 1700 := hH.c _ _
  have w82 : Xi T6 904 94 = Xi S 904 94 := (show Xi T6 904 94 = Xi T5 904 94 from w76.x _ _ rfl).trans ( (show Xi T5 904 94 = Xi T4 904 94 from w61.x _ _ rfl).trans ( (show Xi T4 904 94 = Xi T3 904 94 from w48.x _ _ rfl).trans ( (show Xi T3 904 94 = Xi T2 904 94 from w33.x _ _ rfl).trans ( (show Xi T2 904 94 = Xi U1 904 94 from w20.x _ _ rfl).trans ((show Xi U1 904 94 = Xi S 904 94 from by rw [eU1]; exact Xi_ne (by omega)))))))
  have w83 : 0 ≤ Xi S 904 94 ∧ Xi S 904 94 ≤ 1700 := hH.c _ _
  refine l_callV rfl rfl rfl (t_mo_take__2 hHT6 n (c + 1) 136 ⟨by omega, by omega⟩ (by first | assumption | exact (TK_FR hFT6 rfl (by assumption : TK S _))) (by first | assumption | exact (by assumption : AT T6 _ _)) (by first | assumption | omega) _) ?_
  rintro _ T7 ⟨hHT7, w89, rfl, w84, w85, w86, w87⟩
  have hFT7 : FR md_mo_partTwo S T7 := FR.tr hFT6 w89 rfl
  show Rl _ _ _ _ _ [] _ _
  refine l_aload_n rfl rfl ?_
  have w90 : 0 ≤ Xi T7 904 65 ∧ Xi T7 904 65 ≤ 1 := hHT7.c _ _
  have w91 : Xi T7 904 69 = Xi T6 904 69 := (show Xi T7 904 69 = Xi T6 904 69 from w89.x _ _ rfl)
  have w92 : 0 ≤ Xi T6 904 69 ∧ Xi T6 904 69 ≤ 2600 := hHT6.c _ _
  have w93 : 0 ≤ Xi T7 904 8 ∧ Xi T7 904 8 ≤ 5010 := hHT7.c _ _
  have w94 : Xi T7 904 93 = Xi S 904 93 := (show Xi T7 904 93 = Xi T6 904 93 from w89.x _ _ rfl).trans ( (show Xi T6 904 93 = Xi T5 904 93 from w76.x _ _ rfl).trans ( (show Xi T5 904 93 = Xi T4 904 93 from w61.x _ _ rfl).trans ( (show Xi T4 904 93 = Xi T3 904 93 from w48.x _ _ rfl).trans ( (show Xi T3 904 93 = Xi T2 904 93 from w33.x _ _ rfl).trans ( (show Xi T2 904 93 = Xi U1 904 93 from w20.x _ _ rfl).trans ((show Xi U1 904 93 = Xi S 904 93 from by rw [eU1]; exact Xi_ne (by omega))))))))
  have w95 : 0 ≤ Xi S 904 93 ∧ Xi S 904 93 ≤ 1700 := hH.c _ _
  have w96 : Xi T7 904 94 = Xi S 904 94 := (show Xi T7 904 94 = Xi T6 904 94 from w89.x _ _ rfl).trans ( (show Xi T6 904 94 = Xi T5 904 94 from w76.x _ _ rfl).trans ( (show Xi T5 904 94 = Xi T4 904 94 from w61.x _ _ rfl).trans ( (show Xi T4 904 94 = Xi T3 904 94 from w48.x _ _ rfl).trans ( (show Xi T3 904 94 = Xi T2 904 94 from w33.x _ _ rfl).trans ( (show Xi T2 904 94 = Xi U1 904 94 from w20.x _ _ rfl).trans ((show Xi U1 904 94 = Xi S 904 94 from by rw [eU1]; exact Xi_ne (by omega))))))))
  have w97 : 0 ≤ Xi S 904 94 ∧ Xi S 904 94 ≤ 1700 := hH.c _ _
  refine l_callV rfl rfl rfl (t_mo_tests hHT7 n (c + 1) (by first | assumption | exact (TK_FR hFT7 rfl (by assumption : TK S _))) (by first | assumption | exact (by assumption : AT T7 _ _)) (by first | assumption | exact (RNV_FR w89 rfl (by assumption : RNV T6 _))) (by first | assumption | omega) (by first | assumption | omega) (by first | assumption | omega) _) ?_
  rintro _ T8 ⟨hHT8, w107, rfl, w98, w99, w100, w101, w102, w103, w104, w105⟩
  have hFT8 : FR md_mo_partTwo S T8 := FR.tr hFT7 w107 rfl
  show Rl _ _ _ _ _ [] _ _
  have a44 : AT T8 n c := (by assumption : AT T8 n (c + 1 - 1))
  have T44 : Xi T8 904 65 = 0 → TVA T8 n (Xi T8 904 94) := fun q => by rw [(by omega : Xi T8 904 94 = Xi T8 904 93)]; exact (by assumption : Xi T8 904 65 = 0 → TVA T8 n (Xi T8 904 93)) q
  refine l_return rfl rfl ?_
  have w108 : 0 ≤ Xi T8 904 65 ∧ Xi T8 904 65 ≤ 1 := hHT8.c _ _
  have w109 : 0 ≤ Xi T8 904 69 ∧ Xi T8 904 69 ≤ 2600 := hHT8.c _ _
  have w110 : 0 ≤ Xi T8 904 8 ∧ Xi T8 904 8 ≤ 5010 := hHT8.c _ _
  have w111 : 0 ≤ Xi T8 904 93 ∧ Xi T8 904 93 ≤ 1700 := hHT8.c _ _
  have w112 : 0 ≤ Xi T8 904 94 ∧ Xi T8 904 94 ≤ 1700 := hHT8.c _ _
  exact ⟨hHT8, hFT8, rfl, (a44), (by omega), (by first | assumption | exact (by assumption : RNV T8 _)), (by omega), (by omega), (by omega), (T44)⟩
