/-! SAFETY of methods: printed by wip/safe (vc.py, decl.py) -/
/-! SAFETY of the reference: reading on; what is noted of tests and phrases -/
theorem at_fr {S P : sS} {n c : Nat} (hA : AT S n c) (f7 : ∀ j, Xi P 907 j = Xi S 907 j) (f9 : ∀ j, Xi P 908 j = Xi S 908 j) (x8 : Xi P 904 8 = Xi S 904 8) (x65 : Xi P 904 65 = Xi S 904 65) (x69 : Xi P 904 69 = Xi S 904 69) (x93 : Xi P 904 93 = Xi S 904 93) : AT P n c := by
  unfold AT
  rw [x8, x65, x69, x93, f7, f9]
  exact hA
theorem tk_fr {S P : sS} {n : Nat} (hT : TK S n) (f7 : ∀ j, Xi P 907 j = Xi S 907 j) (f9 : ∀ j, Xi P 908 j = Xi S 908 j) : TK P n := by
  unfold TK
  simp only [f7, f9]
  exact hT
/-- one token further -/
theorem at_mv {S P U : sS} {n c c2 : Nat} {v : Int} (hT : TK S n) (hA : AT S n c) (f7 : ∀ j, Xi P 907 j = Xi S 907 j) (f9 : ∀ j, Xi P 908 j = Xi S 908 j) (x8 : Xi P 904 8 = Xi S 904 8) (x65 : Xi P 904 65 = Xi S 904 65) (x69 : Xi P 904 69 = Xi S 904 69) (x93 : Xi P 904 93 = Xi S 904 93) (e : U = uI P 904 8 (Int32.ofInt v)) (hv : v = Xi S 904 8 + 1) (h0 : 0 ≤ Xi S 904 8) (hb : Xi S 904 65 = 0) (h1 : Xi S 907 (Xi S 904 8).toNat ≠ 1) (hc : c2 = c ∨ (c2 = c + 1 ∧ K3 (Xi S 907 (Xi S 904 8).toNat))) : AT U n c2 ∧ Xi U 904 8 = Xi S 904 8 + 1 ∧ Xi S 904 8 + 1 ≤ n := by
  have lt := tk_lt hT h0 (hA hb).1 h1
  have hn := hT.1
  refine ⟨at_up (tk_fr hT f7 f9) (at_fr hA f7 f9 x8 x65 x69 x93) e (by omega) (by omega) (by omega) (by rw [x8, f7]; exact h1) (by rw [x8, f7]; exact hc), ?_, by omega⟩
  rw [e, hv]; exact Xi_same ⟨by omega, by omega⟩
/-- two tokens further -/
theorem at_mv2 {S P U : sS} {n c : Nat} {v : Int} (hT : TK S n) (hA : AT S n c) (f7 : ∀ j, Xi P 907 j = Xi S 907 j) (f9 : ∀ j, Xi P 908 j = Xi S 908 j) (x8 : Xi P 904 8 = Xi S 904 8) (x65 : Xi P 904 65 = Xi S 904 65) (x69 : Xi P 904 69 = Xi S 904 69) (x93 : Xi P 904 93 = Xi S 904 93) (e : U = uI P 904 8 (Int32.ofInt v)) (hv : v = Xi S 904 8 + 2) (h0 : 0 ≤ Xi S 904 8) (hb : Xi S 904 65 = 0) (h1 : Xi S 907 (Xi S 904 8).toNat ≠ 1) (h2 : Xi S 907 (Xi S 904 8 + 1).toNat ≠ 1) : AT U n c ∧ Xi U 904 8 = Xi S 904 8 + 2 ∧ Xi S 904 8 + 2 ≤ n := by
  have lt := tk_lt hT h0 (hA hb).1 h1
  have lt2 := tk_lt hT (a := Xi S 904 8 + 1) (by omega) (by omega) h2
  have hn := hT.1
  refine ⟨(at_up2 (tk_fr hT f7 f9) (at_fr hA f7 f9 x8 x65 x69 x93) e (by omega) (by omega) (by omega) (by rw [x8, f7]; exact h1) (by rw [x8, f7]; exact h2)).1, ?_, by omega⟩
  rw [e, hv]; exact Xi_same ⟨by omega, by omega⟩
/-- entries below m stay -/
def KT (T S : sS) (m : Int) : Prop := ∀ i : Nat, (i : Int) < m → ∀ k : Nat, 952 ≤ k → k ≤ 962 → Xi T k i = Xi S k i
theorem KT.rf {S : sS} {m : Int} : KT S S m := fun _ _ _ _ _ => rfl
theorem KT.tr {S T U : sS} {m m2 : Int} (h : KT T S m) (g : KT U T m2) (e : m ≤ m2) : KT U S m := fun i hi k a b => (g i (by omega) k a b).trans (h i hi k a b)
theorem kdis_x {l : List rec} {S T : sS} (f : FR l S T) (e : kdis l [(952, 963)] = true) (k : Nat) (a : 952 ≤ k) (b : k ≤ 962) (i : Nat) : Xi T k i = Xi S k i := by
  have q := f.smk e
  rcases (by omega : k = 952 ∨ k = 953 ∨ k = 954 ∨ k = 955 ∨ k = 956 ∨ k = 957 ∨ k = 958 ∨ k = 959 ∨ k = 960 ∨ k = 961 ∨ k = 962) with h | h | h | h | h | h | h | h | h | h | h <;> subst h <;> exact q.x _ rfl i
theorem KT_FR {l : List rec} {T U S : sS} {m : Int} (f : FR l T U) (e : kdis l [(952, 963)] = true) (h : KT T S m) : KT U S m := fun i hi k a b => (kdis_x f e k a b i).trans (h i hi k a b)
/-- a write at m or beyond -/
theorem KT.w {T U S : sS} {m : Int} {k j : Nat} {v : Int32} (h : KT T S m) (e : U = uI T k j v) (hj : m ≤ j) : KT U S m := fun i hi k2 a b => by
  rw [e, Xi_ne (by omega)]
  exact h i hi k2 a b
/-- a thing that was read: where it stands, which run names it -/
def THV (m : Int) (n : Nat) (td rn : Int) : Prop := td % 10000 ≤ n ∧ (20000 ≤ td → 0 ≤ rn ∧ rn < m)
theorem THV.mono {m m2 : Int} {n : Nat} {td rn : Int} (h : THV m n td rn) (e : m ≤ m2) : THV m2 n td rn := ⟨h.1, fun q => by have := h.2 q; omega⟩
theorem thv_i {m : Int} {n : Nat} {s t r x y : Int} (hx : x = s * 10000 + t) (hy : y = r) (hs : 0 ≤ s ∧ s ≤ 2) (ht : 0 ≤ t ∧ t ≤ 5010) (h1 : t ≤ n) (h0 : 0 ≤ r) (h2 : s = 2 → r < m) : THV m n x y := by
  unfold THV
  rcases (by omega : s = 0 ∨ s = 1 ∨ s = 2) with e | e | e <;> subst e <;> refine ⟨by omega, fun q => by omega⟩
/-- what a test tells, but where it begins and ends -/
def TVx (S : sS) (n : Nat) (i : Nat) : Prop := (Xi S 952 i ≠ 5 → THV (Xi S 904 69) n (Xi S 954 i) (Xi S 955 i)) ∧ (Xi S 952 i ≤ 3 → Xi S 956 i < Xi S 904 69) ∧ (Xi S 952 i = 4 → THV (Xi S 904 69) n (Xi S 959 i) (Xi S 960 i)) ∧ (Xi S 952 i ≤ 2 → Xi S 957 i ≤ n) ∧ (Xi S 952 i = 0 → Xi S 907 (Xi S 957 i).toNat ≠ 4 → Xi S 907 (Xi S 957 i).toNat ≠ 5 → 0 ≤ Xi S 960 i ∧ Xi S 960 i < Xi S 904 69)
def TV (S : sS) (n : Nat) (i : Nat) : Prop := (Xi S 961 i ≤ Xi S 962 i ∧ Xi S 962 i ≤ n) ∧ TVx S n i
theorem tvx_5 {S : sS} {n i : Nat} (h : Xi S 952 i = 5) : TVx S n i := ⟨fun q => absurd h q, fun q => by omega, fun q => by omega, fun q => by omega, fun q => by omega⟩
theorem tvx_3 {S : sS} {n i : Nat} (h : Xi S 952 i = 3) (h1 : THV (Xi S 904 69) n (Xi S 954 i) (Xi S 955 i)) (h2 : Xi S 956 i < Xi S 904 69) : TVx S n i := ⟨fun _ => h1, fun _ => h2, fun q => by omega, fun q => by omega, fun q => by omega⟩
theorem tvx_4 {S : sS} {n i : Nat} (h : Xi S 952 i = 4) (h1 : THV (Xi S 904 69) n (Xi S 954 i) (Xi S 955 i)) (h2 : THV (Xi S 904 69) n (Xi S 959 i) (Xi S 960 i)) : TVx S n i := ⟨fun _ => h1, fun q => by omega, fun _ => h2, fun q => by omega, fun q => by omega⟩
theorem tvx_2 {S : sS} {n i : Nat} (h : Xi S 952 i ≤ 2) (h1 : THV (Xi S 904 69) n (Xi S 954 i) (Xi S 955 i)) (h2 : Xi S 956 i < Xi S 904 69) (h3 : Xi S 957 i ≤ n) (h4 : Xi S 952 i = 0 → Xi S 907 (Xi S 957 i).toNat ≠ 4 → Xi S 907 (Xi S 957 i).toNat ≠ 5 → 0 ≤ Xi S 960 i ∧ Xi S 960 i < Xi S 904 69) : TVx S n i := ⟨fun _ => h1, fun _ => h2, fun q => by omega, fun _ => h3, h4⟩
theorem TVx.mv {S T : sS} {n i : Nat} (h : TVx S n i) (hk : ∀ k : Nat, 952 ≤ k → k ≤ 960 → Xi T k i = Xi S k i) (hr : Xi S 904 69 ≤ Xi T 904 69) (h7 : ∀ j, Xi T 907 j = Xi S 907 j) : TVx T n i := by
  unfold TVx
  rw [hk 952 (by omega) (by omega), hk 954 (by omega) (by omega), hk 955 (by omega) (by omega), hk 956 (by omega) (by omega), hk 957 (by omega) (by omega), hk 959 (by omega) (by omega), hk 960 (by omega) (by omega), h7]
  obtain ⟨a, b, c, d, e⟩ := h
  exact ⟨fun q => (a q).mono hr, fun q => by have := b q; omega, fun q => (c q).mono hr, d, fun q1 q2 q3 => by have := e q1 q2 q3; omega⟩
theorem TV.mv {S T : sS} {n i : Nat} (h : TV S n i) (hk : ∀ k : Nat, 952 ≤ k → k ≤ 962 → Xi T k i = Xi S k i) (hr : Xi S 904 69 ≤ Xi T 904 69) (h7 : ∀ j, Xi T 907 j = Xi S 907 j) : TV T n i := by
  refine ⟨?_, h.2.mv (fun k a b => hk k a (by omega)) hr h7⟩
  rw [hk 961 (by omega) (by omega), hk 962 (by omega) (by omega)]
  exact h.1
/-- all tests below m -/
def TVA (S : sS) (n : Nat) (m : Int) : Prop := ∀ i : Nat, (i : Int) < m → TV S n i
theorem TVA.mv {S T : sS} {n : Nat} {m : Int} (h : TVA S n m) (hk : KT T S m) (hr : Xi S 904 69 ≤ Xi T 904 69) (h7 : ∀ j, Xi T 907 j = Xi S 907 j) : TVA T n m := fun i hi => (h i hi).mv (fun k a b => hk i hi k a b) hr h7
theorem TVA.add {S : sS} {n : Nat} {m m2 : Int} (h : TVA S n m) (h0 : 0 ≤ m) (e : m2 = m + 1) (g : TV S n m.toNat) : TVA S n m2 := fun i hi => by
  rcases (by omega : (i : Int) < m ∨ i = m.toNat) with q | q
  · exact h i q
  · rw [q]; exact g
/-- what a phrase of sort w tells, its entry being t -/
def PVt (S : sS) (n : Nat) (w : Int) (t : Nat) : Prop := (w = 0 → Xi S 957 t ≤ n ∧ Xi S 907 (Xi S 957 t).toNat = 5) ∧ (w = 1 → TV S n t ∧ (Xi S 952 t = 0 ∨ Xi S 952 t = 3 ∨ Xi S 952 t = 5)) ∧ (w = 2 ∨ w = 3 ∨ w = 4 → THV (Xi S 904 69) n (Xi S 954 t) (Xi S 955 t)) ∧ (w = 2 → THV (Xi S 904 69) n (Xi S 959 t) (Xi S 960 t)) ∧
  (w = 3 ∨ w = 4 ∨ w = 5 → Xi S 956 t < Xi S 904 69) ∧ (w = 3 ∨ w = 4 → Xi S 957 t ≤ n) ∧ (w = 5 → Xi S 953 t ≠ 0 → THV (Xi S 904 69) n (Xi S 954 t) (Xi S 955 t))
def PV (S : sS) (n : Nat) (i : Nat) : Prop := PVt S n (Xi S 963 i) (Xi S 964 i).toNat
theorem pv_i {S : sS} {n i t : Nat} {w : Int} (h : PVt S n w t) (e1 : Xi S 963 i = w) (e2 : Xi S 964 i = t) : PV S n i := by
  unfold PV
  rw [e1, e2]
  exact h
theorem pvt_0 {S : sS} {n t : Nat} (h : Xi S 957 t ≤ n) (h2 : Xi S 907 (Xi S 957 t).toNat = 5) : PVt S n 0 t := ⟨fun _ => ⟨h, h2⟩, fun q => absurd q (by decide), fun q => absurd q (by decide), fun q => absurd q (by decide), fun q => absurd q (by decide), fun q => absurd q (by decide), fun q => absurd q (by decide)⟩
theorem pvt_1 {S : sS} {n t : Nat} (h : TV S n t) (h2 : Xi S 952 t = 0 ∨ Xi S 952 t = 3 ∨ Xi S 952 t = 5) : PVt S n 1 t := ⟨fun q => absurd q (by decide), fun _ => ⟨h, h2⟩, fun q => absurd q (by decide), fun q => absurd q (by decide), fun q => absurd q (by decide), fun q => absurd q (by decide), fun q => absurd q (by decide)⟩
theorem pvt_2 {S : sS} {n t : Nat} (h : THV (Xi S 904 69) n (Xi S 954 t) (Xi S 955 t)) (h2 : THV (Xi S 904 69) n (Xi S 959 t) (Xi S 960 t)) : PVt S n 2 t := ⟨fun q => absurd q (by decide), fun q => absurd q (by decide), fun _ => h, fun _ => h2, fun q => absurd q (by decide), fun q => absurd q (by decide), fun q => absurd q (by decide)⟩
theorem pvt_3 {S : sS} {n t : Nat} {w : Int} (hw : w = 3 ∨ w = 4) (h : THV (Xi S 904 69) n (Xi S 954 t) (Xi S 955 t)) (h2 : Xi S 956 t < Xi S 904 69) (h3 : Xi S 957 t ≤ n) : PVt S n w t := ⟨fun q => by omega, fun q => by omega, fun _ => h, fun q => by omega, fun _ => h2, fun _ => h3, fun q => by omega⟩
theorem pvt_5 {S : sS} {n t : Nat} (h : Xi S 956 t < Xi S 904 69) (h2 : Xi S 953 t ≠ 0 → THV (Xi S 904 69) n (Xi S 954 t) (Xi S 955 t)) : PVt S n 5 t := ⟨fun q => absurd q (by decide), fun q => absurd q (by decide), fun q => absurd q (by decide), fun q => absurd q (by decide), fun _ => h, fun q => absurd q (by decide), fun _ => h2⟩
theorem pvt_6 {S : sS} {n t : Nat} : PVt S n 6 t := ⟨fun q => absurd q (by decide), fun q => absurd q (by decide), fun q => absurd q (by decide), fun q => absurd q (by decide), fun q => absurd q (by decide), fun q => absurd q (by decide), fun q => absurd q (by decide)⟩
theorem PVt.mv {S T : sS} {n t : Nat} {w : Int} (h : PVt S n w t) (x : ∀ k : Nat, 952 ≤ k → k ≤ 962 → Xi T k t = Xi S k t) (hr : Xi S 904 69 ≤ Xi T 904 69) (h7 : ∀ j, Xi T 907 j = Xi S 907 j) : PVt T n w t := by
  unfold PVt
  rw [x 952 (by omega) (by omega), x 953 (by omega) (by omega), x 954 (by omega) (by omega), x 955 (by omega) (by omega), x 956 (by omega) (by omega), x 957 (by omega) (by omega), x 959 (by omega) (by omega), x 960 (by omega) (by omega), h7]
  obtain ⟨a, b, c, d, e, f, g⟩ := h
  exact ⟨a, fun q => ⟨(b q).1.mv x hr h7, (b q).2⟩, fun q => (c q).mono hr, fun q => (d q).mono hr, fun q => by have := e q; omega, f, fun q1 q2 => (g q1 q2).mono hr⟩
/-- entries of phrases below m stay -/
def KP (T S : sS) (m : Int) : Prop := ∀ i : Nat, (i : Int) < m → Xi T 963 i = Xi S 963 i ∧ Xi T 964 i = Xi S 964 i ∧ Xi T 965 i = Xi S 965 i
theorem PV.mv {S T : sS} {n i : Nat} {m : Int} (h : PV S n i) (h0 : 0 ≤ Xi S 964 i) (ht : Xi S 964 i < m) (hk : KT T S m) (hp : Xi T 963 i = Xi S 963 i ∧ Xi T 964 i = Xi S 964 i ∧ Xi T 965 i = Xi S 965 i) (hr : Xi S 904 69 ≤ Xi T 904 69) (h7 : ∀ j, Xi T 907 j = Xi S 907 j) : PV T n i := by
  unfold PV
  rw [hp.1, hp.2.1]
  exact PVt.mv h (fun k a b => hk (Xi S 964 i).toNat (by omega) k a b) hr h7
/-- all phrases below m, their entries below the count -/
def PVA (S : sS) (n : Nat) (m : Int) : Prop := ∀ i : Nat, (i : Int) < m → Xi S 964 i < Xi S 904 93 ∧ PV S n i
theorem PVA.mv {S T : sS} {n : Nat} {m : Int} (h : PVA S n m) (hH : HI S) (hk : KT T S (Xi S 904 93)) (hp : KP T S m) (hr : Xi S 904 69 ≤ Xi T 904 69) (hc : Xi S 904 93 ≤ Xi T 904 93) (h7 : ∀ j, Xi T 907 j = Xi S 907 j) : PVA T n m := fun i hi => by
  obtain ⟨a, b⟩ := h i hi
  have c : 0 ≤ Xi S 964 i ∧ Xi S 964 i ≤ 1700 := hH.c 964 i
  refine ⟨?_, b.mv c.1 a hk (hp i hi) hr h7⟩
  rw [(hp i hi).2.1]; omega
theorem PVA.add {S : sS} {n : Nat} {m m2 : Int} (h : PVA S n m) (h0 : 0 ≤ m) (e : m2 = m + 1) (g : Xi S 964 m.toNat < Xi S 904 93 ∧ PV S n m.toNat) : PVA S n m2 := fun i hi => by
  rcases (by omega : (i : Int) < m ∨ i = m.toNat) with q | q
  · exact h i q
  · rw [q]; exact g
theorem tvx_w {P U : sS} {n i k j : Nat} {v : Int32} (h : TVx P n i) (e : U = uI P k j v) (hk : k ≠ 907 ∧ (k = 904 → j ≠ 69) ∧ (k < 952 ∨ 960 < k)) : TVx U n i := h.mv (fun a b c => by rw [e, Xi_ne (by omega)]) (by rw [e, Xi_ne (by omega)]; exact Int.le_refl _) (fun a => by rw [e, Xi_ne (by omega)])
theorem pvt_w {P U : sS} {n i k j : Nat} {w : Int} {v : Int32} (h : PVt P n w i) (e : U = uI P k j v) (hk : k ≠ 907 ∧ (k = 904 → j ≠ 69) ∧ (k < 952 ∨ 962 < k)) : PVt U n w i := h.mv (fun a b c => by rw [e, Xi_ne (by omega)]) (by rw [e, Xi_ne (by omega)]; exact Int.le_refl _) (fun a => by rw [e, Xi_ne (by omega)])
theorem thv_c {m m2 : Int} {n : Nat} {a b a2 b2 : Int} (h : THV m n a b) (e : m ≤ m2) (ea : a2 = a) (eb : b2 = b) : THV m2 n a2 b2 := by rw [ea, eb]; exact h.mono e
/-- at most one token further -/
theorem at_opt {P U : sS} {n c : Nat} {v : Int} (hT : TK P n) (hA : AT P n c) (e : U = uI P 904 8 (Int32.ofInt v)) (hv : v = Xi P 904 8 ∨ (v = Xi P 904 8 + 1 ∧ Xi P 904 65 = 0 ∧ Xi P 907 (Xi P 904 8).toNat ≠ 1)) (h8 : 0 ≤ Xi P 904 8 ∧ Xi P 904 8 ≤ 5010) : AT U n c ∧ Xi P 904 8 ≤ Xi U 904 8 ∧ (Xi U 904 8 ≤ n ∨ Xi U 904 8 = Xi P 904 8) := by
  rcases hv with q | ⟨q, b, h1⟩
  · have x8 : Xi U 904 8 = Xi P 904 8 := by rw [e, q]; exact Xi_same ⟨by omega, by omega⟩
    exact ⟨at_same hA e q h8, by omega, by omega⟩
  · have t := at_mv hT hA (fun _ => rfl) (fun _ => rfl) rfl rfl rfl rfl e q h8.1 b h1 (Or.inl rfl)
    exact ⟨t.1, by omega, by omega⟩
/-- one more entry -/
theorem at_ct {P U : sS} {n c c2 : Nat} {v : Int} (hA : AT P n c) (e : U = uI P 904 93 (Int32.ofInt v)) (hv : v = Xi P 904 93 + 1) (h0 : 0 ≤ Xi P 904 93 ∧ Xi P 904 93 ≤ 1700) (hc : c = c2 + 1) : AT U n c2 := fun q => by
  have x : ∀ j, j ≠ 93 → Xi U 904 j = Xi P 904 j := fun j hj => by rw [e, Xi_ne (by omega)]
  have x93 : Xi U 904 93 = Xi P 904 93 + 1 := by rw [e, hv]; exact Xi_same ⟨by omega, by omega⟩
  have x7 : ∀ j, Xi U 907 j = Xi P 907 j := fun j => by rw [e, Xi_ne (by omega)]
  have x9 : ∀ j, Xi U 908 j = Xi P 908 j := fun j => by rw [e, Xi_ne (by omega)]
  rw [x 65 (by decide)] at q
  obtain ⟨a, b, d, f⟩ := hA q
  rw [x 8 (by decide), x 69 (by decide), x93, x7, x9]
  exact ⟨a, b, d, by omega⟩
theorem at_tc {S : sS} {n c : Nat} (hA : AT S n c) (hH : HI S) (q : Xi S 904 65 = 0) : Xi S 904 93 + c ≤ 1666 := by
  have t := (hA q).2.2.2
  have u : 0 ≤ Xi S 908 (Xi S 904 8).toNat ∧ Xi S 908 (Xi S 904 8).toNat ≤ 5000 := hH.c 908 _
  omega
theorem KP.w {T U S : sS} {m : Int} {k j : Nat} {v : Int32} (h : KP T S m) (e : U = uI T k j v) (hj : (k < 963 ∨ 965 < k) ∨ m ≤ j) : KP U S m := fun i hi => by
  rw [e, Xi_ne (by omega), Xi_ne (by omega), Xi_ne (by omega)]
  exact h i hi
theorem KP_FR {l : List rec} {T U S : sS} {m : Int} (f : FR l T U) (e : kdis l [(963, 966)] = true) (h : KP T S m) : KP U S m := fun i hi => by
  have q := f.smk e
  rw [q.x 963 rfl, q.x 964 rfl, q.x 965 rfl]
  exact h i hi
theorem KP.rf {S : sS} {m : Int} : KP S S m := fun _ _ => ⟨rfl, rfl, rfl⟩
theorem pv_w {P U : sS} {n i k j : Nat} {v : Int32} (h : PV P n i) (e : U = uI P k j v) (hk : k ≠ 907 ∧ (k = 904 → j ≠ 69) ∧ (k < 952 ∨ 964 < k)) : PV U n i := by
  have x : ∀ a i, a = 963 ∨ a = 964 → Xi U a i = Xi P a i := fun a i c => by rw [e, Xi_ne (by omega)]
  unfold PV
  rw [x 963 i (Or.inl rfl), x 964 i (Or.inr rfl)]
  exact pvt_w h e (by omega)
def md_mo_thing : List rec := [(904, 905, 8, 9), (904, 905, 65, 66), (904, 905, 66, 67), (904, 905, 69, 70), (904, 905, 99, 100), (904, 905, 100, 101), (904, 905, 101, 102), (950, 951, 0, 100000), (951, 952, 0, 100000)]
def md_mo_thingOfTest : List rec := [(904, 905, 8, 9), (904, 905, 65, 66), (904, 905, 66, 67), (904, 905, 69, 70), (904, 905, 99, 100), (904, 905, 100, 101), (904, 905, 101, 102), (950, 951, 0, 100000), (951, 952, 0, 100000), (954, 955, 0, 100000), (955, 956, 0, 100000)]
abbrev Q_mo_beginsOf__2 (S : sS) (n : Nat) (t : Int) : pst := fun r S1 => S = S1 ∧ (∃ z : Int, r = some (iv z) ∧ (0 ≤ z ∧ z ≤ 1) ∧ (z = 1 → Xi S 907 t.toNat = 102))
set_option maxRecDepth 100000 in
theorem t_mo_beginsOf__2 {S : sS} (hH : HI S) (n : Nat) (t : Int) (ht : 0 ≤ t ∧ t ≤ 5001) (hT : TK S n) (ht : t ≤ n) (d : Nat) : Mt lay0 (d + 1) m_mo_beginsOf [.ref 904, iv t] S (Q_mo_beginsOf__2 S n t) := by
  refine Mt_R rfl rfl ?_
  have hn5 := hT.1
  have C17 : ∀ (n17 : Nat) (v2 : Int), (1 ≤ v2 ∧ v2 ≤ 5001) → (t < v2) → (v2 ≤ n) → (Xi S 907 t.toNat = 102) → n17 = (5002 - v2).toNat → Rl lay0 (d + 0) m_mo_beginsOf 17 [(0, .ref 904), (1, iv t), (2, iv v2)] [] S (Q_mo_beginsOf__2 S n t) := by
    intro n17
    induction n17 using Nat.strongRecOn with
    | ind n17 ih17 =>
      intro v2 w1 w2 w3 w4 hm17
      refine l_aload_n rfl rfl ?_
      refine l_gfr rfl rfl rfl rfl rfl (hH.r 904 4 907 rfl) ?_
      refine l_iload_n rfl rfl ?_
      refine l_iaload (n := 5002) rfl rfl (by omega) (by omega) (by unfold rg; omega) ?_
      have w5 : 0 ≤ (Xi S 907 ((v2).toNat)) ∧ (Xi S 907 ((v2).toNat)) ≤ 154 := hH.c _ _
      have u22 : (Xi S 907 ((v2).toNat)) = 3 → v2 < n := fun q => tk_lt hT (by omega) (by omega) (by omega)
      refine l_iconst rfl ?_
      refine l_icmp_ne rfl rfl (by unfold rg; omega) (by unfold rg; omega) (fun w6 => ?_) (fun w7 => ?_)
      · refine l_iload_n rfl rfl ?_
        refine l_iload_n rfl rfl ?_
        refine l_iconst rfl ?_
        refine l_iadd rfl ?_
        refine l_icmp_le rfl rfl (by unfold rg; omega) (by unfold rg; omega) (fun w8 => ?_) (fun w9 => ?_)
        · refine l_iconst rfl ?_
          refine l_ireturn rfl rfl ?_
          exact ⟨rfl, _, rfl, ⟨by omega, by omega⟩, (by omega)⟩
        · refine l_aload_n rfl rfl ?_
          refine l_gfr rfl rfl rfl rfl rfl (hH.r 904 4 907 rfl) ?_
          refine l_iload_n rfl rfl ?_
          refine l_iaload (n := 5002) rfl rfl (by omega) (by omega) (by unfold rg; omega) ?_
          refine l_bipush rfl rfl ?_
          refine l_icmp_ne rfl rfl (by unfold rg; omega) (by unfold rg; omega) (fun w10 => ?_) (fun w11 => ?_)
          · refine l_iconst rfl ?_
            refine l_ireturn rfl rfl ?_
            exact ⟨rfl, _, rfl, ⟨by omega, by omega⟩, (by omega)⟩
          · refine l_iconst rfl ?_
            refine l_goto rfl rfl ?_
            refine l_ireturn rfl rfl ?_
            exact ⟨rfl, _, rfl, ⟨by omega, by omega⟩, (by omega)⟩
      · refine l_iinc rfl rfl rfl rfl ?_
        refine l_goto rfl rfl ?_
        exact Rl_weak (ih17 _ (by omega) ((v2 + 1)) (by omega) (by omega) (by omega) (by omega) rfl) (And.intro rfl (And.intro rfl (And.intro rfl (True.intro))))
  refine l_iload_n rfl rfl ?_
  refine l_iconst rfl ?_
  refine l_iadd rfl ?_
  refine l_istore_n rfl rfl rfl ?_
  refine l_aload_n rfl rfl ?_
  refine l_gfr rfl rfl rfl rfl rfl (hH.r 904 4 907 rfl) ?_
  refine l_iload_n rfl rfl ?_
  refine l_iaload (n := 5002) rfl rfl (by omega) (by omega) (by unfold rg; omega) ?_
  have w12 : 0 ≤ (Xi S 907 ((t).toNat)) ∧ (Xi S 907 ((t).toNat)) ≤ 154 := hH.c _ _
  have u9 : (Xi S 907 ((t).toNat)) = 102 → t < n := fun q => tk_lt hT (by omega) ht (by omega)
  refine l_bipush rfl rfl ?_
  refine l_icmp_eq rfl rfl (by unfold rg; omega) (by unfold rg; omega) (fun w13 => ?_) (fun w14 => ?_)
  · exact Rl_weak (C17 _ ((t + 1)) (by omega) (by omega) (by omega) (by omega) rfl) (And.intro rfl (And.intro rfl (And.intro rfl (True.intro))))
  · refine l_iconst rfl ?_
    refine l_ireturn rfl rfl ?_
    exact ⟨rfl, _, rfl, ⟨by omega, by omega⟩, (by omega)⟩
abbrev Q_mo_oddOf (S : sS) (n : Nat) (first : Int) : pst := fun r S1 => S = S1 ∧ (∃ z : Int, r = some (iv z) ∧ (-1 ≤ z ∧ z ≤ 5001) ∧ (z ≠ -1 → z ≤ n))
set_option maxRecDepth 100000 in
theorem t_mo_oddOf {S : sS} (hH : HI S) (n : Nat) (first : Int) (hfirst : 0 ≤ first ∧ first ≤ 5001) (hT : TK S n) (ht : first ≤ n) (d : Nat) : Mt lay0 (d + 1) m_mo_oddOf [.ref 904, iv first] S (Q_mo_oddOf S n first) := by
  refine Mt_R rfl rfl ?_
  have hn5 := hT.1
  have C14 : ∀ (n14 : Nat) (v2 : Int), (0 ≤ v2 ∧ v2 ≤ 5001) → (first ≤ v2) → (v2 ≤ n) → n14 = (5002 - v2).toNat → Rl lay0 (d + 0) m_mo_oddOf 14 [(0, .ref 904), (2, iv v2)] [] S (Q_mo_oddOf S n first) := by
    intro n14
    induction n14 using Nat.strongRecOn with
    | ind n14 ih14 =>
      intro v2 w1 w2 w3 hm14
      have C51 : ∀  (v2 : Int), (0 ≤ v2 ∧ v2 ≤ 5001) → (first ≤ v2) → (v2 ≤ n) → Rl lay0 (d + 0) m_mo_oddOf 51 [(0, .ref 904), (2, iv v2)] [] S (Q_mo_oddOf S n first) := by
        intro v2 w4 w5 w6
        refine l_aload_n rfl rfl ?_
        refine l_gfr rfl rfl rfl rfl rfl (hH.r 904 4 907 rfl) ?_
        refine l_iload_n rfl rfl ?_
        refine l_iaload (n := 5002) rfl rfl (by omega) (by omega) (by unfold rg; omega) ?_
        have w7 : 0 ≤ (Xi S 907 ((v2).toNat)) ∧ (Xi S 907 ((v2).toNat)) ≤ 154 := hH.c _ _
        refine l_iconst rfl ?_
        refine l_icmp_ne rfl rfl (by unfold rg; omega) (by unfold rg; omega) (fun w8 => ?_) (fun w9 => ?_)
        · refine l_iconst rfl ?_
          refine l_ireturn rfl rfl ?_
          exact ⟨rfl, _, rfl, ⟨by omega, by omega⟩, (by first | assumption | omega)⟩
        · refine l_iload_n rfl rfl ?_
          refine l_goto rfl rfl ?_
          refine l_ireturn rfl rfl ?_
          exact ⟨rfl, _, rfl, ⟨by omega, by omega⟩, (by first | assumption | omega)⟩
      refine l_aload_n rfl rfl ?_
      refine l_gfr rfl rfl rfl rfl rfl (hH.r 904 4 907 rfl) ?_
      refine l_iload_n rfl rfl ?_
      refine l_iaload (n := 5002) rfl rfl (by omega) (by omega) (by unfold rg; omega) ?_
      have w10 : 0 ≤ (Xi S 907 ((v2).toNat)) ∧ (Xi S 907 ((v2).toNat)) ≤ 154 := hH.c _ _
      refine l_bipush rfl rfl ?_
      refine l_icmp_eq rfl rfl (by unfold rg; omega) (by unfold rg; omega) (fun w11 => ?_) (fun w12 => ?_)
      · exact Rl_weak (C51 (v2) (by omega) (by omega) (by omega)) (And.intro rfl (And.intro rfl (True.intro)))
      · refine l_aload_n rfl rfl ?_
        refine l_gfr rfl rfl rfl rfl rfl (hH.r 904 4 907 rfl) ?_
        refine l_iload_n rfl rfl ?_
        refine l_iaload (n := 5002) rfl rfl (by omega) (by omega) (by unfold rg; omega) ?_
        have u30 : (Xi S 907 ((v2).toNat)) ≠ 1 → v2 < n := fun q => tk_lt hT (by omega) (by omega) q
        refine l_iconst rfl ?_
        refine l_icmp_eq rfl rfl (by unfold rg; omega) (by unfold rg; omega) (fun w13 => ?_) (fun w14 => ?_)
        · exact Rl_weak (C51 (v2) (by omega) (by omega) (by omega)) (And.intro rfl (And.intro rfl (True.intro)))
        · refine l_aload_n rfl rfl ?_
          refine l_gfr rfl rfl rfl rfl rfl (hH.r 904 4 907 rfl) ?_
          refine l_iload_n rfl rfl ?_
          refine l_iaload (n := 5002) rfl rfl (by omega) (by omega) (by unfold rg; omega) ?_
          refine l_iconst rfl ?_
          refine l_icmp_eq rfl rfl (by unfold rg; omega) (by unfold rg; omega) (fun w15 => ?_) (fun w16 => ?_)
          · exact Rl_weak (C51 (v2) (by omega) (by omega) (by omega)) (And.intro rfl (And.intro rfl (True.intro)))
          · refine l_iinc rfl rfl rfl rfl ?_
            refine l_goto rfl rfl ?_
            exact Rl_weak (ih14 _ (by omega) ((v2 + 1)) (by omega) (by omega) (by omega) rfl) (And.intro rfl (And.intro rfl (True.intro)))
  refine l_iload_n rfl rfl ?_
  refine l_istore_n rfl rfl rfl ?_
  refine l_aload_n rfl rfl ?_
  refine l_gfr rfl rfl rfl rfl rfl (hH.r 904 4 907 rfl) ?_
  refine l_iload_n rfl rfl ?_
  refine l_iaload (n := 5002) rfl rfl (by omega) (by omega) (by unfold rg; omega) ?_
  have w17 : 0 ≤ (Xi S 907 ((first).toNat)) ∧ (Xi S 907 ((first).toNat)) ≤ 154 := hH.c _ _
  refine l_iconst rfl ?_
  refine l_icmp_ne rfl rfl (by unfold rg; omega) (by unfold rg; omega) (fun w18 => ?_) (fun w19 => ?_)
  · exact Rl_weak (C14 _ (first) (by omega) (by omega) (by omega) rfl) (And.intro rfl (And.intro rfl (True.intro)))
  · refine l_iconst rfl ?_
    refine l_ireturn rfl rfl ?_
    exact ⟨rfl, _, rfl, ⟨by omega, by omega⟩, (by first | assumption | omega)⟩
/-! SAFETY of the reference: cutting into tokens -/
theorem w1b : ∀ b : Fin 32, 0 ≤ lorF (lshlF 0 5) (b.val : Int) ∧ lorF (lshlF 0 5) (b.val : Int) < 32 := by decide +kernel
theorem w2b : ∀ a b : Fin 32, 0 ≤ lorF (lshlF (a.val : Int) 5) (b.val : Int) ∧ lorF (lshlF (a.val : Int) 5) (b.val : Int) < 1024 := by decide +kernel
theorem w1i {x : Int} (h : 0 ≤ x ∧ x < 32) : 0 ≤ lorF (lshlF 0 5) x ∧ lorF (lshlF 0 5) x < 32 := by
  have t := w1b ⟨x.toNat, by omega⟩
  rw [show ((x.toNat : Nat) : Int) = x by omega] at t
  exact t
theorem w2i {a x : Int} (ha : 0 ≤ a ∧ a < 32) (h : 0 ≤ x ∧ x < 32) : 0 ≤ lorF (lshlF a 5) x ∧ lorF (lshlF a 5) x < 1024 := by
  have t := w2b ⟨a.toNat, by omega⟩ ⟨x.toNat, by omega⟩
  rw [show ((x.toNat : Nat) : Int) = x by omega, show ((a.toNat : Nat) : Int) = a by omega] at t
  exact t
theorem ltr1 {c : Int} (h : ltr c = 1) : 97 ≤ sml c ∧ sml c ≤ 122 := by
  unfold ltr at h
  split at h
  · assumption
  · exact absurd h (by decide)
/-- key words of three letters and more are large -/
def KWM (S : sS) : Prop := ∀ k : Int, 100 ≤ k → k ≤ 154 → K3 k → 1024 ≤ Xj S 911 (k - 100).toNat
/-- the tokens before m; p lies behind the last of them -/
def CT (S : sS) (m p : Int) : Prop := (∀ i : Nat, (i : Int) < m → Xi S 907 i ≠ 1 ∧ (Xi S 907 i = 5 → Xi S 908 i + 1 + Xi S 909 i ≤ 5000)) ∧ (∀ i : Nat, (i : Int) + 1 < m → Xi S 908 i < Xi S 908 (i + 1) ∧ (K3 (Xi S 907 i) → Xi S 908 i + 3 ≤ Xi S 908 (i + 1))) ∧ (∀ i : Nat, (i : Int) + 1 = m → Xi S 908 i < p ∧ (K3 (Xi S 907 i) → Xi S 908 i + 3 ≤ p))
theorem CT.le {S : sS} {m p p2 : Int} (h : CT S m p) (e : p ≤ p2) : CT S m p2 := ⟨h.1, h.2.1, fun i hi => by
  obtain ⟨a, b⟩ := h.2.2 i hi
  exact ⟨by omega, fun q => by have := b q; omega⟩⟩
theorem CT.mv {S T : sS} {m p : Int} (h : CT S m p) (x : ∀ k : Nat, 907 ≤ k → k ≤ 909 → ∀ i : Nat, (i : Int) < m → Xi T k i = Xi S k i) : CT T m p := by
  refine ⟨fun i hi => ?_, fun i hi => ?_, fun i hi => ?_⟩
  · rw [x 907 (by omega) (by omega) i hi, x 908 (by omega) (by omega) i hi, x 909 (by omega) (by omega) i hi]; exact h.1 i hi
  · rw [x 907 (by omega) (by omega) i (by omega), x 908 (by omega) (by omega) i (by omega), x 908 (by omega) (by omega) (i + 1) (by omega)]; exact h.2.1 i hi
  · rw [x 907 (by omega) (by omega) i (by omega), x 908 (by omega) (by omega) i (by omega)]; exact h.2.2 i hi
theorem CT.w {S U : sS} {m p : Int} {k j : Nat} {v : Int32} (h : CT S m p) (e : U = uI S k j v) (hj : m ≤ j) : CT U m p := h.mv (fun k2 _ _ i hi => by rw [e, Xi_ne (by omega)])
theorem CT.add {S : sS} {m p q : Int} (h : CT S m p) (h0 : 0 ≤ m) (hp : Xi S 908 m.toNat = p) (h1 : Xi S 907 m.toNat ≠ 1) (h5 : Xi S 907 m.toNat = 5 → p + 1 + Xi S 909 m.toNat ≤ 5000) (hq : p < q) (hk : K3 (Xi S 907 m.toNat) → p + 3 ≤ q) : CT S (m + 1) q := by
  refine ⟨fun i hi => ?_, fun i hi => ?_, fun i hi => ?_⟩
  · rcases (by omega : (i : Int) < m ∨ i = m.toNat) with c | c
    · exact h.1 i c
    · rw [c]; exact ⟨h1, fun z => by have := h5 z; omega⟩
  · rcases (by omega : (i : Int) + 1 < m ∨ (i : Int) + 1 = m) with c | c
    · exact h.2.1 i c
    · rw [show i + 1 = m.toNat by omega, hp]; exact h.2.2 i c
  · rw [show i = m.toNat by omega, hp]; exact ⟨hq, hk⟩
theorem CT.rf {S : sS} {p : Int} : CT S 0 p := ⟨fun i hi => absurd hi (by omega), fun i hi => absurd hi (by omega), fun i hi => absurd hi (by omega)⟩
/-- texts lie within the story -/
def TXK (S : sS) (n : Nat) : Prop := ∀ i : Nat, i < n → Xi S 907 i = 5 → Xi S 908 i + 1 + Xi S 909 i ≤ 5000
theorem ct_tk {S U1 U2 : sS} {m p : Int} {a b : Int} {j : Nat} (h : CT S m p) (h0 : 0 ≤ m) (hm : m ≤ 5000) (e1 : U1 = uI S 907 j (Int32.ofInt a)) (e2 : U2 = uI U1 908 j (Int32.ofInt b)) (hj : j = m.toNat) (ha : a = 1) (hb : b = p) (hp : 0 ≤ p ∧ p ≤ 5000) : TK U2 m.toNat ∧ TXK U2 m.toNat := by
  have c : CT U2 m p := (h.w e1 (by omega)).w e2 (by omega)
  have x7 : Xi U2 907 m.toNat = 1 := by rw [e2, Xi_ne (by omega), e1, hj, ha]; exact Xi_same ⟨by omega, by omega⟩
  have x8 : Xi U2 908 m.toNat = p := by rw [e2, hj, hb]; exact Xi_same ⟨by omega, by omega⟩
  refine ⟨⟨by omega, x7, fun i hi => (c.1 i (by omega)).1, fun i hi => ?_⟩, fun i hi => (c.1 i (by omega)).2⟩
  rcases (by omega : (i : Int) + 1 < m ∨ (i : Int) + 1 = m) with q | q
  · exact c.2.1 i q
  · rw [show i + 1 = m.toNat by omega, x8]; exact c.2.2 i q
theorem TXK_FR {l : List rec} {S T : sS} {n : Nat} (h : FR l S T) (e : kdis l [(907, 910)] = true) (hT : TXK S n) : TXK T n := by
  have k := h.smk e
  unfold TXK
  simp only [k.x 907 rfl, k.x 908 rfl, k.x 909 rfl]
  exact hT
abbrev Q_mo_blanks (S : sS) (from_ : Int) : pst := fun r S1 => S = S1 ∧ (∃ z : Int, r = some (iv z) ∧ (0 ≤ z ∧ z ≤ 5001) ∧ (from_ ≤ z) ∧ (from_ ≤ Xi S 904 3 → z ≤ Xi S 904 3))
set_option maxRecDepth 100000 in
theorem t_mo_blanks {S : sS} (hH : HI S) (from_ : Int) (hfrom_ : 0 ≤ from_ ∧ from_ ≤ 5001) (d : Nat) : Mt lay0 (d + 1) m_mo_blanks [.ref 904, iv from_] S (Q_mo_blanks S from_) := by
  refine Mt_R rfl rfl ?_
  have w1 : 0 ≤ Xi S 904 3 ∧ Xi S 904 3 ≤ 5000 := hH.c _ _
  have hst : 0 ≤ Xi S 904 3 ∧ Xi S 904 3 ≤ 5000 := hH.c _ _
  have C4 : ∀ (n4 : Nat) (v2 : Int) (v3 : Int), (0 ≤ v2 ∧ v2 ≤ 5001) → (0 ≤ v3 ∧ v3 ≤ 1) → (from_ ≤ v2) → (from_ ≤ Xi S 904 3 → v2 ≤ Xi S 904 3) → n4 = (2 * (5002 - v2) + v3).toNat → Rl lay0 (d + 0) m_mo_blanks 4 [(0, .ref 904), (2, iv v2), (3, iv v3)] [] S (Q_mo_blanks S from_) := by
    intro n4
    induction n4 using Nat.strongRecOn with
    | ind n4 ih4 =>
      intro v2 v3 w2 w3 w4 w5 hm4
      have C10 : ∀ (n10 : Nat) (v2 : Int) (v3 : Int), (0 ≤ v2 ∧ v2 ≤ 5001) → (0 ≤ v3 ∧ v3 ≤ 0) → (from_ ≤ v2) → (from_ ≤ Xi S 904 3 → v2 ≤ Xi S 904 3) → ((2 * (5002 - v2) + 1).toNat ≤ n4) → n10 = (5002 - v2).toNat → Rl lay0 (d + 0) m_mo_blanks 10 [(0, .ref 904), (2, iv v2), (3, iv v3)] [] S (Q_mo_blanks S from_) := by
        intro n10
        induction n10 using Nat.strongRecOn with
        | ind n10 ih10 =>
          intro v2 v3 w6 w7 w8 w9 w10 hm10
          have C68 : ∀  (v2 : Int) (v3 : Int), (0 ≤ v2 ∧ v2 ≤ 5001) → (0 ≤ v3 ∧ v3 ≤ 0) → (from_ ≤ v2) → (from_ ≤ Xi S 904 3 → v2 ≤ Xi S 904 3) → ((2 * (5002 - v2) + 1).toNat ≤ n4) → Rl lay0 (d + 0) m_mo_blanks 68 [(0, .ref 904), (2, iv v2), (3, iv v3)] [] S (Q_mo_blanks S from_) := by
            intro v2 v3 w11 w12 w13 w14 w15
            have C90 : ∀ (n90 : Nat) (v2 : Int) (v4 : Int), (0 ≤ v2 ∧ v2 ≤ 4999) → (0 ≤ v4 ∧ v4 ≤ 5000) → (from_ ≤ v2) → (v2 ≤ v4) → (v4 ≤ Xi S 904 3) → (v2 < Xi S 904 3) → ((2 * (5002 - v2) + 1).toNat ≤ n4) → n90 = (5002 - v4).toNat → Rl lay0 (d + 0) m_mo_blanks 90 [(0, .ref 904), (2, iv v2), (4, iv v4)] [] S (Q_mo_blanks S from_) := by
              intro n90
              induction n90 using Nat.strongRecOn with
              | ind n90 ih90 =>
                intro v2 v4 w16 w17 w18 w19 w20 w21 w22 hm90
                have C117 : ∀  (v2 : Int) (v4 : Int), (0 ≤ v2 ∧ v2 ≤ 4999) → (0 ≤ v4 ∧ v4 ≤ 5000) → (from_ ≤ v2) → (v2 ≤ v4) → (v4 ≤ Xi S 904 3) → (v2 < Xi S 904 3) → ((2 * (5002 - v2) + 1).toNat ≤ n4) → Rl lay0 (d + 0) m_mo_blanks 117 [(0, .ref 904), (2, iv v2), (4, iv v4)] [] S (Q_mo_blanks S from_) := by
                  intro v2 v4 w23 w24 w25 w26 w27 w28 w29
                  refine l_iload rfl rfl ?_
                  refine l_aload_n rfl rfl ?_
                  refine l_gfi rfl rfl rfl rfl rfl ?_
                  refine l_icmp_ge rfl rfl (by unfold rg; omega) (by unfold rg; omega) (fun w30 => ?_) (fun w31 => ?_)
                  · refine l_iconst rfl ?_
                    refine l_istore_n rfl rfl rfl ?_
                    refine l_iload_n rfl rfl ?_
                    refine l_if_eq rfl rfl (by unfold rg; omega) (fun w32 => ?_) (fun w33 => absurd w33 (by omega))
                    · refine l_iload_n rfl rfl ?_
                      refine l_istore_n rfl rfl rfl ?_
                      refine l_goto rfl rfl ?_
                      exact Rl_weak (ih4 _ (by omega) (v2) (0) (by omega) (by omega) (by omega) (by omega) rfl) (And.intro rfl (And.intro rfl (And.intro rfl (True.intro))))
                  · refine l_iconst rfl ?_
                    refine l_goto rfl rfl ?_
                    refine l_istore_n rfl rfl rfl ?_
                    refine l_iload_n rfl rfl ?_
                    refine l_if_eq rfl rfl (by unfold rg; omega) (fun w34 => absurd w34 (by omega)) (fun w35 => ?_)
                    · refine l_iload rfl rfl ?_
                      refine l_iconst rfl ?_
                      refine l_iadd rfl ?_
                      refine l_goto rfl rfl ?_
                      refine l_istore_n rfl rfl rfl ?_
                      refine l_goto rfl rfl ?_
                      exact Rl_weak (ih4 _ (by omega) ((v4 + 1)) (1) (by omega) (by omega) (by omega) (by omega) rfl) (And.intro rfl (And.intro rfl (And.intro rfl (True.intro))))
                refine l_iload rfl rfl ?_
                refine l_aload_n rfl rfl ?_
                refine l_gfi rfl rfl rfl rfl rfl ?_
                refine l_icmp_ge rfl rfl (by unfold rg; omega) (by unfold rg; omega) (fun w36 => ?_) (fun w37 => ?_)
                · exact Rl_weak (C117 (v2) (v4) (by omega) (by omega) (by omega) (by omega) (by omega) (by omega) (by omega)) (And.intro rfl (And.intro rfl (And.intro rfl (True.intro))))
                · refine l_aload_n rfl rfl ?_
                  refine l_gfr rfl rfl rfl rfl rfl (hH.r 904 2 906 rfl) ?_
                  refine l_iload rfl rfl ?_
                  refine l_baload (n := 5000) rfl rfl rfl (by decide) (by omega) (by omega) (by unfold rg; omega) ?_
                  have w38 : -128 ≤ (Xi S 906 ((v4).toNat)) ∧ (Xi S 906 ((v4).toNat)) ≤ 127 := hH.c _ _
                  refine l_bipush rfl rfl ?_
                  refine l_icmp_eq rfl rfl (by unfold rg; omega) (by unfold rg; omega) (fun w39 => ?_) (fun w40 => ?_)
                  · exact Rl_weak (C117 (v2) (v4) (by omega) (by omega) (by omega) (by omega) (by omega) (by omega) (by omega)) (And.intro rfl (And.intro rfl (And.intro rfl (True.intro))))
                  · refine l_iinc rfl rfl rfl rfl ?_
                    refine l_goto rfl rfl ?_
                    exact Rl_weak (ih90 _ (by omega) (v2) ((v4 + 1)) (by omega) (by omega) (by omega) (by omega) (by omega) (by omega) (by omega) rfl) (And.intro rfl (And.intro rfl (And.intro rfl (True.intro))))
            refine l_iload_n rfl rfl ?_
            refine l_aload_n rfl rfl ?_
            refine l_gfi rfl rfl rfl rfl rfl ?_
            refine l_icmp_ge rfl rfl (by unfold rg; omega) (by unfold rg; omega) (fun w41 => ?_) (fun w42 => ?_)
            · exact Rl_weak (ih4 _ (by omega) (v2) (v3) (by omega) (by omega) (by omega) (by omega) rfl) (And.intro rfl (And.intro rfl (And.intro rfl (True.intro))))
            · refine l_aload_n rfl rfl ?_
              refine l_gfr rfl rfl rfl rfl rfl (hH.r 904 2 906 rfl) ?_
              refine l_iload_n rfl rfl ?_
              refine l_baload (n := 5000) rfl rfl rfl (by decide) (by omega) (by omega) (by unfold rg; omega) ?_
              have w43 : -128 ≤ (Xi S 906 ((v2).toNat)) ∧ (Xi S 906 ((v2).toNat)) ≤ 127 := hH.c _ _
              refine l_bipush rfl rfl ?_
              refine l_icmp_ne rfl rfl (by unfold rg; omega) (by unfold rg; omega) (fun w44 => ?_) (fun w45 => ?_)
              · exact Rl_weak (ih4 _ (by omega) (v2) (v3) (by omega) (by omega) (by omega) (by omega) rfl) (And.intro rfl (And.intro rfl (And.intro rfl (True.intro))))
              · refine l_iload_n rfl rfl ?_
                refine l_istore rfl rfl rfl ?_
                exact Rl_weak (C90 _ (v2) (v2) (by omega) (by omega) (by omega) (by omega) (by omega) (by omega) (by omega) rfl) (And.intro rfl (And.intro rfl (And.intro rfl (True.intro))))
          refine l_iload_n rfl rfl ?_
          refine l_aload_n rfl rfl ?_
          refine l_gfi rfl rfl rfl rfl rfl ?_
          refine l_icmp_ge rfl rfl (by unfold rg; omega) (by unfold rg; omega) (fun w46 => ?_) (fun w47 => ?_)
          · exact Rl_weak (C68 (v2) (v3) (by omega) (by omega) (by omega) (by omega) (by omega)) (And.intro rfl (And.intro rfl (And.intro rfl (True.intro))))
          · refine l_aload_n rfl rfl ?_
            refine l_gfr rfl rfl rfl rfl rfl (hH.r 904 2 906 rfl) ?_
            refine l_iload_n rfl rfl ?_
            refine l_baload (n := 5000) rfl rfl rfl (by decide) (by omega) (by omega) (by unfold rg; omega) ?_
            have w48 : -128 ≤ (Xi S 906 ((v2).toNat)) ∧ (Xi S 906 ((v2).toNat)) ≤ 127 := hH.c _ _
            refine l_bipush rfl rfl ?_
            refine l_icmp_eq rfl rfl (by unfold rg; omega) (by unfold rg; omega) (fun w49 => ?_) (fun w50 => ?_)
            · refine l_iinc rfl rfl rfl rfl ?_
              refine l_goto rfl rfl ?_
              exact Rl_weak (ih10 _ (by omega) ((v2 + 1)) (v3) (by omega) (by omega) (by omega) (by omega) (by omega) rfl) (And.intro rfl (And.intro rfl (And.intro rfl (True.intro))))
            · refine l_aload_n rfl rfl ?_
              refine l_gfr rfl rfl rfl rfl rfl (hH.r 904 2 906 rfl) ?_
              refine l_iload_n rfl rfl ?_
              refine l_baload (n := 5000) rfl rfl rfl (by decide) (by omega) (by omega) (by unfold rg; omega) ?_
              refine l_bipush rfl rfl ?_
              refine l_icmp_eq rfl rfl (by unfold rg; omega) (by unfold rg; omega) (fun w51 => ?_) (fun w52 => ?_)
              · refine l_iinc rfl rfl rfl rfl ?_
                refine l_goto rfl rfl ?_
                exact Rl_weak (ih10 _ (by omega) ((v2 + 1)) (v3) (by omega) (by omega) (by omega) (by omega) (by omega) rfl) (And.intro rfl (And.intro rfl (And.intro rfl (True.intro))))
              · refine l_aload_n rfl rfl ?_
                refine l_gfr rfl rfl rfl rfl rfl (hH.r 904 2 906 rfl) ?_
                refine l_iload_n rfl rfl ?_
                refine l_baload (n := 5000) rfl rfl rfl (by decide) (by omega) (by omega) (by unfold rg; omega) ?_
                refine l_bipush rfl rfl ?_
                refine l_icmp_eq rfl rfl (by unfold rg; omega) (by unfold rg; omega) (fun w53 => ?_) (fun w54 => ?_)
                · refine l_iinc rfl rfl rfl rfl ?_
                  refine l_goto rfl rfl ?_
                  exact Rl_weak (ih10 _ (by omega) ((v2 + 1)) (v3) (by omega) (by omega) (by omega) (by omega) (by omega) rfl) (And.intro rfl (And.intro rfl (And.intro rfl (True.intro))))
                · refine l_aload_n rfl rfl ?_
                  refine l_gfr rfl rfl rfl rfl rfl (hH.r 904 2 906 rfl) ?_
                  refine l_iload_n rfl rfl ?_
                  refine l_baload (n := 5000) rfl rfl rfl (by decide) (by omega) (by omega) (by unfold rg; omega) ?_
                  refine l_bipush rfl rfl ?_
                  refine l_icmp_ne rfl rfl (by unfold rg; omega) (by unfold rg; omega) (fun w55 => ?_) (fun w56 => ?_)
                  · exact Rl_weak (C68 (v2) (v3) (by omega) (by omega) (by omega) (by omega) (by omega)) (And.intro rfl (And.intro rfl (And.intro rfl (True.intro))))
                  · refine l_iinc rfl rfl rfl rfl ?_
                    refine l_goto rfl rfl ?_
                    exact Rl_weak (ih10 _ (by omega) ((v2 + 1)) (v3) (by omega) (by omega) (by omega) (by omega) (by omega) rfl) (And.intro rfl (And.intro rfl (And.intro rfl (True.intro))))
      refine l_iload_n rfl rfl ?_
      refine l_if_eq rfl rfl (by unfold rg; omega) (fun w57 => ?_) (fun w58 => ?_)
      · refine l_iload_n rfl rfl ?_
        refine l_ireturn rfl rfl ?_
        exact ⟨rfl, _, rfl, ⟨by omega, by omega⟩, (by first | assumption | omega), (by first | assumption | omega)⟩
      · refine l_iconst rfl ?_
        refine l_istore_n rfl rfl rfl ?_
        exact Rl_weak (C10 _ (v2) (0) (by omega) (by omega) (by omega) (by omega) (by omega) rfl) (And.intro rfl (And.intro rfl (And.intro rfl (True.intro))))
  refine l_iload_n rfl rfl ?_
  refine l_istore_n rfl rfl rfl ?_
  refine l_iconst rfl ?_
  refine l_istore_n rfl rfl rfl ?_
  exact Rl_weak (C4 _ (from_) (1) (by omega) (by omega) (by omega) (by omega) rfl) (And.intro rfl (And.intro rfl (And.intro rfl (True.intro))))
abbrev Q_mo_keyOf__2 (S : sS) (w : Int) : pst := fun r S1 => S = S1 ∧ (∃ z : Int, r = some (iv z) ∧ (0 ≤ z ∧ z ≤ 154) ∧ (z ≠ 3 → 100 ≤ z ∧ w = Xj S 911 (z - 100).toNat))
set_option maxRecDepth 100000 in
theorem t_mo_keyOf__2 {S : sS} (hH : HI S) (w : Int) (hw : rgL w) (d : Nat) : Mt lay0 (d + 1) m_mo_keyOf [.ref 904, jw w] S (Q_mo_keyOf__2 S w) := by
  refine Mt_R rfl rfl ?_
  have hw2 : -9223372036854775808 ≤ w ∧ w < 9223372036854775808 := hw
  have C2 : ∀ (n2 : Nat) (v3 : Int), (0 ≤ v3 ∧ v3 ≤ 55) → n2 = (56 - v3).toNat → Rl lay0 (d + 0) m_mo_keyOf 2 [(0, .ref 904), (1, jw w), (3, iv v3)] [] S (Q_mo_keyOf__2 S w) := by
    intro n2
    induction n2 using Nat.strongRecOn with
    | ind n2 ih2 =>
      intro v3 w1 hm2
      refine l_iload_n rfl rfl ?_
      refine l_bipush rfl rfl ?_
      refine l_icmp_ge rfl rfl (by unfold rg; omega) (by unfold rg; omega) (fun w2 => ?_) (fun w3 => ?_)
      · refine l_iconst rfl ?_
        refine l_ireturn rfl rfl ?_
        exact ⟨rfl, _, rfl, ⟨by omega, by omega⟩, (by first | (exact fun q => absurd rfl q) | (exact fun _ => ⟨by omega, by rw [show (100 + v3 - 100 : Int) = v3 by omega]; omega⟩))⟩
      · refine l_aload_n rfl rfl ?_
        refine l_gfr rfl rfl rfl rfl rfl (hH.r 904 9 911 rfl) ?_
        refine l_iload_n rfl rfl ?_
        refine l_laload (n := 55) rfl rfl (by omega) (by omega) (by unfold rg; omega) ?_
        have w4 : -9223372036854775808 ≤ (Xj S 911 ((v3).toNat)) ∧ (Xj S 911 ((v3).toNat)) < 9223372036854775808 := Xj_rg
        refine l_lload_n rfl rfl ?_
        refine l_lcmp rfl (by unfold rgL; omega) (by unfold rgL; omega) (fun c5 w5 w5a w5b w5c => ?_)
        refine l_if_ne rfl rfl (by unfold rg; omega) (fun w6 => ?_) (fun w7 => ?_)
        · refine l_iinc rfl rfl rfl rfl ?_
          refine l_goto rfl rfl ?_
          exact Rl_weak (ih2 _ (by omega) ((v3 + 1)) (by omega) rfl) (And.intro rfl (And.intro rfl (And.intro rfl (True.intro))))
        · refine l_bipush rfl rfl ?_
          refine l_iload_n rfl rfl ?_
          refine l_iadd rfl ?_
          refine l_ireturn rfl rfl ?_
          exact ⟨rfl, _, rfl, ⟨by omega, by omega⟩, (by first | (exact fun q => absurd rfl q) | (exact fun _ => ⟨by omega, by rw [show (100 + v3 - 100 : Int) = v3 by omega]; omega⟩))⟩
  refine l_iconst rfl ?_
  refine l_istore_n rfl rfl rfl ?_
  exact Rl_weak (C2 _ (0) (by omega) rfl) (And.intro rfl (And.intro rfl (And.intro rfl (True.intro))))
abbrev Q_mo_wordOf__2 (S : sS) (t : Nat) (from_ : Int) (n : Int) : pst := fun r S1 => S = S1 ∧ (∃ z : Int, r = some (jw z) ∧ (n ≤ 2 → 0 ≤ z ∧ z < 1024))
set_option maxRecDepth 100000 in
theorem t_mo_wordOf__2 {S : sS} (hH : HI S) (t : Nat) (from_ : Int) (n : Int) (ht : bp t) (hfrom_ : 0 ≤ from_ ∧ from_ ≤ 5000) (hn : 0 ≤ n ∧ n ≤ 5000) (hn : from_ + n ≤ 5000) (hl : ∀ i : Nat, from_ ≤ (i : Int) → (i : Int) < from_ + n → ltr (Xi S t i) = 1) (d : Nat) : Mt lay0 (d + 3) m_mo_wordOf [.ref t, iv from_, iv n] S (Q_mo_wordOf__2 S t from_ n) := by
  refine Mt_R rfl rfl ?_
  have C5 : ∀ (n5 : Nat) (v3 : Int) (v5 : Int), (0 ≤ v5 ∧ v5 ≤ 5000) → (v5 = 0 → v3 = 0) → (v5 = 1 → 0 ≤ v3 ∧ v3 < 32) → (v5 = 2 → 0 ≤ v3 ∧ v3 < 1024) → (v5 ≤ n) → n5 = (5001 - v5).toNat → Rl lay0 (d + 2) m_mo_wordOf 5 [(0, .ref t), (1, iv from_), (2, iv n), (3, jw v3), (5, iv v5)] [] S (Q_mo_wordOf__2 S t from_ n) := by
    intro n5
    induction n5 using Nat.strongRecOn with
    | ind n5 ih5 =>
      intro v3 v5 w1 w2 w3 w4 w5 hm5
      refine l_iload rfl rfl ?_
      refine l_iload_n rfl rfl ?_
      refine l_icmp_ge rfl rfl (by unfold rg; omega) (by unfold rg; omega) (fun w6 => ?_) (fun w7 => ?_)
      · refine l_lload_n rfl rfl ?_
        refine l_lreturn rfl rfl ?_
        exact ⟨rfl, _, rfl, (by omega)⟩
      · refine l_lload_n rfl rfl ?_
        refine l_iconst rfl ?_
        refine l_lshlF rfl ?_
        have w8 : rgL (lshlF v3 5) := lshlF_rg
        refine l_aload_n rfl rfl ?_
        refine l_iload_n rfl rfl ?_
        refine l_iload rfl rfl ?_
        refine l_iadd rfl ?_
        refine l_baload (n := 5000) rfl (bp_sv (by assumption)) (lay_bp (by assumption)) (by decide) (by omega) (by omega) (by unfold rg; omega) ?_
        have w9 : -128 ≤ (Xi S t (((from_ + v5)).toNat)) ∧ (Xi S t (((from_ + v5)).toNat)) ≤ 127 := bpc hH (by assumption)
        refine l_callS rfl rfl (by decide) rfl (t_mo_small hH (Xi S t (((from_ + v5)).toNat)) ⟨by omega, by omega⟩ _) ?_
        rintro _ _ ⟨rfl, z12, rfl, w12, w10, w11⟩
        show Rl _ _ _ _ _ [iv z12, jw (lshlF v3 5)] _ _
        have y20 : 97 ≤ z12 ∧ z12 ≤ 122 := by rw [(by assumption : z12 = sml _)]; exact ltr1 (hl (from_ + v5).toNat (by omega) (by omega))
        refine l_bipush rfl rfl ?_
        refine l_isub rfl ?_
        refine l_i2l rfl (by unfold rg; omega) ?_
        refine l_lorF rfl ?_
        have w13 : rgL (lorF (lshlF v3 5) (z12 - 96)) := lorF_rg
        have o27 : v5 = 0 → 0 ≤ (lorF (lshlF v3 5) (z12 - 96)) ∧ (lorF (lshlF v3 5) (z12 - 96)) < 32 := fun q => by rw [show v3 = 0 by omega]; exact w1i (by omega)
        have p27 : v5 = 1 → 0 ≤ (lorF (lshlF v3 5) (z12 - 96)) ∧ (lorF (lshlF v3 5) (z12 - 96)) < 1024 := fun q => w2i (by omega) (by omega)
        refine l_lstore_n rfl rfl rfl rfl ?_
        refine l_iinc rfl rfl rfl rfl ?_
        refine l_goto rfl rfl ?_
        exact Rl_weak (ih5 _ (by omega) ((lorF (lshlF v3 5) (z12 - 96))) ((v5 + 1)) (by omega) (by omega) (by omega) (by omega) (by omega) rfl) (And.intro rfl (And.intro rfl (And.intro rfl (And.intro rfl (And.intro rfl (True.intro))))))
  refine l_lconst (z := 0) rfl rfl ?_
  refine l_lstore_n rfl rfl rfl rfl ?_
  refine l_iconst rfl ?_
  refine l_istore rfl rfl rfl ?_
  exact Rl_weak (C5 _ (0) (0) (by omega) (by omega) (by omega) (by omega) (by omega) rfl) (And.intro rfl (And.intro rfl (And.intro rfl (And.intro rfl (And.intro rfl (True.intro))))))

