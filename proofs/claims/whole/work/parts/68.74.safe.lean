/-! SAFETY of methods: printed by wip/safe (vc.py, decl.py) -/
/-! SAFETY of the reference: reading on; what is noted of tests and phrases -/
theorem at_fr {S P : sS} {n c : Nat} (hA : AT S n c) (f7 : ∀ j, Xi P 907 j = Xi S 907 j) (f9 : ∀ j, Xi P 908 j = Xi S 908 j) (x8 : Xi P 904 8 = Xi S 904 8) (x65 : Xi P 904 65 = Xi S 904 65) (x69 : Xi P 904 69 = Xi S 904 69) (x93 : Xi P 904 93 = Xi S 904 93) : AT P n c := by
  unfold AT
  rw [x8, x65, x69, x93, f7, f9]
  exact hA
theorem tk_fr {S P : sS} {n : Nat} (hT : TK S n) (f7 : ∀ j, Xi P 907 j = Xi S 907 j) (f9 : ∀ j, Xi P 908 j = Xi S 908 j) : TK P n := by
  unfold TK
  simp only [f7, f9]
  exact hT
/-- one token further -/
theorem at_mv {S P U : sS} {n c c2 : Nat} {v : Int} (hT : TK S n) (hA : AT S n c) (f7 : ∀ j, Xi P 907 j = Xi S 907 j) (f9 : ∀ j, Xi P 908 j = Xi S 908 j) (x8 : Xi P 904 8 = Xi S 904 8) (x65 : Xi P 904 65 = Xi S 904 65) (x69 : Xi P 904 69 = Xi S 904 69) (x93 : Xi P 904 93 = Xi S 904 93) (e : U = uI P 904 8 (Int32.ofInt v)) (hv : v = Xi S 904 8 + 1) (h0 : 0 ≤ Xi S 904 8) (hb : Xi S 904 65 = 0) (h1 : Xi S 907 (Xi S 904 8).toNat ≠ 1) (hc : c2 = c ∨ (c2 = c + 1 ∧ K3 (Xi S 907 (Xi S 904 8).toNat))) : AT U n c2 ∧ Xi U 904 8 = Xi S 904 8 + 1 ∧ Xi S 904 8 + 1 ≤ n := by
  have lt := tk_lt hT h0 (hA hb).1 h1
  have hn := hT.1
  refine ⟨at_up (tk_fr hT f7 f9) (at_fr hA f7 f9 x8 x65 x69 x93) e (by omega) (by omega) (by omega) (by rw [x8, f7]; exact h1) (by rw [x8, f7]; exact hc), ?_, by omega⟩
  rw [e, hv]; exact Xi_same ⟨by omega, by omega⟩
/-- two tokens further -/
theorem at_mv2 {S P U : sS} {n c : Nat} {v : Int} (hT : TK S n) (hA : AT S n c) (f7 : ∀ j, Xi P 907 j = Xi S 907 j) (f9 : ∀ j, Xi P 908 j = Xi S 908 j) (x8 : Xi P 904 8 = Xi S 904 8) (x65 : Xi P 904 65 = Xi S 904 65) (x69 : Xi P 904 69 = Xi S 904 69) (x93 : Xi P 904 93 = Xi S 904 93) (e : U = uI P 904 8 (Int32.ofInt v)) (hv : v = Xi S 904 8 + 2) (h0 : 0 ≤ Xi S 904 8) (hb : Xi S 904 65 = 0) (h1 : Xi S 907 (Xi S 904 8).toNat ≠ 1) (h2 : Xi S 907 (Xi S 904 8 + 1).toNat ≠ 1) : AT U n c ∧ Xi U 904 8 = Xi S 904 8 + 2 ∧ Xi S 904 8 + 2 ≤ n := by
  have lt := tk_lt hT h0 (hA hb).1 h1
  have lt2 := tk_lt hT (a := Xi S 904 8 + 1) (by omega) (by omega) h2
  have hn := hT.1
  refine ⟨(at_up2 (tk_fr hT f7 f9) (at_fr hA f7 f9 x8 x65 x69 x93) e (by omega) (by omega) (by omega) (by rw [x8, f7]; exact h1) (by rw [x8, f7]; exact h2)).1, ?_, by omega⟩
  rw [e, hv]; exact Xi_same ⟨by omega, by omega⟩
/-- entries below m stay -/
def KT (T S : sS) (m : Int) : Prop := ∀ i : Nat, (i : Int) < m → ∀ k : Nat, 952 ≤ k → k ≤ 962 → Xi T k i = Xi S k i
theorem KT.rf {S : sS} {m : Int} : KT S S m := fun _ _ _ _ _ => rfl
theorem KT.tr {S T U : sS} {m m2 : Int} (h : KT T S m) (g : KT U T m2) (e : m ≤ m2) : KT U S m := fun i hi k a b => (g i (by omega) k a b).trans (h i hi k a b)
theorem kdis_x {l : List rec} {S T : sS} (f : FR l S T) (e : kdis l [(952, 963)] = true) (k : Nat) (a : 952 ≤ k) (b : k ≤ 962) (i : Nat) : Xi T k i = Xi S k i := by
  have q := f.smk e
  rcases (by omega : k = 952 ∨ k = 953 ∨ k = 954 ∨ k = 955 ∨ k = 956 ∨ k = 957 ∨ k = 958 ∨ k = 959 ∨ k = 960 ∨ k = 961 ∨ k = 962) with h | h | h | h | h | h | h | h | h | h | h <;> subst h <;> exact q.x _ rfl i
theorem KT_FR {l : List rec} {T U S : sS} {m : Int} (f : FR l T U) (e : kdis l [(952, 963)] = true) (h : KT T S m) : KT U S m := fun i hi k a b => (kdis_x f e k a b i).trans (h i hi k a b)
/-- a write at m or beyond -/
theorem KT.w {T U S : sS} {m : Int} {k j : Nat} {v : Int32} (h : KT T S m) (e : U = uI T k j v) (hj : m ≤ j) : KT U S m := fun i hi k2 a b => by
  rw [e, Xi_ne (by omega)]
  exact h i hi k2 a b
/-- a thing that was read: where it stands, which run names it -/
def THV (m : Int) (n : Nat) (td rn : Int) : Prop := td % 10000 ≤ n ∧ (20000 ≤ td → 0 ≤ rn ∧ rn < m)
theorem THV.mono {m m2 : Int} {n : Nat} {td rn : Int} (h : THV m n td rn) (e : m ≤ m2) : THV m2 n td rn := ⟨h.1, fun q => by have := h.2 q; omega⟩
theorem thv_i {m : Int} {n : Nat} {s t r x y : Int} (hx : x = s * 10000 + t) (hy : y = r) (hs : 0 ≤ s ∧ s ≤ 2) (ht : 0 ≤ t ∧ t ≤ 5010) (h1 : t ≤ n) (h0 : 0 ≤ r) (h2 : s = 2 → r < m) : THV m n x y := by
  unfold THV
  rcases (by omega : s = 0 ∨ s = 1 ∨ s = 2) with e | e | e <;> subst e <;> refine ⟨by omega, fun q => by omega⟩
/-- what a test tells, but where it begins and ends -/
def TVx (S : sS) (n : Nat) (i : Nat) : Prop := (Xi S 952 i ≠ 5 → THV (Xi S 904 69) n (Xi S 954 i) (Xi S 955 i)) ∧ (Xi S 952 i ≤ 3 → Xi S 956 i < Xi S 904 69) ∧ (Xi S 952 i = 4 → THV (Xi S 904 69) n (Xi S 959 i) (Xi S 960 i)) ∧ (Xi S 952 i ≤ 2 → Xi S 957 i ≤ n) ∧ (Xi S 952 i = 0 → Xi S 907 (Xi S 957 i).toNat ≠ 4 → Xi S 907 (Xi S 957 i).toNat ≠ 5 → 0 ≤ Xi S 960 i ∧ Xi S 960 i < Xi S 904 69)
def TV (S : sS) (n : Nat) (i : Nat) : Prop := (Xi S 961 i ≤ Xi S 962 i ∧ Xi S 962 i ≤ n) ∧ TVx S n i
theorem tvx_5 {S : sS} {n i : Nat} (h : Xi S 952 i = 5) : TVx S n i := ⟨fun q => absurd h q, fun q => by omega, fun q => by omega, fun q => by omega, fun q => by omega⟩
theorem tvx_3 {S : sS} {n i : Nat} (h : Xi S 952 i = 3) (h1 : THV (Xi S 904 69) n (Xi S 954 i) (Xi S 955 i)) (h2 : Xi S 956 i < Xi S 904 69) : TVx S n i := ⟨fun _ => h1, fun _ => h2, fun q => by omega, fun q => by omega, fun q => by omega⟩
theorem tvx_4 {S : sS} {n i : Nat} (h : Xi S 952 i = 4) (h1 : THV (Xi S 904 69) n (Xi S 954 i) (Xi S 955 i)) (h2 : THV (Xi S 904 69) n (Xi S 959 i) (Xi S 960 i)) : TVx S n i := ⟨fun _ => h1, fun q => by omega, fun _ => h2, fun q => by omega, fun q => by omega⟩
theorem tvx_2 {S : sS} {n i : Nat} (h : Xi S 952 i ≤ 2) (h1 : THV (Xi S 904 69) n (Xi S 954 i) (Xi S 955 i)) (h2 : Xi S 956 i < Xi S 904 69) (h3 : Xi S 957 i ≤ n) (h4 : Xi S 952 i = 0 → Xi S 907 (Xi S 957 i).toNat ≠ 4 → Xi S 907 (Xi S 957 i).toNat ≠ 5 → 0 ≤ Xi S 960 i ∧ Xi S 960 i < Xi S 904 69) : TVx S n i := ⟨fun _ => h1, fun _ => h2, fun q => by omega, fun _ => h3, h4⟩
theorem TVx.mv {S T : sS} {n i : Nat} (h : TVx S n i) (hk : ∀ k : Nat, 952 ≤ k → k ≤ 960 → Xi T k i = Xi S k i) (hr : Xi S 904 69 ≤ Xi T 904 69) (h7 : ∀ j, Xi T 907 j = Xi S 907 j) : TVx T n i := by
  unfold TVx
  rw [hk 952 (by omega) (by omega), hk 954 (by omega) (by omega), hk 955 (by omega) (by omega), hk 956 (by omega) (by omega), hk 957 (by omega) (by omega), hk 959 (by omega) (by omega), hk 960 (by omega) (by omega), h7]
  obtain ⟨a, b, c, d, e⟩ := h
  exact ⟨fun q => (a q).mono hr, fun q => by have := b q; omega, fun q => (c q).mono hr, d, fun q1 q2 q3 => by have := e q1 q2 q3; omega⟩
theorem TV.mv {S T : sS} {n i : Nat} (h : TV S n i) (hk : ∀ k : Nat, 952 ≤ k → k ≤ 962 → Xi T k i = Xi S k i) (hr : Xi S 904 69 ≤ Xi T 904 69) (h7 : ∀ j, Xi T 907 j = Xi S 907 j) : TV T n i := by
  refine ⟨?_, h.2.mv (fun k a b => hk k a (by omega)) hr h7⟩
  rw [hk 961 (by omega) (by omega), hk 962 (by omega) (by omega)]
  exact h.1
/-- all tests below m -/
def TVA (S : sS) (n : Nat) (m : Int) : Prop := ∀ i : Nat, (i : Int) < m → TV S n i
theorem TVA.mv {S T : sS} {n : Nat} {m : Int} (h : TVA S n m) (hk : KT T S m) (hr : Xi S 904 69 ≤ Xi T 904 69) (h7 : ∀ j, Xi T 907 j = Xi S 907 j) : TVA T n m := fun i hi => (h i hi).mv (fun k a b => hk i hi k a b) hr h7
theorem TVA.add {S : sS} {n : Nat} {m m2 : Int} (h : TVA S n m) (h0 : 0 ≤ m) (e : m2 = m + 1) (g : TV S n m.toNat) : TVA S n m2 := fun i hi => by
  rcases (by omega : (i : Int) < m ∨ i = m.toNat) with q | q
  · exact h i q
  · rw [q]; exact g
/-- what a phrase of sort w tells, its entry being t -/
def PVt (S : sS) (n : Nat) (w : Int) (t : Nat) : Prop := (w = 0 → Xi S 957 t ≤ n ∧ Xi S 907 (Xi S 957 t).toNat = 5) ∧ (w = 1 → TV S n t ∧ (Xi S 952 t = 0 ∨ Xi S 952 t = 3 ∨ Xi S 952 t = 5)) ∧ (w = 2 ∨ w = 3 ∨ w = 4 → THV (Xi S 904 69) n (Xi S 954 t) (Xi S 955 t)) ∧ (w = 2 → THV (Xi S 904 69) n (Xi S 959 t) (Xi S 960 t)) ∧
  (w = 3 ∨ w = 4 ∨ w = 5 → Xi S 956 t < Xi S 904 69) ∧ (w = 3 ∨ w = 4 → Xi S 957 t ≤ n) ∧ (w = 5 → Xi S 953 t ≠ 0 → THV (Xi S 904 69) n (Xi S 954 t) (Xi S 955 t))
def PV (S : sS) (n : Nat) (i : Nat) : Prop := PVt S n (Xi S 963 i) (Xi S 964 i).toNat
theorem pv_i {S : sS} {n i t : Nat} {w : Int} (h : PVt S n w t) (e1 : Xi S 963 i = w) (e2 : Xi S 964 i = t) : PV S n i := by
  unfold PV
  rw [e1, e2]
  exact h
theorem pvt_0 {S : sS} {n t : Nat} (h : Xi S 957 t ≤ n) (h2 : Xi S 907 (Xi S 957 t).toNat = 5) : PVt S n 0 t := ⟨fun _ => ⟨h, h2⟩, fun q => absurd q (by decide), fun q => absurd q (by decide), fun q => absurd q (by decide), fun q => absurd q (by decide), fun q => absurd q (by decide), fun q => absurd q (by decide)⟩
theorem pvt_1 {S : sS} {n t : Nat} (h : TV S n t) (h2 : Xi S 952 t = 0 ∨ Xi S 952 t = 3 ∨ Xi S 952 t = 5) : PVt S n 1 t := ⟨fun q => absurd q (by decide), fun _ => ⟨h, h2⟩, fun q => absurd q (by decide), fun q => absurd q (by decide), fun q => absurd q (by decide), fun q => absurd q (by decide), fun q => absurd q (by decide)⟩
theorem pvt_2 {S : sS} {n t : Nat} (h : THV (Xi S 904 69) n (Xi S 954 t) (Xi S 955 t)) (h2 : THV (Xi S 904 69) n (Xi S 959 t) (Xi S 960 t)) : PVt S n 2 t := ⟨fun q => absurd q (by decide), fun q => absurd q (by decide), fun _ => h, fun _ => h2, fun q => absurd q (by decide), fun q => absurd q (by decide), fun q => absurd q (by decide)⟩
theorem pvt_3 {S : sS} {n t : Nat} {w : Int} (hw : w = 3 ∨ w = 4) (h : THV (Xi S 904 69) n (Xi S 954 t) (Xi S 955 t)) (h2 : Xi S 956 t < Xi S 904 69) (h3 : Xi S 957 t ≤ n) : PVt S n w t := ⟨fun q => by omega, fun q => by omega, fun _ => h, fun q => by omega, fun _ => h2, fun _ => h3, fun q => by omega⟩
theorem pvt_5 {S : sS} {n t : Nat} (h : Xi S 956 t < Xi S 904 69) (h2 : Xi S 953 t ≠ 0 → THV (Xi S 904 69) n (Xi S 954 t) (Xi S 955 t)) : PVt S n 5 t := ⟨fun q => absurd q (by decide), fun q => absurd q (by decide), fun q => absurd q (by decide), fun q => absurd q (by decide), fun _ => h, fun q => absurd q (by decide), fun _ => h2⟩
theorem pvt_6 {S : sS} {n t : Nat} : PVt S n 6 t := ⟨fun q => absurd q (by decide), fun q => absurd q (by decide), fun q => absurd q (by decide), fun q => absurd q (by decide), fun q => absurd q (by decide), fun q => absurd q (by decide), fun q => absurd q (by decide)⟩
theorem PVt.mv {S T : sS} {n t : Nat} {w : Int} (h : PVt S n w t) (x : ∀ k : Nat, 952 ≤ k → k ≤ 962 → Xi T k t = Xi S k t) (hr : Xi S 904 69 ≤ Xi T 904 69) (h7 : ∀ j, Xi T 907 j = Xi S 907 j) : PVt T n w t := by
  unfold PVt
  rw [x 952 (by omega) (by omega), x 953 (by omega) (by omega), x 954 (by omega) (by omega), x 955 (by omega) (by omega), x 956 (by omega) (by omega), x 957 (by omega) (by omega), x 959 (by omega) (by omega), x 960 (by omega) (by omega), h7]
  obtain ⟨a, b, c, d, e, f, g⟩ := h
  exact ⟨a, fun q => ⟨(b q).1.mv x hr h7, (b q).2⟩, fun q => (c q).mono hr, fun q => (d q).mono hr, fun q => by have := e q; omega, f, fun q1 q2 => (g q1 q2).mono hr⟩
/-- entries of phrases below m stay -/
def KP (T S : sS) (m : Int) : Prop := ∀ i : Nat, (i : Int) < m → Xi T 963 i = Xi S 963 i ∧ Xi T 964 i = Xi S 964 i ∧ Xi T 965 i = Xi S 965 i
theorem PV.mv {S T : sS} {n i : Nat} {m : Int} (h : PV S n i) (h0 : 0 ≤ Xi S 964 i) (ht : Xi S 964 i < m) (hk : KT T S m) (hp : Xi T 963 i = Xi S 963 i ∧ Xi T 964 i = Xi S 964 i ∧ Xi T 965 i = Xi S 965 i) (hr : Xi S 904 69 ≤ Xi T 904 69) (h7 : ∀ j, Xi T 907 j = Xi S 907 j) : PV T n i := by
  unfold PV
  rw [hp.1, hp.2.1]
  exact PVt.mv h (fun k a b => hk (Xi S 964 i).toNat (by omega) k a b) hr h7
/-- all phrases below m, their entries below the count -/
def PVA (S : sS) (n : Nat) (m : Int) : Prop := ∀ i : Nat, (i : Int) < m → Xi S 964 i < Xi S 904 93 ∧ PV S n i
theorem PVA.mv {S T : sS} {n : Nat} {m : Int} (h : PVA S n m) (hH : HI S) (hk : KT T S (Xi S 904 93)) (hp : KP T S m) (hr : Xi S 904 69 ≤ Xi T 904 69) (hc : Xi S 904 93 ≤ Xi T 904 93) (h7 : ∀ j, Xi T 907 j = Xi S 907 j) : PVA T n m := fun i hi => by
  obtain ⟨a, b⟩ := h i hi
  have c : 0 ≤ Xi S 964 i ∧ Xi S 964 i ≤ 1700 := hH.c 964 i
  refine ⟨?_, b.mv c.1 a hk (hp i hi) hr h7⟩
  rw [(hp i hi).2.1]; omega
theorem PVA.add {S : sS} {n : Nat} {m m2 : Int} (h : PVA S n m) (h0 : 0 ≤ m) (e : m2 = m + 1) (g : Xi S 964 m.toNat < Xi S 904 93 ∧ PV S n m.toNat) : PVA S n m2 := fun i hi => by
  rcases (by omega : (i : Int) < m ∨ i = m.toNat) with q | q
  · exact h i q
  · rw [q]; exact g
theorem tvx_w {P U : sS} {n i k j : Nat} {v : Int32} (h : TVx P n i) (e : U = uI P k j v) (hk : k ≠ 907 ∧ (k = 904 → j ≠ 69) ∧ (k < 952 ∨ 960 < k)) : TVx U n i := h.mv (fun a b c => by rw [e, Xi_ne (by omega)]) (by rw [e, Xi_ne (by omega)]; exact Int.le_refl _) (fun a => by rw [e, Xi_ne (by omega)])
theorem pvt_w {P U : sS} {n i k j : Nat} {w : Int} {v : Int32} (h : PVt P n w i) (e : U = uI P k j v) (hk : k ≠ 907 ∧ (k = 904 → j ≠ 69) ∧ (k < 952 ∨ 962 < k)) : PVt U n w i := h.mv (fun a b c => by rw [e, Xi_ne (by omega)]) (by rw [e, Xi_ne (by omega)]; exact Int.le_refl _) (fun a => by rw [e, Xi_ne (by omega)])
theorem thv_c {m m2 : Int} {n : Nat} {a b a2 b2 : Int} (h : THV m n a b) (e : m ≤ m2) (ea : a2 = a) (eb : b2 = b) : THV m2 n a2 b2 := by rw [ea, eb]; exact h.mono e
/-- at most one token further -/
theorem at_opt {P U : sS} {n c : Nat} {v : Int} (hT : TK P n) (hA : AT P n c) (e : U = uI P 904 8 (Int32.ofInt v)) (hv : v = Xi P 904 8 ∨ (v = Xi P 904 8 + 1 ∧ Xi P 904 65 = 0 ∧ Xi P 907 (Xi P 904 8).toNat ≠ 1)) (h8 : 0 ≤ Xi P 904 8 ∧ Xi P 904 8 ≤ 5010) : AT U n c ∧ Xi P 904 8 ≤ Xi U 904 8 ∧ (Xi U 904 8 ≤ n ∨ Xi U 904 8 = Xi P 904 8) := by
  rcases hv with q | ⟨q, b, h1⟩
  · have x8 : Xi U 904 8 = Xi P 904 8 := by rw [e, q]; exact Xi_same ⟨by omega, by omega⟩
    exact ⟨at_same hA e q h8, by omega, by omega⟩
  · have t := at_mv hT hA (fun _ => rfl) (fun _ => rfl) rfl rfl rfl rfl e q h8.1 b h1 (Or.inl rfl)
    exact ⟨t.1, by omega, by omega⟩
/-- one more entry -/
theorem at_ct {P U : sS} {n c c2 : Nat} {v : Int} (hA : AT P n c) (e : U = uI P 904 93 (Int32.ofInt v)) (hv : v = Xi P 904 93 + 1) (h0 : 0 ≤ Xi P 904 93 ∧ Xi P 904 93 ≤ 1700) (hc : c = c2 + 1) : AT U n c2 := fun q => by
  have x : ∀ j, j ≠ 93 → Xi U 904 j = Xi P 904 j := fun j hj => by rw [e, Xi_ne (by omega)]
  have x93 : Xi U 904 93 = Xi P 904 93 + 1 := by rw [e, hv]; exact Xi_same ⟨by omega, by omega⟩
  have x7 : ∀ j, Xi U 907 j = Xi P 907 j := fun j => by rw [e, Xi_ne (by omega)]
  have x9 : ∀ j, Xi U 908 j = Xi P 908 j := fun j => by rw [e, Xi_ne (by omega)]
  rw [x 65 (by decide)] at q
  obtain ⟨a, b, d, f⟩ := hA q
  rw [x 8 (by decide), x 69 (by decide), x93, x7, x9]
  exact ⟨a, b, d, by omega⟩
theorem at_tc {S : sS} {n c : Nat} (hA : AT S n c) (hH : HI S) (q : Xi S 904 65 = 0) : Xi S 904 93 + c ≤ 1666 := by
  have t := (hA q).2.2.2
  have u : 0 ≤ Xi S 908 (Xi S 904 8).toNat ∧ Xi S 908 (Xi S 904 8).toNat ≤ 5000 := hH.c 908 _
  omega
theorem KP.w {T U S : sS} {m : Int} {k j : Nat} {v : Int32} (h : KP T S m) (e : U = uI T k j v) (hj : (k < 963 ∨ 965 < k) ∨ m ≤ j) : KP U S m := fun i hi => by
  rw [e, Xi_ne (by omega), Xi_ne (by omega), Xi_ne (by omega)]
  exact h i hi
theorem KP_FR {l : List rec} {T U S : sS} {m : Int} (f : FR l T U) (e : kdis l [(963, 966)] = true) (h : KP T S m) : KP U S m := fun i hi => by
  have q := f.smk e
  rw [q.x 963 rfl, q.x 964 rfl, q.x 965 rfl]
  exact h i hi
theorem KP.rf {S : sS} {m : Int} : KP S S m := fun _ _ => ⟨rfl, rfl, rfl⟩
theorem pv_w {P U : sS} {n i k j : Nat} {v : Int32} (h : PV P n i) (e : U = uI P k j v) (hk : k ≠ 907 ∧ (k = 904 → j ≠ 69) ∧ (k < 952 ∨ 964 < k)) : PV U n i := by
  have x : ∀ a i, a = 963 ∨ a = 964 → Xi U a i = Xi P a i := fun a i c => by rw [e, Xi_ne (by omega)]
  unfold PV
  rw [x 963 i (Or.inl rfl), x 964 i (Or.inr rfl)]
  exact pvt_w h e (by omega)
def md_mo_take__2 : List rec := [(904, 905, 8, 9), (904, 905, 65, 66), (904, 905, 66, 67)]
abbrev Q_mo_take__2 (S : sS) (n : Nat) (c : Nat) (k : Int) : pst := fun r S1 => HI S1 ∧ FR md_mo_take__2 S S1 ∧ (r = none ∧ (AT S1 n c) ∧ (Xi S 904 8 ≤ Xi S1 904 8 ∧ (Xi S1 904 8 ≤ n ∨ Xi S1 904 8 = Xi S 904 8)) ∧ (Xi S1 904 65 = 0 → Xi S 904 65 = 0) ∧ (Xi S1 904 65 = 0 → Xi S1 904 8 = Xi S 904 8 + 1 ∧ Xi S 907 (Xi S 904 8).toNat = k))
set_option maxRecDepth 100000 in
theorem t_mo_take__2 {S : sS} (hH : HI S) (n : Nat) (c : Nat) (k : Int) (hk : 2 ≤ k ∧ k ≤ 154) (hT : TK S n) (hA : AT S n c) (hk : k ≠ 3 ∧ k ≠ 1) (d : Nat) : Mt lay0 (d + 2) m_mo_take [.ref 904, iv k] S (Q_mo_take__2 S n c k) := by
  refine Mt_R rfl rfl ?_
  have hF : FR md_mo_take__2 S S := FR.rf
  have w1 : 0 ≤ Xi S 904 65 ∧ Xi S 904 65 ≤ 1 := hH.c _ _
  have w2 : 0 ≤ Xi S 904 8 ∧ Xi S 904 8 ≤ 5010 := hH.c _ _
  have hn5 := hT.1
  have hat := hA
  have h8 : 0 ≤ Xi S 904 8 ∧ Xi S 904 8 ≤ 5010 := hH.c _ _
  have h69 : 0 ≤ Xi S 904 69 ∧ Xi S 904 69 ≤ 2600 := hH.c _ _
  have ha0 : Xi S 904 65 = 0 → Xi S 904 8 ≤ n := fun q => (hA q).1
  have ha3 : Xi S 904 65 = 0 → 2 * Xi S 904 69 ≤ Xi S 904 8 + 1 := fun q => (hA q).2.1
  clear hat
  refine l_aload_n rfl rfl ?_
  refine l_iload_n rfl rfl ?_
  have w3 : 0 ≤ Xi S 904 65 ∧ Xi S 904 65 ≤ 1 := hH.c _ _
  have w4 : 0 ≤ Xi S 904 8 ∧ Xi S 904 8 ≤ 5010 := hH.c _ _
  refine l_callV rfl rfl rfl (t_mo_isNext hH n c k ⟨by omega, by omega⟩ (by first | assumption | exact (TK_FR hF rfl (by assumption : TK S _))) (by first | assumption | exact (by assumption : AT S _ _)) _) ?_
  rintro _ _ ⟨rfl, z7, rfl, w7, w5, w6⟩
  show Rl _ _ _ _ _ [iv z7] _ _
  refine l_if_eq rfl rfl (by unfold rg; omega) (fun w8 => ?_) (fun w9 => ?_)
  · refine l_aload_n rfl rfl ?_
    have w10 : 0 ≤ Xi S 904 65 ∧ Xi S 904 65 ≤ 1 := hH.c _ _
    have w11 : 0 ≤ Xi S 904 8 ∧ Xi S 904 8 ≤ 5010 := hH.c _ _
    refine l_callV rfl rfl rfl (t_mo_odd hH _) ?_
    rintro _ T1 ⟨hHT1, w15, rfl, w12, w13⟩
    have hFT1 : FR md_mo_take__2 S T1 := FR.tr hF w15 rfl
    show Rl _ _ _ _ _ [] _ _
    refine l_return rfl rfl ?_
    have w16 : 0 ≤ Xi T1 904 65 ∧ Xi T1 904 65 ≤ 1 := hHT1.c _ _
    have w17 : Xi T1 904 8 = Xi S 904 8 := (show Xi T1 904 8 = Xi S 904 8 from w15.x _ _ rfl)
    have w18 : 0 ≤ Xi S 904 8 ∧ Xi S 904 8 ≤ 5010 := hH.c _ _
    exact ⟨hHT1, hFT1, rfl, (by first | exact t15 | exact AT_bad (by omega)), (by omega), (by omega), (by omega)⟩
  · refine l_aload_n rfl rfl ?_
    refine l_dup rfl rfl ?_
    refine l_gfi rfl rfl rfl rfl rfl ?_
    refine l_iconst rfl ?_
    refine l_iadd rfl ?_
    refine l_pfi rfl rfl rfl rfl ?_
    obtain ⟨U2, eU2⟩ : ∃ T : sS, T = uI S 904 8 (Int32.ofInt ((Xi S 904 8) + 1)) := ⟨_, rfl⟩
    rw [← eU2]
    have hHU2 : HI U2 := by rw [eU2]; exact HI_w hH (show 0 ≤ ((Xi S 904 8) + 1) by omega) (show ((Xi S 904 8) + 1) ≤ 5010 by omega)
    have hFU2 : FR md_mo_take__2 S U2 := by rw [eU2]; exact FR.wI hF (mdf_i (r := (904, 905, 8, 9)) (List.mem_of_getElem? (i := 0) rfl) (inR_i (by omega) (by omega) (by omega) (by omega)))
    have w19 : Xi U2 904 8 = ((Xi S 904 8) + 1) := by rw [eU2]; exact Xi_same (by unfold rg; omega)
    have t15 : AT U2 n c := at_up hT hA eU2 (by omega) (by omega) (by omega) (by omega) (Or.inl rfl)
    have l15 : Xi U2 904 8 ≤ n := by have q := tk_lt hT (by omega) (ha0 (by omega)) (by omega); omega
    refine l_goto rfl rfl ?_
    refine l_return rfl rfl ?_
    have w20 : Xi U2 904 65 = Xi S 904 65 := (show Xi U2 904 65 = Xi S 904 65 from by rw [eU2]; exact Xi_ne (by omega))
    have w21 : 0 ≤ Xi S 904 65 ∧ Xi S 904 65 ≤ 1 := hH.c _ _
    have w22 : 0 ≤ Xi U2 904 8 ∧ Xi U2 904 8 ≤ 5010 := hHU2.c _ _
    exact ⟨hHU2, hFU2, rfl, (by first | exact t15 | exact AT_bad (by omega)), (by omega), (by omega), (by omega)⟩
def md_mo_art__2 : List rec := [(904, 905, 8, 9), (904, 905, 65, 66), (904, 905, 66, 67)]
abbrev Q_mo_art__2 (S : sS) (n : Nat) (c : Nat) : pst := fun r S1 => HI S1 ∧ FR md_mo_art__2 S S1 ∧ (r = none ∧ (AT S1 n c) ∧ (Xi S 904 8 ≤ Xi S1 904 8 ∧ (Xi S1 904 8 ≤ n ∨ Xi S1 904 8 = Xi S 904 8)) ∧ (Xi S1 904 65 = 0 → Xi S 904 65 = 0))
set_option maxRecDepth 100000 in
theorem t_mo_art__2 {S : sS} (hH : HI S) (n : Nat) (c : Nat) (hT : TK S n) (hA : AT S n c) (d : Nat) : Mt lay0 (d + 2) m_mo_art [.ref 904] S (Q_mo_art__2 S n c) := by
  refine Mt_R rfl rfl ?_
  have hF : FR md_mo_art__2 S S := FR.rf
  have w1 : 0 ≤ Xi S 904 65 ∧ Xi S 904 65 ≤ 1 := hH.c _ _
  have w2 : 0 ≤ Xi S 904 8 ∧ Xi S 904 8 ≤ 5010 := hH.c _ _
  have hn5 := hT.1
  have hat := hA
  have h8 : 0 ≤ Xi S 904 8 ∧ Xi S 904 8 ≤ 5010 := hH.c _ _
  have h69 : 0 ≤ Xi S 904 69 ∧ Xi S 904 69 ≤ 2600 := hH.c _ _
  have ha0 : Xi S 904 65 = 0 → Xi S 904 8 ≤ n := fun q => (hA q).1
  have ha3 : Xi S 904 65 = 0 → 2 * Xi S 904 69 ≤ Xi S 904 8 + 1 := fun q => (hA q).2.1
  clear hat
  refine l_aload_n rfl rfl ?_
  have w3 : 0 ≤ Xi S 904 65 ∧ Xi S 904 65 ≤ 1 := hH.c _ _
  have w4 : 0 ≤ Xi S 904 8 ∧ Xi S 904 8 ≤ 5010 := hH.c _ _
  refine l_callV rfl rfl rfl (t_mo_look hH n c (by first | assumption | exact (TK_FR hF rfl (by assumption : TK S _))) (by first | assumption | exact (by assumption : AT S _ _)) _) ?_
  rintro _ _ ⟨rfl, z6, rfl, w6, w5⟩
  show Rl _ _ _ _ _ [iv z6] _ _
  have w7 : 0 ≤ Xi S 904 65 ∧ Xi S 904 65 ≤ 1 := hH.c _ _
  have w8 : 0 ≤ Xi S 904 8 ∧ Xi S 904 8 ≤ 5010 := hH.c _ _
  refine l_callS rfl rfl (by decide) rfl (t_mo_isArt hH z6 ⟨by omega, by omega⟩ _) ?_
  rintro _ _ ⟨rfl, z10, rfl, w10, w9⟩
  show Rl _ _ _ _ _ [iv z10] _ _
  refine l_if_eq rfl rfl (by unfold rg; omega) (fun w11 => ?_) (fun w12 => ?_)
  · refine l_aload_n rfl rfl ?_
    have w13 : 0 ≤ Xi S 904 65 ∧ Xi S 904 65 ≤ 1 := hH.c _ _
    have w14 : 0 ≤ Xi S 904 8 ∧ Xi S 904 8 ≤ 5010 := hH.c _ _
    refine l_callV rfl rfl rfl (t_mo_odd hH _) ?_
    rintro _ T1 ⟨hHT1, w18, rfl, w15, w16⟩
    have hFT1 : FR md_mo_art__2 S T1 := FR.tr hF w18 rfl
    show Rl _ _ _ _ _ [] _ _
    refine l_return rfl rfl ?_
    have w19 : 0 ≤ Xi T1 904 65 ∧ Xi T1 904 65 ≤ 1 := hHT1.c _ _
    have w20 : Xi T1 904 8 = Xi S 904 8 := (show Xi T1 904 8 = Xi S 904 8 from w18.x _ _ rfl)
    have w21 : 0 ≤ Xi S 904 8 ∧ Xi S 904 8 ≤ 5010 := hH.c _ _
    exact ⟨hHT1, hFT1, rfl, (by first | exact t17 | exact AT_bad (by omega)), (by omega), (by omega)⟩
  · refine l_aload_n rfl rfl ?_
    refine l_dup rfl rfl ?_
    refine l_gfi rfl rfl rfl rfl rfl ?_
    refine l_iconst rfl ?_
    refine l_iadd rfl ?_
    refine l_pfi rfl rfl rfl rfl ?_
    obtain ⟨U2, eU2⟩ : ∃ T : sS, T = uI S 904 8 (Int32.ofInt ((Xi S 904 8) + 1)) := ⟨_, rfl⟩
    rw [← eU2]
    have hHU2 : HI U2 := by rw [eU2]; exact HI_w hH (show 0 ≤ ((Xi S 904 8) + 1) by omega) (show ((Xi S 904 8) + 1) ≤ 5010 by omega)
    have hFU2 : FR md_mo_art__2 S U2 := by rw [eU2]; exact FR.wI hF (mdf_i (r := (904, 905, 8, 9)) (List.mem_of_getElem? (i := 0) rfl) (inR_i (by omega) (by omega) (by omega) (by omega)))
    have w22 : Xi U2 904 8 = ((Xi S 904 8) + 1) := by rw [eU2]; exact Xi_same (by unfold rg; omega)
    have t17 : AT U2 n c := at_up hT hA eU2 (by omega) (by omega) (by omega) (by omega) (Or.inl rfl)
    have l17 : Xi U2 904 8 ≤ n := by have q := tk_lt hT (by omega) (ha0 (by omega)) (by omega); omega
    refine l_goto rfl rfl ?_
    refine l_return rfl rfl ?_
    have w23 : Xi U2 904 65 = Xi S 904 65 := (show Xi U2 904 65 = Xi S 904 65 from by rw [eU2]; exact Xi_ne (by omega))
    have w24 : 0 ≤ Xi S 904 65 ∧ Xi S 904 65 ≤ 1 := hH.c _ _
    have w25 : 0 ≤ Xi U2 904 8 ∧ Xi U2 904 8 ≤ 5010 := hHU2.c _ _
    exact ⟨hHU2, hFU2, rfl, (by first | exact t17 | exact AT_bad (by omega)), (by omega), (by omega)⟩
def md_mo_placing__2 : List rec := [(904, 905, 8, 9), (904, 905, 65, 66), (904, 905, 66, 67)]
abbrev Q_mo_placing__2 (S : sS) (n : Nat) (c : Nat) : pst := fun r S1 => HI S1 ∧ FR md_mo_placing__2 S S1 ∧ (∃ z : Int, r = some (iv z) ∧ (0 ≤ z ∧ z ≤ 5) ∧ (AT S1 n c) ∧ (Xi S 904 8 ≤ Xi S1 904 8 ∧ (Xi S1 904 8 ≤ n ∨ Xi S1 904 8 = Xi S 904 8)) ∧ (Xi S1 904 65 = 0 → Xi S 904 65 = 0))
set_option maxRecDepth 100000 in
theorem t_mo_placing__2 {S : sS} (hH : HI S) (n : Nat) (c : Nat) (hT : TK S n) (hA : AT S n c) (d : Nat) : Mt lay0 (d + 3) m_mo_placing [.ref 904] S (Q_mo_placing__2 S n c) := by
  refine Mt_R rfl rfl ?_
  have hF : FR md_mo_placing__2 S S := FR.rf
  have w1 : 0 ≤ Xi S 904 65 ∧ Xi S 904 65 ≤ 1 := hH.c _ _
  have w2 : 0 ≤ Xi S 904 8 ∧ Xi S 904 8 ≤ 5010 := hH.c _ _
  have hn5 := hT.1
  have hat := hA
  have h8 : 0 ≤ Xi S 904 8 ∧ Xi S 904 8 ≤ 5010 := hH.c _ _
  have h69 : 0 ≤ Xi S 904 69 ∧ Xi S 904 69 ≤ 2600 := hH.c _ _
  have ha0 : Xi S 904 65 = 0 → Xi S 904 8 ≤ n := fun q => (hA q).1
  have ha3 : Xi S 904 65 = 0 → 2 * Xi S 904 69 ≤ Xi S 904 8 + 1 := fun q => (hA q).2.1
  clear hat
  have C60 : ∀  (v2 : Int), (0 ≤ v2 ∧ v2 ≤ 5) → (v2 ≠ 0 → Xi S 904 65 = 0 ∧ Xi S 907 (Xi S 904 8).toNat ≠ 1) → Rl lay0 (d + 2) m_mo_placing 60 [(0, .ref 904), (2, iv v2)] [] S (Q_mo_placing__2 S n c) := by
    intro v2 w3 w4
    refine l_iload_n rfl rfl ?_
    refine l_if_ne rfl rfl (by unfold rg; omega) (fun w5 => ?_) (fun w6 => ?_)
    · refine l_aload_n rfl rfl ?_
      refine l_dup rfl rfl ?_
      refine l_gfi rfl rfl rfl rfl rfl ?_
      refine l_iconst rfl ?_
      refine l_iadd rfl ?_
      refine l_pfi rfl rfl rfl rfl ?_
      obtain ⟨U1, eU1⟩ : ∃ T : sS, T = uI S 904 8 (Int32.ofInt ((Xi S 904 8) + 1)) := ⟨_, rfl⟩
      rw [← eU1]
      have hHU1 : HI U1 := by rw [eU1]; exact HI_w hH (show 0 ≤ ((Xi S 904 8) + 1) by omega) (show ((Xi S 904 8) + 1) ≤ 5010 by omega)
      have hFU1 : FR md_mo_placing__2 S U1 := by rw [eU1]; exact FR.wI hF (mdf_i (r := (904, 905, 8, 9)) (List.mem_of_getElem? (i := 0) rfl) (inR_i (by omega) (by omega) (by omega) (by omega)))
      have w7 : Xi U1 904 8 = ((Xi S 904 8) + 1) := by rw [eU1]; exact Xi_same (by unfold rg; omega)
      have t77 : AT U1 n c := at_up hT hA eU1 (by omega) (by omega) (by omega) (by omega) (Or.inl rfl)
      have l77 : Xi U1 904 8 ≤ n := by have q := tk_lt hT (by omega) (ha0 (by omega)) (by omega); omega
      have T77 : TK U1 n := TK_FR (FR_e eU1) rfl hT
      refine l_iload_n rfl rfl ?_
      refine l_iconst rfl ?_
      refine l_icmp_le rfl rfl (by unfold rg; omega) (by unfold rg; omega) (fun w8 => ?_) (fun w9 => ?_)
      · refine l_iload_n rfl rfl ?_
        refine l_ireturn rfl rfl ?_
        have w10 : Xi U1 904 65 = Xi S 904 65 := (show Xi U1 904 65 = Xi S 904 65 from by rw [eU1]; exact Xi_ne (by omega))
        have w11 : 0 ≤ Xi S 904 65 ∧ Xi S 904 65 ≤ 1 := hH.c _ _
        have w12 : 0 ≤ Xi U1 904 8 ∧ Xi U1 904 8 ≤ 5010 := hHU1.c _ _
        exact ⟨hHU1, hFU1, _, rfl, ⟨by omega, by omega⟩, (by first | assumption | exact t77 | exact AT_bad (by omega)), (by omega), (by omega)⟩
      · refine l_aload_n rfl rfl ?_
        refine l_iload_n rfl rfl ?_
        refine l_iconst rfl ?_
        refine l_icmp_ne rfl rfl (by unfold rg; omega) (by unfold rg; omega) (fun w13 => ?_) (fun w14 => ?_)
        · refine l_bipush rfl rfl ?_
          have w15 : Xi U1 904 65 = Xi S 904 65 := (show Xi U1 904 65 = Xi S 904 65 from by rw [eU1]; exact Xi_ne (by omega))
          have w16 : 0 ≤ Xi S 904 65 ∧ Xi S 904 65 ≤ 1 := hH.c _ _
          have w17 : 0 ≤ Xi U1 904 8 ∧ Xi U1 904 8 ≤ 5010 := hHU1.c _ _
          refine l_callV rfl rfl rfl (t_mo_take__2 hHU1 n c 110 ⟨by omega, by omega⟩ (by first | exact T77 | exact hT) (by first | assumption | exact (by assumption : AT U1 _ _)) (by first | assumption | omega) _) ?_
          rintro _ T2 ⟨hHT2, w23, rfl, w18, w19, w20, w21⟩
          have hFT2 : FR md_mo_placing__2 S T2 := FR.tr hFU1 w23 rfl
          show Rl _ _ _ _ _ [] _ _
          refine l_iload_n rfl rfl ?_
          refine l_ireturn rfl rfl ?_
          have w24 : 0 ≤ Xi T2 904 65 ∧ Xi T2 904 65 ≤ 1 := hHT2.c _ _
          have w25 : 0 ≤ Xi T2 904 8 ∧ Xi T2 904 8 ≤ 5010 := hHT2.c _ _
          exact ⟨hHT2, hFT2, _, rfl, ⟨by omega, by omega⟩, (by first | assumption | exact t77 | exact AT_bad (by omega)), (by omega), (by omega)⟩
        · refine l_bipush rfl rfl ?_
          refine l_goto rfl rfl ?_
          have w26 : Xi U1 904 65 = Xi S 904 65 := (show Xi U1 904 65 = Xi S 904 65 from by rw [eU1]; exact Xi_ne (by omega))
          have w27 : 0 ≤ Xi S 904 65 ∧ Xi S 904 65 ≤ 1 := hH.c _ _
          have w28 : 0 ≤ Xi U1 904 8 ∧ Xi U1 904 8 ≤ 5010 := hHU1.c _ _
          refine l_callV rfl rfl rfl (t_mo_take__2 hHU1 n c 107 ⟨by omega, by omega⟩ (by first | exact T77 | exact hT) (by first | assumption | exact (by assumption : AT U1 _ _)) (by first | assumption | omega) _) ?_
          rintro _ T3 ⟨hHT3, w34, rfl, w29, w30, w31, w32⟩
          have hFT3 : FR md_mo_placing__2 S T3 := FR.tr hFU1 w34 rfl
          show Rl _ _ _ _ _ [] _ _
          refine l_iload_n rfl rfl ?_
          refine l_ireturn rfl rfl ?_
          have w35 : 0 ≤ Xi T3 904 65 ∧ Xi T3 904 65 ≤ 1 := hHT3.c _ _
          have w36 : 0 ≤ Xi T3 904 8 ∧ Xi T3 904 8 ≤ 5010 := hHT3.c _ _
          exact ⟨hHT3, hFT3, _, rfl, ⟨by omega, by omega⟩, (by first | assumption | exact t77 | exact AT_bad (by omega)), (by omega), (by omega)⟩
    · refine l_aload_n rfl rfl ?_
      have w37 : 0 ≤ Xi S 904 65 ∧ Xi S 904 65 ≤ 1 := hH.c _ _
      have w38 : 0 ≤ Xi S 904 8 ∧ Xi S 904 8 ≤ 5010 := hH.c _ _
      refine l_callV rfl rfl rfl (t_mo_odd hH _) ?_
      rintro _ T4 ⟨hHT4, w42, rfl, w39, w40⟩
      have hFT4 : FR md_mo_placing__2 S T4 := FR.tr hF w42 rfl
      show Rl _ _ _ _ _ [] _ _
      refine l_iconst rfl ?_
      refine l_ireturn rfl rfl ?_
      have w43 : 0 ≤ Xi T4 904 65 ∧ Xi T4 904 65 ≤ 1 := hHT4.c _ _
      have w44 : Xi T4 904 8 = Xi S 904 8 := (show Xi T4 904 8 = Xi S 904 8 from w42.x _ _ rfl)
      have w45 : 0 ≤ Xi S 904 8 ∧ Xi S 904 8 ≤ 5010 := hH.c _ _
      exact ⟨hHT4, hFT4, _, rfl, ⟨by omega, by omega⟩, (by first | assumption | exact t77 | exact AT_bad (by omega)), (by omega), (by omega)⟩
  refine l_aload_n rfl rfl ?_
  have w46 : 0 ≤ Xi S 904 65 ∧ Xi S 904 65 ≤ 1 := hH.c _ _
  have w47 : 0 ≤ Xi S 904 8 ∧ Xi S 904 8 ≤ 5010 := hH.c _ _
  refine l_callV rfl rfl rfl (t_mo_look hH n c (by first | exact T77 | exact hT) (by first | assumption | exact (by assumption : AT S _ _)) _) ?_
  rintro _ _ ⟨rfl, z49, rfl, w49, w48⟩
  show Rl _ _ _ _ _ [iv z49] _ _
  refine l_istore_n rfl rfl rfl ?_
  refine l_iload_n rfl rfl ?_
  refine l_bipush rfl rfl ?_
  refine l_icmp_ne rfl rfl (by unfold rg; omega) (by unfold rg; omega) (fun w50 => ?_) (fun w51 => ?_)
  · refine l_iload_n rfl rfl ?_
    refine l_bipush rfl rfl ?_
    refine l_icmp_ne rfl rfl (by unfold rg; omega) (by unfold rg; omega) (fun w52 => ?_) (fun w53 => ?_)
    · refine l_iload_n rfl rfl ?_
      refine l_sipush rfl rfl ?_
      refine l_icmp_ne rfl rfl (by unfold rg; omega) (by unfold rg; omega) (fun w54 => ?_) (fun w55 => ?_)
      · refine l_iload_n rfl rfl ?_
        refine l_sipush rfl rfl ?_
        refine l_icmp_ne rfl rfl (by unfold rg; omega) (by unfold rg; omega) (fun w56 => ?_) (fun w57 => ?_)
        · refine l_iload_n rfl rfl ?_
          refine l_sipush rfl rfl ?_
          refine l_icmp_ne rfl rfl (by unfold rg; omega) (by unfold rg; omega) (fun w58 => ?_) (fun w59 => ?_)
          · refine l_iconst rfl ?_
            refine l_istore_n rfl rfl rfl ?_
            have w60 : 0 ≤ Xi S 904 65 ∧ Xi S 904 65 ≤ 1 := hH.c _ _
            have w61 : 0 ≤ Xi S 904 8 ∧ Xi S 904 8 ≤ 5010 := hH.c _ _
            exact Rl_weak (C60 (0) (by omega) (by omega)) (And.intro rfl (And.intro rfl (True.intro)))
          · refine l_iconst rfl ?_
            refine l_goto rfl rfl ?_
            refine l_istore_n rfl rfl rfl ?_
            have w62 : 0 ≤ Xi S 904 65 ∧ Xi S 904 65 ≤ 1 := hH.c _ _
            have w63 : 0 ≤ Xi S 904 8 ∧ Xi S 904 8 ≤ 5010 := hH.c _ _
            exact Rl_weak (C60 (5) (by omega) (by omega)) (And.intro rfl (And.intro rfl (True.intro)))
        · refine l_iconst rfl ?_
          refine l_goto rfl rfl ?_
          refine l_istore_n rfl rfl rfl ?_
          have w64 : 0 ≤ Xi S 904 65 ∧ Xi S 904 65 ≤ 1 := hH.c _ _
          have w65 : 0 ≤ Xi S 904 8 ∧ Xi S 904 8 ≤ 5010 := hH.c _ _
          exact Rl_weak (C60 (4) (by omega) (by omega)) (And.intro rfl (And.intro rfl (True.intro)))
      · refine l_iconst rfl ?_
        refine l_goto rfl rfl ?_
        refine l_istore_n rfl rfl rfl ?_
        have w66 : 0 ≤ Xi S 904 65 ∧ Xi S 904 65 ≤ 1 := hH.c _ _
        have w67 : 0 ≤ Xi S 904 8 ∧ Xi S 904 8 ≤ 5010 := hH.c _ _
        exact Rl_weak (C60 (3) (by omega) (by omega)) (And.intro rfl (And.intro rfl (True.intro)))
    · refine l_iconst rfl ?_
      refine l_goto rfl rfl ?_
      refine l_istore_n rfl rfl rfl ?_
      have w68 : 0 ≤ Xi S 904 65 ∧ Xi S 904 65 ≤ 1 := hH.c _ _
      have w69 : 0 ≤ Xi S 904 8 ∧ Xi S 904 8 ≤ 5010 := hH.c _ _
      exact Rl_weak (C60 (2) (by omega) (by omega)) (And.intro rfl (And.intro rfl (True.intro)))
  · refine l_iconst rfl ?_
    refine l_goto rfl rfl ?_
    refine l_istore_n rfl rfl rfl ?_
    have w70 : 0 ≤ Xi S 904 65 ∧ Xi S 904 65 ≤ 1 := hH.c _ _
    have w71 : 0 ≤ Xi S 904 8 ∧ Xi S 904 8 ≤ 5010 := hH.c _ _
    exact Rl_weak (C60 (1) (by omega) (by omega)) (And.intro rfl (And.intro rfl (True.intro)))
def md_mo_be__2 : List rec := [(904, 905, 8, 9), (904, 905, 65, 66), (904, 905, 66, 67), (904, 905, 77, 78)]
abbrev Q_mo_be__2 (S : sS) (n : Nat) (c : Nat) : pst := fun r S1 => HI S1 ∧ FR md_mo_be__2 S S1 ∧ (r = none ∧ (AT S1 n c) ∧ (Xi S 904 8 ≤ Xi S1 904 8 ∧ (Xi S1 904 8 ≤ n ∨ Xi S1 904 8 = Xi S 904 8)) ∧ (Xi S1 904 65 = 0 → Xi S 904 65 = 0))
set_option maxRecDepth 100000 in
theorem t_mo_be__2 {S : sS} (hH : HI S) (n : Nat) (c : Nat) (hT : TK S n) (hA : AT S n c) (d : Nat) : Mt lay0 (d + 2) m_mo_be [.ref 904] S (Q_mo_be__2 S n c) := by
  refine Mt_R rfl rfl ?_
  have hF : FR md_mo_be__2 S S := FR.rf
  have w1 : 0 ≤ Xi S 904 65 ∧ Xi S 904 65 ≤ 1 := hH.c _ _
  have w2 : 0 ≤ Xi S 904 8 ∧ Xi S 904 8 ≤ 5010 := hH.c _ _
  have hn5 := hT.1
  have hat := hA
  have h8 : 0 ≤ Xi S 904 8 ∧ Xi S 904 8 ≤ 5010 := hH.c _ _
  have h69 : 0 ≤ Xi S 904 69 ∧ Xi S 904 69 ≤ 2600 := hH.c _ _
  have ha0 : Xi S 904 65 = 0 → Xi S 904 8 ≤ n := fun q => (hA q).1
  have ha3 : Xi S 904 65 = 0 → 2 * Xi S 904 69 ≤ Xi S 904 8 + 1 := fun q => (hA q).2.1
  clear hat
  refine l_aload_n rfl rfl ?_
  refine l_bipush rfl rfl ?_
  have w3 : 0 ≤ Xi S 904 65 ∧ Xi S 904 65 ≤ 1 := hH.c _ _
  have w4 : 0 ≤ Xi S 904 8 ∧ Xi S 904 8 ≤ 5010 := hH.c _ _
  refine l_callV rfl rfl rfl (t_mo_isNext hH n c 104 ⟨by omega, by omega⟩ (by first | assumption | exact (TK_FR hF rfl (by assumption : TK S _))) (by first | assumption | exact (by assumption : AT S _ _)) _) ?_
  rintro _ _ ⟨rfl, z7, rfl, w7, w5, w6⟩
  show Rl _ _ _ _ _ [iv z7] _ _
  refine l_if_ne rfl rfl (by unfold rg; omega) (fun w8 => ?_) (fun w9 => ?_)
  · refine l_aload_n rfl rfl ?_
    refine l_aload_n rfl rfl ?_
    refine l_bipush rfl rfl ?_
    have w10 : 0 ≤ Xi S 904 65 ∧ Xi S 904 65 ≤ 1 := hH.c _ _
    have w11 : 0 ≤ Xi S 904 8 ∧ Xi S 904 8 ≤ 5010 := hH.c _ _
    refine l_callV rfl rfl rfl (t_mo_isNext hH n c 105 ⟨by omega, by omega⟩ (by first | assumption | exact (TK_FR hF rfl (by assumption : TK S _))) (by first | assumption | exact (by assumption : AT S _ _)) _) ?_
    rintro _ _ ⟨rfl, z14, rfl, w14, w12, w13⟩
    show Rl _ _ _ _ _ [iv z14, .ref 904] _ _
    refine l_pfz rfl rfl rfl rfl (by omega) ?_
    obtain ⟨U1, eU1⟩ : ∃ T : sS, T = uI S 904 77 (Int32.ofInt z14) := ⟨_, rfl⟩
    rw [← eU1]
    have hHU1 : HI U1 := by rw [eU1]; exact HI_w hH (show 0 ≤ z14 by omega) (show z14 ≤ 1 by omega)
    have hFU1 : FR md_mo_be__2 S U1 := by rw [eU1]; exact FR.wI hF (mdf_i (r := (904, 905, 77, 78)) (List.mem_of_getElem? (i := 3) rfl) (inR_i (by omega) (by omega) (by omega) (by omega)))
    have w15 : Xi U1 904 77 = z14 := by rw [eU1]; exact Xi_same (by unfold rg; omega)
    have s25 : Xi U1 904 8 = Xi S 904 8 ∧ Xi U1 904 65 = Xi S 904 65 := ⟨by rw [eU1, Xi_ne (by omega)], by rw [eU1, Xi_ne (by omega)]⟩
    refine l_aload_n rfl rfl ?_
    refine l_dup rfl rfl ?_
    refine l_gfi rfl rfl rfl rfl rfl ?_
    have w16 : (Xi U1 904 8) = (Xi S 904 8) := (show Xi U1 904 8 = Xi S 904 8 from by rw [eU1]; exact Xi_ne (by omega))
    rw [w16]
    refine l_iconst rfl ?_
    refine l_iadd rfl ?_
    refine l_pfi rfl rfl rfl rfl ?_
    obtain ⟨U2, eU2⟩ : ∃ T : sS, T = uI U1 904 8 (Int32.ofInt ((Xi S 904 8) + 1)) := ⟨_, rfl⟩
    rw [← eU2]
    have hHU2 : HI U2 := by rw [eU2]; exact HI_w hHU1 (show 0 ≤ ((Xi S 904 8) + 1) by omega) (show ((Xi S 904 8) + 1) ≤ 5010 by omega)
    have hFU2 : FR md_mo_be__2 S U2 := by rw [eU2]; exact FR.wI hFU1 (mdf_i (r := (904, 905, 8, 9)) (List.mem_of_getElem? (i := 0) rfl) (inR_i (by omega) (by omega) (by omega) (by omega)))
    have w17 : Xi U2 904 8 = ((Xi S 904 8) + 1) := by rw [eU2]; exact Xi_same (by unfold rg; omega)
    have T35 : TK U1 n := TK_FR hFU1 rfl hT
    have A35 : AT U1 n c := AT_FR (FR_e eU1) rfl hA
    have t35 : AT U2 n c := at_up T35 A35 eU2 (by omega) (by omega) (by omega) (by rw [show Xi U1 904 8 = Xi S 904 8 by omega, (hFU1.cx 907 rfl _).1]; omega) (Or.inl rfl)
    have l35 : Xi U2 904 8 ≤ n := by have q := tk_lt T35 (by omega) (A35 (by omega)).1 (by rw [show Xi U1 904 8 = Xi S 904 8 by omega, (hFU1.cx 907 rfl _).1]; omega); omega
    refine l_goto rfl rfl ?_
    refine l_return rfl rfl ?_
    have w18 : Xi U2 904 65 = Xi S 904 65 := (show Xi U2 904 65 = Xi U1 904 65 from by rw [eU2]; exact Xi_ne (by omega)).trans ((show Xi U1 904 65 = Xi S 904 65 from by rw [eU1]; exact Xi_ne (by omega)))
    have w19 : 0 ≤ Xi S 904 65 ∧ Xi S 904 65 ≤ 1 := hH.c _ _
    have w20 : 0 ≤ Xi U2 904 8 ∧ Xi U2 904 8 ≤ 5010 := hHU2.c _ _
    exact ⟨hHU2, hFU2, rfl, (by first | exact t35 | exact AT_bad (by omega)), (by omega), (by omega)⟩
  · refine l_aload_n rfl rfl ?_
    refine l_bipush rfl rfl ?_
    have w21 : 0 ≤ Xi S 904 65 ∧ Xi S 904 65 ≤ 1 := hH.c _ _
    have w22 : 0 ≤ Xi S 904 8 ∧ Xi S 904 8 ≤ 5010 := hH.c _ _
    refine l_callV rfl rfl rfl (t_mo_isNext hH n c 105 ⟨by omega, by omega⟩ (by first | assumption | exact (TK_FR hF rfl (by assumption : TK S _))) (by first | assumption | exact (by assumption : AT S _ _)) _) ?_
    rintro _ _ ⟨rfl, z25, rfl, w25, w23, w24⟩
    show Rl _ _ _ _ _ [iv z25] _ _
    refine l_if_eq rfl rfl (by unfold rg; omega) (fun w26 => ?_) (fun w27 => ?_)
    · refine l_aload_n rfl rfl ?_
      have w28 : 0 ≤ Xi S 904 65 ∧ Xi S 904 65 ≤ 1 := hH.c _ _
      have w29 : 0 ≤ Xi S 904 8 ∧ Xi S 904 8 ≤ 5010 := hH.c _ _
      refine l_callV rfl rfl rfl (t_mo_odd hH _) ?_
      rintro _ T3 ⟨hHT3, w33, rfl, w30, w31⟩
      have hFT3 : FR md_mo_be__2 S T3 := FR.tr hF w33 rfl
      show Rl _ _ _ _ _ [] _ _
      refine l_return rfl rfl ?_
      have w34 : 0 ≤ Xi T3 904 65 ∧ Xi T3 904 65 ≤ 1 := hHT3.c _ _
      have w35 : Xi T3 904 8 = Xi S 904 8 := (show Xi T3 904 8 = Xi S 904 8 from w33.x _ _ rfl)
      have w36 : 0 ≤ Xi S 904 8 ∧ Xi S 904 8 ≤ 5010 := hH.c _ _
      exact ⟨hHT3, hFT3, rfl, (by first | exact t35 | exact AT_bad (by omega)), (by omega), (by omega)⟩
    · refine l_aload_n rfl rfl ?_
      refine l_aload_n rfl rfl ?_
      refine l_bipush rfl rfl ?_
      have w37 : 0 ≤ Xi S 904 65 ∧ Xi S 904 65 ≤ 1 := hH.c _ _
      have w38 : 0 ≤ Xi S 904 8 ∧ Xi S 904 8 ≤ 5010 := hH.c _ _
      refine l_callV rfl rfl rfl (t_mo_isNext hH n c 105 ⟨by omega, by omega⟩ (by first | assumption | exact (TK_FR hF rfl (by assumption : TK S _))) (by first | assumption | exact (by assumption : AT S _ _)) _) ?_
      rintro _ _ ⟨rfl, z41, rfl, w41, w39, w40⟩
      show Rl _ _ _ _ _ [iv z41, .ref 904] _ _
      refine l_pfz rfl rfl rfl rfl (by omega) ?_
      obtain ⟨U4, eU4⟩ : ∃ T : sS, T = uI S 904 77 (Int32.ofInt z41) := ⟨_, rfl⟩
      rw [← eU4]
      have hHU4 : HI U4 := by rw [eU4]; exact HI_w hH (show 0 ≤ z41 by omega) (show z41 ≤ 1 by omega)
      have hFU4 : FR md_mo_be__2 S U4 := by rw [eU4]; exact FR.wI hF (mdf_i (r := (904, 905, 77, 78)) (List.mem_of_getElem? (i := 3) rfl) (inR_i (by omega) (by omega) (by omega) (by omega)))
      have w42 : Xi U4 904 77 = z41 := by rw [eU4]; exact Xi_same (by unfold rg; omega)
      have s25 : Xi U4 904 8 = Xi S 904 8 ∧ Xi U4 904 65 = Xi S 904 65 := ⟨by rw [eU4, Xi_ne (by omega)], by rw [eU4, Xi_ne (by omega)]⟩
      refine l_aload_n rfl rfl ?_
      refine l_dup rfl rfl ?_
      refine l_gfi rfl rfl rfl rfl rfl ?_
      have w43 : (Xi U4 904 8) = (Xi S 904 8) := (show Xi U4 904 8 = Xi S 904 8 from by rw [eU4]; exact Xi_ne (by omega))
      rw [w43]
      refine l_iconst rfl ?_
      refine l_iadd rfl ?_
      refine l_pfi rfl rfl rfl rfl ?_
      obtain ⟨U5, eU5⟩ : ∃ T : sS, T = uI U4 904 8 (Int32.ofInt ((Xi S 904 8) + 1)) := ⟨_, rfl⟩
      rw [← eU5]
      have hHU5 : HI U5 := by rw [eU5]; exact HI_w hHU4 (show 0 ≤ ((Xi S 904 8) + 1) by omega) (show ((Xi S 904 8) + 1) ≤ 5010 by omega)
      have hFU5 : FR md_mo_be__2 S U5 := by rw [eU5]; exact FR.wI hFU4 (mdf_i (r := (904, 905, 8, 9)) (List.mem_of_getElem? (i := 0) rfl) (inR_i (by omega) (by omega) (by omega) (by omega)))
      have w44 : Xi U5 904 8 = ((Xi S 904 8) + 1) := by rw [eU5]; exact Xi_same (by unfold rg; omega)
      have T35 : TK U4 n := TK_FR hFU4 rfl hT
      have A35 : AT U4 n c := AT_FR (FR_e eU4) rfl hA
      have t35 : AT U5 n c := at_up T35 A35 eU5 (by omega) (by omega) (by omega) (by rw [show Xi U4 904 8 = Xi S 904 8 by omega, (hFU4.cx 907 rfl _).1]; omega) (Or.inl rfl)
      have l35 : Xi U5 904 8 ≤ n := by have q := tk_lt T35 (by omega) (A35 (by omega)).1 (by rw [show Xi U4 904 8 = Xi S 904 8 by omega, (hFU4.cx 907 rfl _).1]; omega); omega
      refine l_goto rfl rfl ?_
      refine l_return rfl rfl ?_
      have w45 : Xi U5 904 65 = Xi S 904 65 := (show Xi U5 904 65 = Xi U4 904 65 from by rw [eU5]; exact Xi_ne (by omega)).trans ((show Xi U4 904 65 = Xi S 904 65 from by rw [eU4]; exact Xi_ne (by omega)))
      have w46 : 0 ≤ Xi S 904 65 ∧ Xi S 904 65 ≤ 1 := hH.c _ _
      have w47 : 0 ≤ Xi U5 904 8 ∧ Xi U5 904 8 ≤ 5010 := hHU5.c _ _
      exact ⟨hHU5, hFU5, rfl, (by first | exact t35 | exact AT_bad (by omega)), (by omega), (by omega)⟩
def md_mo_what__2 : List rec := [(904, 905, 8, 9), (904, 905, 65, 66), (904, 905, 66, 67), (904, 905, 69, 70), (904, 905, 78, 79), (950, 951, 0, 100000), (951, 952, 0, 100000)]
abbrev Q_mo_what__2 (S : sS) (n : Nat) (c : Nat) : pst := fun r S1 => HI S1 ∧ FR md_mo_what__2 S S1 ∧ (r = none ∧ (AT S1 n c) ∧ (Xi S 904 8 ≤ Xi S1 904 8 ∧ (Xi S1 904 8 ≤ n ∨ Xi S1 904 8 = Xi S 904 8)) ∧ (RNV S1 n) ∧ (Xi S1 904 78 = Xi S 904 8) ∧ (Xi S1 904 65 = 0 → Xi S 904 65 = 0) ∧ (Xi S 904 69 ≤ Xi S1 904 69) ∧ (Xi S1 904 65 = 0 → Xi S 907 (Xi S 904 8).toNat ≠ 4 → Xi S 907 (Xi S 904 8).toNat ≠ 5 → Xi S 904 69 < Xi S1 904 69))
set_option maxRecDepth 100000 in
theorem t_mo_what__2 {S : sS} (hH : HI S) (n : Nat) (c : Nat) (hT : TK S n) (hA : AT S n c) (hv : RNV S n) (d : Nat) : Mt lay0 (d + 3) m_mo_what [.ref 904] S (Q_mo_what__2 S n c) := by
  refine Mt_R rfl rfl ?_
  have hF : FR md_mo_what__2 S S := FR.rf
  have w1 : 0 ≤ Xi S 904 65 ∧ Xi S 904 65 ≤ 1 := hH.c _ _
  have w2 : 0 ≤ Xi S 904 69 ∧ Xi S 904 69 ≤ 2600 := hH.c _ _
  have w3 : 0 ≤ Xi S 904 8 ∧ Xi S 904 8 ≤ 5010 := hH.c _ _
  have hn5 := hT.1
  have hat := hA
  have h8 : 0 ≤ Xi S 904 8 ∧ Xi S 904 8 ≤ 5010 := hH.c _ _
  have h69 : 0 ≤ Xi S 904 69 ∧ Xi S 904 69 ≤ 2600 := hH.c _ _
  have ha0 : Xi S 904 65 = 0 → Xi S 904 8 ≤ n := fun q => (hA q).1
  have ha3 : Xi S 904 65 = 0 → 2 * Xi S 904 69 ≤ Xi S 904 8 + 1 := fun q => (hA q).2.1
  clear hat
  refine l_aload_n rfl rfl ?_
  refine l_aload_n rfl rfl ?_
  refine l_gfi rfl rfl rfl rfl rfl ?_
  refine l_pfi rfl rfl rfl rfl ?_
  obtain ⟨U1, eU1⟩ : ∃ T : sS, T = uI S 904 78 (Int32.ofInt (Xi S 904 8)) := ⟨_, rfl⟩
  rw [← eU1]
  have hHU1 : HI U1 := by rw [eU1]; exact HI_w hH (show -2 ≤ (Xi S 904 8) by omega) (show (Xi S 904 8) ≤ 5010 by omega)
  have hFU1 : FR md_mo_what__2 S U1 := by rw [eU1]; exact FR.wI hF (mdf_i (r := (904, 905, 78, 79)) (List.mem_of_getElem? (i := 4) rfl) (inR_i (by omega) (by omega) (by omega) (by omega)))
  have w4 : Xi U1 904 78 = (Xi S 904 8) := by rw [eU1]; exact Xi_same (by unfold rg; omega)
  have s5 : Xi U1 904 8 = Xi S 904 8 ∧ Xi U1 904 65 = Xi S 904 65 := ⟨by rw [eU1, Xi_ne (by omega)], by rw [eU1, Xi_ne (by omega)]⟩
  refine l_aload_n rfl rfl ?_
  have w5 : Xi U1 904 65 = Xi S 904 65 := (show Xi U1 904 65 = Xi S 904 65 from by rw [eU1]; exact Xi_ne (by omega))
  have w6 : 0 ≤ Xi S 904 65 ∧ Xi S 904 65 ≤ 1 := hH.c _ _
  have w7 : Xi U1 904 69 = Xi S 904 69 := (show Xi U1 904 69 = Xi S 904 69 from by rw [eU1]; exact Xi_ne (by omega))
  have w8 : 0 ≤ Xi S 904 69 ∧ Xi S 904 69 ≤ 2600 := hH.c _ _
  have w9 : -2 ≤ Xi U1 904 78 ∧ Xi U1 904 78 ≤ 5010 := hHU1.c _ _
  have w10 : Xi U1 904 8 = Xi S 904 8 := (show Xi U1 904 8 = Xi S 904 8 from by rw [eU1]; exact Xi_ne (by omega))
  have w11 : 0 ≤ Xi S 904 8 ∧ Xi S 904 8 ≤ 5010 := hH.c _ _
  refine l_callV rfl rfl rfl (t_mo_look hHU1 n c (by first | assumption | exact (TK_FR hFU1 rfl (by assumption : TK S _))) (by first | assumption | exact (AT_FR (FR_e eU1) rfl (by assumption : AT S _ _))) _) ?_
  rintro _ _ ⟨rfl, z13, rfl, w13, w12⟩
  show Rl _ _ _ _ _ [iv z13] _ _
  have l9 : z13 ≠ 1 → Xi S 904 65 = 0 ∧ Xi S 907 (Xi S 904 8).toNat = z13 := fun q => by have t := (by assumption : z13 ≠ 1 → Xi U1 904 65 = 0 ∧ Xi U1 907 (Xi U1 904 8).toNat = z13) q; rw [show Xi U1 904 8 = Xi S 904 8 by omega, (hFU1.cx 907 rfl _).1] at t; exact ⟨by omega, t.2⟩
  refine l_istore_n rfl rfl rfl ?_
  refine l_iload_n rfl rfl ?_
  refine l_iconst rfl ?_
  refine l_icmp_eq rfl rfl (by unfold rg; omega) (by unfold rg; omega) (fun w14 => ?_) (fun w15 => ?_)
  · refine l_aload_n rfl rfl ?_
    refine l_dup rfl rfl ?_
    refine l_gfi rfl rfl rfl rfl rfl ?_
    have w16 : (Xi U1 904 8) = (Xi S 904 8) := (show Xi U1 904 8 = Xi S 904 8 from by rw [eU1]; exact Xi_ne (by omega))
    rw [w16]
    refine l_iconst rfl ?_
    refine l_iadd rfl ?_
    refine l_pfi rfl rfl rfl rfl ?_
    obtain ⟨U2, eU2⟩ : ∃ T : sS, T = uI U1 904 8 (Int32.ofInt ((Xi S 904 8) + 1)) := ⟨_, rfl⟩
    rw [← eU2]
    have hHU2 : HI U2 := by rw [eU2]; exact HI_w hHU1 (show 0 ≤ ((Xi S 904 8) + 1) by omega) (show ((Xi S 904 8) + 1) ≤ 5010 by omega)
    have hFU2 : FR md_mo_what__2 S U2 := by rw [eU2]; exact FR.wI hFU1 (mdf_i (r := (904, 905, 8, 9)) (List.mem_of_getElem? (i := 0) rfl) (inR_i (by omega) (by omega) (by omega) (by omega)))
    have w17 : Xi U2 904 8 = ((Xi S 904 8) + 1) := by rw [eU2]; exact Xi_same (by unfold rg; omega)
    have T30 : TK U1 n := TK_FR hFU1 rfl hT
    have A30 : AT U1 n c := AT_FR (FR_e eU1) rfl hA
    have t30 : AT U2 n c := at_up T30 A30 eU2 (by omega) (by omega) (by omega) (by omega) (Or.inl rfl)
    have l30 : Xi U2 904 8 ≤ n := by have q := tk_lt T30 (by omega) (A30 (by omega)).1 (by omega); omega
    have V30 : RNV U2 n := RNV_FR (FR_e eU2) rfl (RNV_FR (FR_e eU1) rfl hv)
    refine l_goto rfl rfl ?_
    refine l_return rfl rfl ?_
    have w18 : Xi U2 904 65 = Xi S 904 65 := (show Xi U2 904 65 = Xi U1 904 65 from by rw [eU2]; exact Xi_ne (by omega)).trans ((show Xi U1 904 65 = Xi S 904 65 from by rw [eU1]; exact Xi_ne (by omega)))
    have w19 : 0 ≤ Xi S 904 65 ∧ Xi S 904 65 ≤ 1 := hH.c _ _
    have w20 : Xi U2 904 69 = Xi S 904 69 := (show Xi U2 904 69 = Xi U1 904 69 from by rw [eU2]; exact Xi_ne (by omega)).trans ((show Xi U1 904 69 = Xi S 904 69 from by rw [eU1]; exact Xi_ne (by omega)))
    have w21 : 0 ≤ Xi S 904 69 ∧ Xi S 904 69 ≤ 2600 := hH.c _ _
    have w22 : Xi U2 904 78 = Xi U1 904 78 := (show Xi U2 904 78 = Xi U1 904 78 from by rw [eU2]; exact Xi_ne (by omega))
    have w23 : -2 ≤ Xi U1 904 78 ∧ Xi U1 904 78 ≤ 5010 := hHU1.c _ _
    have w24 : 0 ≤ Xi U2 904 8 ∧ Xi U2 904 8 ≤ 5010 := hHU2.c _ _
    exact ⟨hHU2, hFU2, rfl, (by first | exact t30 | assumption), (by omega), (by first | exact V30 | assumption), (by omega), (by omega), (by omega), (by omega)⟩
  · refine l_iload_n rfl rfl ?_
    refine l_iconst rfl ?_
    refine l_icmp_ne rfl rfl (by unfold rg; omega) (by unfold rg; omega) (fun w25 => ?_) (fun w26 => ?_)
    · refine l_aload_n rfl rfl ?_
      have w27 : Xi U1 904 65 = Xi S 904 65 := (show Xi U1 904 65 = Xi S 904 65 from by rw [eU1]; exact Xi_ne (by omega))
      have w28 : 0 ≤ Xi S 904 65 ∧ Xi S 904 65 ≤ 1 := hH.c _ _
      have w29 : Xi U1 904 69 = Xi S 904 69 := (show Xi U1 904 69 = Xi S 904 69 from by rw [eU1]; exact Xi_ne (by omega))
      have w30 : 0 ≤ Xi S 904 69 ∧ Xi S 904 69 ≤ 2600 := hH.c _ _
      have w31 : -2 ≤ Xi U1 904 78 ∧ Xi U1 904 78 ≤ 5010 := hHU1.c _ _
      have w32 : Xi U1 904 8 = Xi S 904 8 := (show Xi U1 904 8 = Xi S 904 8 from by rw [eU1]; exact Xi_ne (by omega))
      have w33 : 0 ≤ Xi S 904 8 ∧ Xi S 904 8 ≤ 5010 := hH.c _ _
      refine l_callV rfl rfl rfl (t_mo_run hHU1 n c (by first | assumption | exact (TK_FR hFU1 rfl (by assumption : TK S _))) (by first | assumption | exact (AT_FR (FR_e eU1) rfl (by assumption : AT S _ _))) (by first | assumption | exact (RNV_FR (FR_e eU1) rfl (by assumption : RNV S _))) _) ?_
      rintro _ T3 ⟨hHT3, w40, z39, rfl, w39, w34, w35, w36, w37, w38⟩
      have hFT3 : FR md_mo_what__2 S T3 := FR.tr hFU1 w40 rfl
      show Rl _ _ _ _ _ [iv z39] _ _
      refine l_pop rfl rfl ?_
      refine l_return rfl rfl ?_
      have w41 : 0 ≤ Xi T3 904 65 ∧ Xi T3 904 65 ≤ 1 := hHT3.c _ _
      have w42 : 0 ≤ Xi T3 904 69 ∧ Xi T3 904 69 ≤ 2600 := hHT3.c _ _
      have w43 : Xi T3 904 78 = Xi U1 904 78 := (show Xi T3 904 78 = Xi U1 904 78 from w40.x _ _ rfl)
      have w44 : -2 ≤ Xi U1 904 78 ∧ Xi U1 904 78 ≤ 5010 := hHU1.c _ _
      have w45 : 0 ≤ Xi T3 904 8 ∧ Xi T3 904 8 ≤ 5010 := hHT3.c _ _
      exact ⟨hHT3, hFT3, rfl, (by first | exact t30 | assumption), (by omega), (by first | exact V30 | assumption), (by omega), (by omega), (by omega), (by omega)⟩
    · refine l_aload_n rfl rfl ?_
      refine l_dup rfl rfl ?_
      refine l_gfi rfl rfl rfl rfl rfl ?_
      have w46 : (Xi U1 904 8) = (Xi S 904 8) := (show Xi U1 904 8 = Xi S 904 8 from by rw [eU1]; exact Xi_ne (by omega))
      rw [w46]
      refine l_iconst rfl ?_
      refine l_iadd rfl ?_
      refine l_pfi rfl rfl rfl rfl ?_
      obtain ⟨U4, eU4⟩ : ∃ T : sS, T = uI U1 904 8 (Int32.ofInt ((Xi S 904 8) + 1)) := ⟨_, rfl⟩
      rw [← eU4]
      have hHU4 : HI U4 := by rw [eU4]; exact HI_w hHU1 (show 0 ≤ ((Xi S 904 8) + 1) by omega) (show ((Xi S 904 8) + 1) ≤ 5010 by omega)
      have hFU4 : FR md_mo_what__2 S U4 := by rw [eU4]; exact FR.wI hFU1 (mdf_i (r := (904, 905, 8, 9)) (List.mem_of_getElem? (i := 0) rfl) (inR_i (by omega) (by omega) (by omega) (by omega)))
      have w47 : Xi U4 904 8 = ((Xi S 904 8) + 1) := by rw [eU4]; exact Xi_same (by unfold rg; omega)
      have T30 : TK U1 n := TK_FR hFU1 rfl hT
      have A30 : AT U1 n c := AT_FR (FR_e eU1) rfl hA
      have t30 : AT U4 n c := at_up T30 A30 eU4 (by omega) (by omega) (by omega) (by omega) (Or.inl rfl)
      have l30 : Xi U4 904 8 ≤ n := by have q := tk_lt T30 (by omega) (A30 (by omega)).1 (by omega); omega
      have V30 : RNV U4 n := RNV_FR (FR_e eU4) rfl (RNV_FR (FR_e eU1) rfl hv)
      refine l_goto rfl rfl ?_
      refine l_return rfl rfl ?_
      have w48 : Xi U4 904 65 = Xi S 904 65 := (show Xi U4 904 65 = Xi U1 904 65 from by rw [eU4]; exact Xi_ne (by omega)).trans ((show Xi U1 904 65 = Xi S 904 65 from by rw [eU1]; exact Xi_ne (by omega)))
      have w49 : 0 ≤ Xi S 904 65 ∧ Xi S 904 65 ≤ 1 := hH.c _ _
      have w50 : Xi U4 904 69 = Xi S 904 69 := (show Xi U4 904 69 = Xi U1 904 69 from by rw [eU4]; exact Xi_ne (by omega)).trans ((show Xi U1 904 69 = Xi S 904 69 from by rw [eU1]; exact Xi_ne (by omega)))
      have w51 : 0 ≤ Xi S 904 69 ∧ Xi S 904 69 ≤ 2600 := hH.c _ _
      have w52 : Xi U4 904 78 = Xi U1 904 78 := (show Xi U4 904 78 = Xi U1 904 78 from by rw [eU4]; exact Xi_ne (by omega))
      have w53 : -2 ≤ Xi U1 904 78 ∧ Xi U1 904 78 ≤ 5010 := hHU1.c _ _
      have w54 : 0 ≤ Xi U4 904 8 ∧ Xi U4 904 8 ≤ 5010 := hHU4.c _ _
      exact ⟨hHU4, hFU4, rfl, (by first | exact t30 | assumption), (by omega), (by first | exact V30 | assumption), (by omega), (by omega), (by omega), (by omega)⟩
def md_mo_oneOrVarious__2 : List rec := [(904, 905, 8, 9), (904, 905, 65, 66), (904, 905, 66, 67)]
abbrev Q_mo_oneOrVarious__2 (S : sS) (n : Nat) (c : Nat) : pst := fun r S1 => HI S1 ∧ FR md_mo_oneOrVarious__2 S S1 ∧ (∃ z : Int, r = some (iv z) ∧ (0 ≤ z ∧ z ≤ 1) ∧ (AT S1 n c) ∧ (Xi S1 904 8 = Xi S 904 8 + 1) ∧ (Xi S1 904 65 = 0 → Xi S 904 65 = 0))
set_option maxRecDepth 100000 in
theorem t_mo_oneOrVarious__2 {S : sS} (hH : HI S) (n : Nat) (c : Nat) (hT : TK S n) (hA : AT S n c) (h5 : Xi S 904 8 ≤ 5005) (d : Nat) : Mt lay0 (d + 2) m_mo_oneOrVarious [.ref 904] S (Q_mo_oneOrVarious__2 S n c) := by
  refine Mt_R rfl rfl ?_
  have hF : FR md_mo_oneOrVarious__2 S S := FR.rf
  have w1 : 0 ≤ Xi S 904 65 ∧ Xi S 904 65 ≤ 1 := hH.c _ _
  have w2 : 0 ≤ Xi S 904 8 ∧ Xi S 904 8 ≤ 5010 := hH.c _ _
  have hn5 := hT.1
  have hat := hA
  have h8 : 0 ≤ Xi S 904 8 ∧ Xi S 904 8 ≤ 5010 := hH.c _ _
  have h69 : 0 ≤ Xi S 904 69 ∧ Xi S 904 69 ≤ 2600 := hH.c _ _
  have ha0 : Xi S 904 65 = 0 → Xi S 904 8 ≤ n := fun q => (hA q).1
  have ha3 : Xi S 904 65 = 0 → 2 * Xi S 904 69 ≤ Xi S 904 8 + 1 := fun q => (hA q).2.1
  clear hat
  refine l_aload_n rfl rfl ?_
  refine l_bipush rfl rfl ?_
  have w3 : 0 ≤ Xi S 904 65 ∧ Xi S 904 65 ≤ 1 := hH.c _ _
  have w4 : 0 ≤ Xi S 904 8 ∧ Xi S 904 8 ≤ 5010 := hH.c _ _
  refine l_callV rfl rfl rfl (t_mo_isNext hH n c 122 ⟨by omega, by omega⟩ (by first | assumption | exact (TK_FR hF rfl (by assumption : TK S _))) (by first | assumption | exact (by assumption : AT S _ _)) _) ?_
  rintro _ _ ⟨rfl, z7, rfl, w7, w5, w6⟩
  show Rl _ _ _ _ _ [iv z7] _ _
  refine l_istore_n rfl rfl rfl ?_
  refine l_iload_n rfl rfl ?_
  refine l_if_ne rfl rfl (by unfold rg; omega) (fun w8 => ?_) (fun w9 => ?_)
  · refine l_aload_n rfl rfl ?_
    refine l_dup rfl rfl ?_
    refine l_gfi rfl rfl rfl rfl rfl ?_
    refine l_iconst rfl ?_
    refine l_iadd rfl ?_
    refine l_pfi rfl rfl rfl rfl ?_
    obtain ⟨U1, eU1⟩ : ∃ T : sS, T = uI S 904 8 (Int32.ofInt ((Xi S 904 8) + 1)) := ⟨_, rfl⟩
    rw [← eU1]
    have hHU1 : HI U1 := by rw [eU1]; exact HI_w hH (show 0 ≤ ((Xi S 904 8) + 1) by omega) (show ((Xi S 904 8) + 1) ≤ 5010 by omega)
    have hFU1 : FR md_mo_oneOrVarious__2 S U1 := by rw [eU1]; exact FR.wI hF (mdf_i (r := (904, 905, 8, 9)) (List.mem_of_getElem? (i := 0) rfl) (inR_i (by omega) (by omega) (by omega) (by omega)))
    have w10 : Xi U1 904 8 = ((Xi S 904 8) + 1) := by rw [eU1]; exact Xi_same (by unfold rg; omega)
    have t31 : AT U1 n c := by first | exact at_up hT hA eU1 (by omega) (by omega) (by omega) (by omega) (Or.inl rfl) | exact AT_bad (by rw [eU1, Xi_ne (by omega)]; omega)
    refine l_iload_n rfl rfl ?_
    refine l_ireturn rfl (retI_z (by omega)) ?_
    have w11 : Xi U1 904 65 = Xi S 904 65 := (show Xi U1 904 65 = Xi S 904 65 from by rw [eU1]; exact Xi_ne (by omega))
    have w12 : 0 ≤ Xi S 904 65 ∧ Xi S 904 65 ≤ 1 := hH.c _ _
    have w13 : 0 ≤ Xi U1 904 8 ∧ Xi U1 904 8 ≤ 5010 := hHU1.c _ _
    exact ⟨hHU1, hFU1, _, rfl, ⟨by omega, by omega⟩, (t31), (by omega), (by omega)⟩
  · refine l_aload_n rfl rfl ?_
    refine l_bipush rfl rfl ?_
    have w14 : 0 ≤ Xi S 904 65 ∧ Xi S 904 65 ≤ 1 := hH.c _ _
    have w15 : 0 ≤ Xi S 904 8 ∧ Xi S 904 8 ≤ 5010 := hH.c _ _
    refine l_callV rfl rfl rfl (t_mo_isNext hH n c 123 ⟨by omega, by omega⟩ (by first | assumption | exact (TK_FR hF rfl (by assumption : TK S _))) (by first | assumption | exact (by assumption : AT S _ _)) _) ?_
    rintro _ _ ⟨rfl, z18, rfl, w18, w16, w17⟩
    show Rl _ _ _ _ _ [iv z18] _ _
    refine l_if_ne rfl rfl (by unfold rg; omega) (fun w19 => ?_) (fun w20 => ?_)
    · refine l_aload_n rfl rfl ?_
      refine l_dup rfl rfl ?_
      refine l_gfi rfl rfl rfl rfl rfl ?_
      refine l_iconst rfl ?_
      refine l_iadd rfl ?_
      refine l_pfi rfl rfl rfl rfl ?_
      obtain ⟨U2, eU2⟩ : ∃ T : sS, T = uI S 904 8 (Int32.ofInt ((Xi S 904 8) + 1)) := ⟨_, rfl⟩
      rw [← eU2]
      have hHU2 : HI U2 := by rw [eU2]; exact HI_w hH (show 0 ≤ ((Xi S 904 8) + 1) by omega) (show ((Xi S 904 8) + 1) ≤ 5010 by omega)
      have hFU2 : FR md_mo_oneOrVarious__2 S U2 := by rw [eU2]; exact FR.wI hF (mdf_i (r := (904, 905, 8, 9)) (List.mem_of_getElem? (i := 0) rfl) (inR_i (by omega) (by omega) (by omega) (by omega)))
      have w21 : Xi U2 904 8 = ((Xi S 904 8) + 1) := by rw [eU2]; exact Xi_same (by unfold rg; omega)
      have t31 : AT U2 n c := by first | exact at_up hT hA eU2 (by omega) (by omega) (by omega) (by omega) (Or.inl rfl) | exact AT_bad (by rw [eU2, Xi_ne (by omega)]; omega)
      refine l_iload_n rfl rfl ?_
      refine l_ireturn rfl (retI_z (by omega)) ?_
      have w22 : Xi U2 904 65 = Xi S 904 65 := (show Xi U2 904 65 = Xi S 904 65 from by rw [eU2]; exact Xi_ne (by omega))
      have w23 : 0 ≤ Xi S 904 65 ∧ Xi S 904 65 ≤ 1 := hH.c _ _
      have w24 : 0 ≤ Xi U2 904 8 ∧ Xi U2 904 8 ≤ 5010 := hHU2.c _ _
      exact ⟨hHU2, hFU2, _, rfl, ⟨by omega, by omega⟩, (t31), (by omega), (by omega)⟩
    · refine l_aload_n rfl rfl ?_
      have w25 : 0 ≤ Xi S 904 65 ∧ Xi S 904 65 ≤ 1 := hH.c _ _
      have w26 : 0 ≤ Xi S 904 8 ∧ Xi S 904 8 ≤ 5010 := hH.c _ _
      refine l_callV rfl rfl rfl (t_mo_odd hH _) ?_
      rintro _ T3 ⟨hHT3, w30, rfl, w27, w28⟩
      have hFT3 : FR md_mo_oneOrVarious__2 S T3 := FR.tr hF w30 rfl
      show Rl _ _ _ _ _ [] _ _
      refine l_aload_n rfl rfl ?_
      refine l_dup rfl rfl ?_
      refine l_gfi rfl rfl rfl rfl rfl ?_
      have w31 : (Xi T3 904 8) = (Xi S 904 8) := (show Xi T3 904 8 = Xi S 904 8 from w30.x _ _ rfl)
      rw [w31]
      refine l_iconst rfl ?_
      refine l_iadd rfl ?_
      refine l_pfi rfl rfl rfl rfl ?_
      obtain ⟨U4, eU4⟩ : ∃ T : sS, T = uI T3 904 8 (Int32.ofInt ((Xi S 904 8) + 1)) := ⟨_, rfl⟩
      rw [← eU4]
      have hHU4 : HI U4 := by rw [eU4]; exact HI_w hHT3 (show 0 ≤ ((Xi S 904 8) + 1) by omega) (show ((Xi S 904 8) + 1) ≤ 5010 by omega)
      have hFU4 : FR md_mo_oneOrVarious__2 S U4 := by rw [eU4]; exact FR.wI hFT3 (mdf_i (r := (904, 905, 8, 9)) (List.mem_of_getElem? (i := 0) rfl) (inR_i (by omega) (by omega) (by omega) (by omega)))
      have w32 : Xi U4 904 8 = ((Xi S 904 8) + 1) := by rw [eU4]; exact Xi_same (by unfold rg; omega)
      have t31 : AT U4 n c := by first | exact at_up hT hA eU4 (by omega) (by omega) (by omega) (by omega) (Or.inl rfl) | exact AT_bad (by rw [eU4, Xi_ne (by omega)]; omega)
      refine l_iload_n rfl rfl ?_
      refine l_ireturn rfl (retI_z (by omega)) ?_
      have w33 : Xi U4 904 65 = Xi T3 904 65 := (show Xi U4 904 65 = Xi T3 904 65 from by rw [eU4]; exact Xi_ne (by omega))
      have w34 : 0 ≤ Xi T3 904 65 ∧ Xi T3 904 65 ≤ 1 := hHT3.c _ _
      have w35 : 0 ≤ Xi U4 904 8 ∧ Xi U4 904 8 ≤ 5010 := hHU4.c _ _
      exact ⟨hHU4, hFU4, _, rfl, ⟨by omega, by omega⟩, (t31), (by omega), (by omega)⟩
def md_mo_list__2 : List rec := [(904, 905, 8, 9), (904, 905, 65, 66), (904, 905, 66, 67), (904, 905, 69, 70), (904, 905, 71, 72), (904, 905, 72, 73), (950, 951, 0, 100000), (951, 952, 0, 100000)]
abbrev Q_mo_list__2 (S : sS) (n : Nat) (c : Nat) (art : Int) : pst := fun r S1 => HI S1 ∧ FR md_mo_list__2 S S1 ∧ (r = none ∧ (AT S1 n c) ∧ (Xi S 904 8 ≤ Xi S1 904 8 ∧ (Xi S1 904 8 ≤ n ∨ Xi S1 904 8 = Xi S 904 8)) ∧ (RNV S1 n) ∧ (Xi S1 904 71 = Xi S 904 69 ∧ Xi S1 904 72 = Xi S1 904 69 - Xi S 904 69) ∧ (Xi S1 904 65 = 0 → Xi S 904 65 = 0) ∧ (Xi S 904 69 ≤ Xi S1 904 69) ∧ (Xi S1 904 65 = 0 → Xi S 904 69 < Xi S1 904 69))
set_option maxRecDepth 100000 in
theorem t_mo_list__2 {S : sS} (hH : HI S) (n : Nat) (c : Nat) (art : Int) (hart : 0 ≤ art ∧ art ≤ 1) (hT : TK S n) (hA : AT S n c) (hv : RNV S n) (d : Nat) : Mt lay0 (d + 4) m_mo_list [.ref 904, iv art] S (Q_mo_list__2 S n c art) := by
  refine Mt_R rfl rfl ?_
  have hF : FR md_mo_list__2 S S := FR.rf
  have w1 : 0 ≤ Xi S 904 65 ∧ Xi S 904 65 ≤ 1 := hH.c _ _
  have w2 : 0 ≤ Xi S 904 69 ∧ Xi S 904 69 ≤ 2600 := hH.c _ _
  have w3 : 0 ≤ Xi S 904 71 ∧ Xi S 904 71 ≤ 2600 := hH.c _ _
  have w4 : 0 ≤ Xi S 904 8 ∧ Xi S 904 8 ≤ 5010 := hH.c _ _
  have hn5 := hT.1
  have hat := hA
  have h8 : 0 ≤ Xi S 904 8 ∧ Xi S 904 8 ≤ 5010 := hH.c _ _
  have h69 : 0 ≤ Xi S 904 69 ∧ Xi S 904 69 ≤ 2600 := hH.c _ _
  have ha0 : Xi S 904 65 = 0 → Xi S 904 8 ≤ n := fun q => (hA q).1
  have ha3 : Xi S 904 65 = 0 → 2 * Xi S 904 69 ≤ Xi S 904 8 + 1 := fun q => (hA q).2.1
  clear hat
  have C10 : ∀ (n10 : Nat) (T1 : sS) (_ : HI T1) (_ : FR md_mo_list__2 S T1) (v2 : Int), (0 ≤ v2 ∧ v2 ≤ 1) → (TK T1 n) → (AT T1 n c) → (RNV T1 n) → (Xi T1 904 71 = Xi S 904 69) → (Xi S 904 69 ≤ Xi T1 904 69) → (Xi S 904 8 ≤ Xi T1 904 8) → (Xi T1 904 8 ≤ n ∨ Xi T1 904 8 = Xi S 904 8) → (Xi T1 904 65 = 0 → Xi S 904 65 = 0) → (v2 = 0 → Xi T1 904 65 = 0 → Xi S 904 69 < Xi T1 904 69) → n10 = (2 * (5012 - Xi T1 904 8) + v2).toNat → Rl lay0 (d + 3) m_mo_list 10 [(0, .ref 904), (1, iv art), (2, iv v2)] [] T1 (Q_mo_list__2 S n c art) := by
    intro n10
    induction n10 using Nat.strongRecOn with
    | ind n10 ih10 =>
      intro T1 hHT1 hFT1 v2 w5 T10 A10 V10 w6 w7 w8 m10 w9 w10 hm10
      have w11 : 0 ≤ Xi T1 904 65 ∧ Xi T1 904 65 ≤ 1 := hHT1.c _ _
      have w12 : 0 ≤ Xi T1 904 69 ∧ Xi T1 904 69 ≤ 2600 := hHT1.c _ _
      have w13 : 0 ≤ Xi T1 904 71 ∧ Xi T1 904 71 ≤ 2600 := hHT1.c _ _
      have w14 : 0 ≤ Xi T1 904 8 ∧ Xi T1 904 8 ≤ 5010 := hHT1.c _ _
      refine l_iload_n rfl rfl ?_
      refine l_if_eq rfl rfl (by unfold rg; omega) (fun w15 => ?_) (fun w16 => ?_)
      · refine l_aload_n rfl rfl ?_
        refine l_aload_n rfl rfl ?_
        refine l_gfi rfl rfl rfl rfl rfl ?_
        refine l_aload_n rfl rfl ?_
        refine l_gfi rfl rfl rfl rfl rfl ?_
        refine l_isub rfl ?_
        refine l_pfi rfl rfl rfl rfl ?_
        obtain ⟨U2, eU2⟩ : ∃ T : sS, T = uI T1 904 72 (Int32.ofInt ((Xi T1 904 69) - (Xi T1 904 71))) := ⟨_, rfl⟩
        rw [← eU2]
        have hHU2 : HI U2 := by rw [eU2]; exact HI_w hHT1 (show 0 ≤ ((Xi T1 904 69) - (Xi T1 904 71)) by omega) (show ((Xi T1 904 69) - (Xi T1 904 71)) ≤ 2600 by omega)
        have hFU2 : FR md_mo_list__2 S U2 := by rw [eU2]; exact FR.wI hFT1 (mdf_i (r := (904, 905, 72, 73)) (List.mem_of_getElem? (i := 5) rfl) (inR_i (by omega) (by omega) (by omega) (by omega)))
        have w17 : Xi U2 904 72 = ((Xi T1 904 69) - (Xi T1 904 71)) := by rw [eU2]; exact Xi_same (by unfold rg; omega)
        have s56 : Xi U2 904 8 = Xi T1 904 8 ∧ Xi U2 904 69 = Xi T1 904 69 ∧ Xi U2 904 71 = Xi T1 904 71 := ⟨by rw [eU2, Xi_ne (by omega)], by rw [eU2, Xi_ne (by omega)], by rw [eU2, Xi_ne (by omega)]⟩
        have A56 : AT U2 n c := AT_FR (FR_e eU2) rfl A10
        have V56 : RNV U2 n := RNV_FR (FR_e eU2) rfl V10
        refine l_return rfl rfl ?_
        have w18 : Xi U2 904 65 = Xi T1 904 65 := (show Xi U2 904 65 = Xi T1 904 65 from by rw [eU2]; exact Xi_ne (by omega))
        have w19 : 0 ≤ Xi T1 904 65 ∧ Xi T1 904 65 ≤ 1 := hHT1.c _ _
        have w20 : Xi U2 904 69 = Xi T1 904 69 := (show Xi U2 904 69 = Xi T1 904 69 from by rw [eU2]; exact Xi_ne (by omega))
        have w21 : 0 ≤ Xi T1 904 69 ∧ Xi T1 904 69 ≤ 2600 := hHT1.c _ _
        have w22 : Xi U2 904 71 = Xi T1 904 71 := (show Xi U2 904 71 = Xi T1 904 71 from by rw [eU2]; exact Xi_ne (by omega))
        have w23 : 0 ≤ Xi T1 904 71 ∧ Xi T1 904 71 ≤ 2600 := hHT1.c _ _
        have w24 : 0 ≤ Xi U2 904 72 ∧ Xi U2 904 72 ≤ 2600 := hHU2.c _ _
        have w25 : Xi U2 904 8 = Xi T1 904 8 := (show Xi U2 904 8 = Xi T1 904 8 from by rw [eU2]; exact Xi_ne (by omega))
        have w26 : 0 ≤ Xi T1 904 8 ∧ Xi T1 904 8 ≤ 5010 := hHT1.c _ _
        exact ⟨hHU2, hFU2, rfl, (A56), (by omega), (V56), (by omega), (by omega), (by omega), (by omega)⟩
      · refine l_aload_n rfl rfl ?_
        refine l_gfi rfl rfl rfl rfl rfl ?_
        refine l_if_ne rfl rfl (by unfold rg; omega) (fun w27 => ?_) (fun w28 => ?_)
        · refine l_aload_n rfl rfl ?_
          refine l_aload_n rfl rfl ?_
          refine l_gfi rfl rfl rfl rfl rfl ?_
          refine l_aload_n rfl rfl ?_
          refine l_gfi rfl rfl rfl rfl rfl ?_
          refine l_isub rfl ?_
          refine l_pfi rfl rfl rfl rfl ?_
          obtain ⟨U3, eU3⟩ : ∃ T : sS, T = uI T1 904 72 (Int32.ofInt ((Xi T1 904 69) - (Xi T1 904 71))) := ⟨_, rfl⟩
          rw [← eU3]
          have hHU3 : HI U3 := by rw [eU3]; exact HI_w hHT1 (show 0 ≤ ((Xi T1 904 69) - (Xi T1 904 71)) by omega) (show ((Xi T1 904 69) - (Xi T1 904 71)) ≤ 2600 by omega)
          have hFU3 : FR md_mo_list__2 S U3 := by rw [eU3]; exact FR.wI hFT1 (mdf_i (r := (904, 905, 72, 73)) (List.mem_of_getElem? (i := 5) rfl) (inR_i (by omega) (by omega) (by omega) (by omega)))
          have w29 : Xi U3 904 72 = ((Xi T1 904 69) - (Xi T1 904 71)) := by rw [eU3]; exact Xi_same (by unfold rg; omega)
          have s56 : Xi U3 904 8 = Xi T1 904 8 ∧ Xi U3 904 69 = Xi T1 904 69 ∧ Xi U3 904 71 = Xi T1 904 71 := ⟨by rw [eU3, Xi_ne (by omega)], by rw [eU3, Xi_ne (by omega)], by rw [eU3, Xi_ne (by omega)]⟩
          have A56 : AT U3 n c := AT_FR (FR_e eU3) rfl A10
          have V56 : RNV U3 n := RNV_FR (FR_e eU3) rfl V10
          refine l_return rfl rfl ?_
          have w30 : Xi U3 904 65 = Xi T1 904 65 := (show Xi U3 904 65 = Xi T1 904 65 from by rw [eU3]; exact Xi_ne (by omega))
          have w31 : 0 ≤ Xi T1 904 65 ∧ Xi T1 904 65 ≤ 1 := hHT1.c _ _
          have w32 : Xi U3 904 69 = Xi T1 904 69 := (show Xi U3 904 69 = Xi T1 904 69 from by rw [eU3]; exact Xi_ne (by omega))
          have w33 : 0 ≤ Xi T1 904 69 ∧ Xi T1 904 69 ≤ 2600 := hHT1.c _ _
          have w34 : Xi U3 904 71 = Xi T1 904 71 := (show Xi U3 904 71 = Xi T1 904 71 from by rw [eU3]; exact Xi_ne (by omega))
          have w35 : 0 ≤ Xi T1 904 71 ∧ Xi T1 904 71 ≤ 2600 := hHT1.c _ _
          have w36 : 0 ≤ Xi U3 904 72 ∧ Xi U3 904 72 ≤ 2600 := hHU3.c _ _
          have w37 : Xi U3 904 8 = Xi T1 904 8 := (show Xi U3 904 8 = Xi T1 904 8 from by rw [eU3]; exact Xi_ne (by omega))
          have w38 : 0 ≤ Xi T1 904 8 ∧ Xi T1 904 8 ≤ 5010 := hHT1.c _ _
          exact ⟨hHU3, hFU3, rfl, (A56), (by omega), (V56), (by omega), (by omega), (by omega), (by omega)⟩
        · refine l_iload_n rfl rfl ?_
          refine l_if_eq rfl rfl (by unfold rg; omega) (fun w39 => ?_) (fun w40 => ?_)
          · refine l_aload_n rfl rfl ?_
            have w41 : 0 ≤ Xi T1 904 65 ∧ Xi T1 904 65 ≤ 1 := hHT1.c _ _
            have w42 : 0 ≤ Xi T1 904 69 ∧ Xi T1 904 69 ≤ 2600 := hHT1.c _ _
            have w43 : 0 ≤ Xi T1 904 71 ∧ Xi T1 904 71 ≤ 2600 := hHT1.c _ _
            have w44 : 0 ≤ Xi T1 904 8 ∧ Xi T1 904 8 ≤ 5010 := hHT1.c _ _
            refine l_callV rfl rfl rfl (t_mo_run hHT1 n c (by first | assumption | exact (TK_FR hFT1 rfl (by assumption : TK S _))) (by first | assumption | exact (by assumption : AT T1 _ _)) (by first | assumption | exact (by assumption : RNV T1 _)) _) ?_
            rintro _ T4 ⟨hHT4, w51, z50, rfl, w50, w45, w46, w47, w48, w49⟩
            have hFT4 : FR md_mo_list__2 S T4 := FR.tr hFT1 w51 rfl
            show Rl _ _ _ _ _ [iv z50] _ _
            have T34 : TK T4 n := TK_FR (by assumption : FR md_mo_run T1 T4) rfl T10
            refine l_pop rfl rfl ?_
            refine l_aload_n rfl rfl ?_
            have w52 : 0 ≤ Xi T4 904 65 ∧ Xi T4 904 65 ≤ 1 := hHT4.c _ _
            have w53 : 0 ≤ Xi T4 904 69 ∧ Xi T4 904 69 ≤ 2600 := hHT4.c _ _
            have w54 : Xi T4 904 71 = Xi T1 904 71 := (show Xi T4 904 71 = Xi T1 904 71 from w51.x _ _ rfl)
            have w55 : 0 ≤ Xi T1 904 71 ∧ Xi T1 904 71 ≤ 2600 := hHT1.c _ _
            have w56 : 0 ≤ Xi T4 904 8 ∧ Xi T4 904 8 ≤ 5010 := hHT4.c _ _
            refine l_callV rfl rfl rfl (t_mo_isMore hHT4 n c (by first | assumption | exact (TK_FR hFT4 rfl (by assumption : TK S _))) (by first | assumption | exact (by assumption : AT T4 _ _)) _) ?_
            rintro _ T5 ⟨hHT5, w62, z61, rfl, w61, w57, w58, w59, w60⟩
            have hFT5 : FR md_mo_list__2 S T5 := FR.tr hFT4 w62 rfl
            show Rl _ _ _ _ _ [iv z61] _ _
            have V39 : RNV T5 n := RNV_FR (by assumption : FR md_mo_isMore T4 T5) rfl (by assumption)
            have r39 : Xi T5 904 69 = Xi T4 904 69 := (by assumption : FR md_mo_isMore T4 T5).x 904 69 rfl
            have T39 : TK T5 n := TK_FR (by assumption : FR md_mo_isMore T4 T5) rfl (by first | exact T26 | exact T34)
            refine l_istore_n rfl rfl rfl ?_
            refine l_goto rfl rfl ?_
            have w63 : Xi T5 904 65 = Xi T4 904 65 := (show Xi T5 904 65 = Xi T4 904 65 from w62.x _ _ rfl)
            have w64 : 0 ≤ Xi T4 904 65 ∧ Xi T4 904 65 ≤ 1 := hHT4.c _ _
            have w65 : Xi T5 904 69 = Xi T4 904 69 := (show Xi T5 904 69 = Xi T4 904 69 from w62.x _ _ rfl)
            have w66 : 0 ≤ Xi T4 904 69 ∧ Xi T4 904 69 ≤ 2600 := hHT4.c _ _
            have w67 : Xi T5 904 71 = Xi T1 904 71 := (show Xi T5 904 71 = Xi T4 904 71 from w62.x _ _ rfl).trans ((show Xi T4 904 71 = Xi T1 904 71 from w51.x _ _ rfl))
            have w68 : 0 ≤ Xi T1 904 71 ∧ Xi T1 904 71 ≤ 2600 := hHT1.c _ _
            have w69 : 0 ≤ Xi T5 904 8 ∧ Xi T5 904 8 ≤ 5010 := hHT5.c _ _
            exact Rl_weak (ih10 _ (by omega) T5 hHT5 hFT5 (z61) (by omega) (by first | exact T39 | exact T5) (by first | assumption | exact A5) (by first | exact V39 | exact V5) (by omega) (by omega) (by omega) (by omega) (by omega) (by omega) rfl) (And.intro rfl (And.intro rfl (And.intro rfl (True.intro))))
          · refine l_aload_n rfl rfl ?_
            have w70 : 0 ≤ Xi T1 904 65 ∧ Xi T1 904 65 ≤ 1 := hHT1.c _ _
            have w71 : 0 ≤ Xi T1 904 69 ∧ Xi T1 904 69 ≤ 2600 := hHT1.c _ _
            have w72 : 0 ≤ Xi T1 904 71 ∧ Xi T1 904 71 ≤ 2600 := hHT1.c _ _
            have w73 : 0 ≤ Xi T1 904 8 ∧ Xi T1 904 8 ≤ 5010 := hHT1.c _ _
            refine l_callV rfl rfl rfl (t_mo_name hHT1 n c (by first | assumption | exact (TK_FR hFT1 rfl (by assumption : TK S _))) (by first | assumption | exact (by assumption : AT T1 _ _)) (by first | assumption | exact (by assumption : RNV T1 _)) _) ?_
            rintro _ T6 ⟨hHT6, w80, z79, rfl, w79, w74, w75, w76, w77, w78⟩
            have hFT6 : FR md_mo_list__2 S T6 := FR.tr hFT1 w80 rfl
            show Rl _ _ _ _ _ [iv z79] _ _
            have T26 : TK T6 n := TK_FR (by assumption : FR md_mo_name T1 T6) rfl T10
            refine l_pop rfl rfl ?_
            refine l_goto rfl rfl ?_
            refine l_aload_n rfl rfl ?_
            have w81 : 0 ≤ Xi T6 904 65 ∧ Xi T6 904 65 ≤ 1 := hHT6.c _ _
            have w82 : 0 ≤ Xi T6 904 69 ∧ Xi T6 904 69 ≤ 2600 := hHT6.c _ _
            have w83 : Xi T6 904 71 = Xi T1 904 71 := (show Xi T6 904 71 = Xi T1 904 71 from w80.x _ _ rfl)
            have w84 : 0 ≤ Xi T1 904 71 ∧ Xi T1 904 71 ≤ 2600 := hHT1.c _ _
            have w85 : 0 ≤ Xi T6 904 8 ∧ Xi T6 904 8 ≤ 5010 := hHT6.c _ _
            refine l_callV rfl rfl rfl (t_mo_isMore hHT6 n c (by first | assumption | exact (TK_FR hFT6 rfl (by assumption : TK S _))) (by first | assumption | exact (by assumption : AT T6 _ _)) _) ?_
            rintro _ T7 ⟨hHT7, w91, z90, rfl, w90, w86, w87, w88, w89⟩
            have hFT7 : FR md_mo_list__2 S T7 := FR.tr hFT6 w91 rfl
            show Rl _ _ _ _ _ [iv z90] _ _
            have V39 : RNV T7 n := RNV_FR (by assumption : FR md_mo_isMore T6 T7) rfl (by assumption)
            have r39 : Xi T7 904 69 = Xi T6 904 69 := (by assumption : FR md_mo_isMore T6 T7).x 904 69 rfl
            have T39 : TK T7 n := TK_FR (by assumption : FR md_mo_isMore T6 T7) rfl (by first | exact T26 | exact T34)
            refine l_istore_n rfl rfl rfl ?_
            refine l_goto rfl rfl ?_
            have w92 : Xi T7 904 65 = Xi T6 904 65 := (show Xi T7 904 65 = Xi T6 904 65 from w91.x _ _ rfl)
            have w93 : 0 ≤ Xi T6 904 65 ∧ Xi T6 904 65 ≤ 1 := hHT6.c _ _
            have w94 : Xi T7 904 69 = Xi T6 904 69 := (show Xi T7 904 69 = Xi T6 904 69 from w91.x _ _ rfl)
            have w95 : 0 ≤ Xi T6 904 69 ∧ Xi T6 904 69 ≤ 2600 := hHT6.c _ _
            have w96 : Xi T7 904 71 = Xi T1 904 71 := (show Xi T7 904 71 = Xi T6 904 71 from w91.x _ _ rfl).trans ((show Xi T6 904 71 = Xi T1 904 71 from w80.x _ _ rfl))
            have w97 : 0 ≤ Xi T1 904 71 ∧ Xi T1 904 71 ≤ 2600 := hHT1.c _ _
            have w98 : 0 ≤ Xi T7 904 8 ∧ Xi T7 904 8 ≤ 5010 := hHT7.c _ _
            exact Rl_weak (ih10 _ (by omega) T7 hHT7 hFT7 (z90) (by omega) (by first | exact T39 | exact T5) (by first | assumption | exact A5) (by first | exact V39 | exact V5) (by omega) (by omega) (by omega) (by omega) (by omega) (by omega) rfl) (And.intro rfl (And.intro rfl (And.intro rfl (True.intro))))
  refine l_aload_n rfl rfl ?_
  refine l_aload_n rfl rfl ?_
  refine l_gfi rfl rfl rfl rfl rfl ?_
  refine l_pfi rfl rfl rfl rfl ?_
  obtain ⟨U8, eU8⟩ : ∃ T : sS, T = uI S 904 71 (Int32.ofInt (Xi S 904 69)) := ⟨_, rfl⟩
  rw [← eU8]
  have hHU8 : HI U8 := by rw [eU8]; exact HI_w hH (show 0 ≤ (Xi S 904 69) by omega) (show (Xi S 904 69) ≤ 2600 by omega)
  have hFU8 : FR md_mo_list__2 S U8 := by rw [eU8]; exact FR.wI hF (mdf_i (r := (904, 905, 71, 72)) (List.mem_of_getElem? (i := 4) rfl) (inR_i (by omega) (by omega) (by omega) (by omega)))
  have w99 : Xi U8 904 71 = (Xi S 904 69) := by rw [eU8]; exact Xi_same (by unfold rg; omega)
  have s5 : Xi U8 904 8 = Xi S 904 8 ∧ Xi U8 904 65 = Xi S 904 65 ∧ Xi U8 904 69 = Xi S 904 69 := ⟨by rw [eU8, Xi_ne (by omega)], by rw [eU8, Xi_ne (by omega)], by rw [eU8, Xi_ne (by omega)]⟩
  have T5 : TK U8 n := TK_FR (FR_e eU8) rfl hT
  have A5 : AT U8 n c := AT_FR (FR_e eU8) rfl hA
  have V5 : RNV U8 n := RNV_FR (FR_e eU8) rfl hv
  refine l_iconst rfl ?_
  refine l_istore_n rfl rfl rfl ?_
  have w100 : Xi U8 904 65 = Xi S 904 65 := (show Xi U8 904 65 = Xi S 904 65 from by rw [eU8]; exact Xi_ne (by omega))
  have w101 : 0 ≤ Xi S 904 65 ∧ Xi S 904 65 ≤ 1 := hH.c _ _
  have w102 : Xi U8 904 69 = Xi S 904 69 := (show Xi U8 904 69 = Xi S 904 69 from by rw [eU8]; exact Xi_ne (by omega))
  have w103 : 0 ≤ Xi S 904 69 ∧ Xi S 904 69 ≤ 2600 := hH.c _ _
  have w104 : 0 ≤ Xi U8 904 71 ∧ Xi U8 904 71 ≤ 2600 := hHU8.c _ _
  have w105 : Xi U8 904 8 = Xi S 904 8 := (show Xi U8 904 8 = Xi S 904 8 from by rw [eU8]; exact Xi_ne (by omega))
  have w106 : 0 ≤ Xi S 904 8 ∧ Xi S 904 8 ≤ 5010 := hH.c _ _
  exact Rl_weak (C10 _ U8 hHU8 hFU8 (1) (by omega) (by first | exact T39 | exact T5) (by first | assumption | exact A5) (by first | exact V39 | exact V5) (by omega) (by omega) (by omega) (by omega) (by omega) (by omega) rfl) (And.intro rfl (And.intro rfl (And.intro rfl (True.intro))))
def md_mo_thing : List rec := [(904, 905, 8, 9), (904, 905, 65, 66), (904, 905, 66, 67), (904, 905, 69, 70), (904, 905, 99, 100), (904, 905, 100, 101), (904, 905, 101, 102), (950, 951, 0, 100000), (951, 952, 0, 100000)]
abbrev Q_mo_thing (S : sS) (n : Nat) (c : Nat) : pst := fun r S1 => HI S1 ∧ FR md_mo_thing S S1 ∧ (r = none ∧ (AT S1 n c) ∧ (Xi S 904 8 ≤ Xi S1 904 8 ∧ (Xi S1 904 8 ≤ n ∨ Xi S1 904 8 = Xi S 904 8)) ∧ (RNV S1 n) ∧ (Xi S1 904 65 = 0 → Xi S 904 65 = 0) ∧ (Xi S 904 69 ≤ Xi S1 904 69) ∧ (Xi S1 904 65 = 0 → Xi S1 904 101 ≤ n ∧ (Xi S1 904 100 = 2 → Xi S1 904 99 < Xi S1 904 69)))
set_option maxRecDepth 100000 in
theorem t_mo_thing {S : sS} (hH : HI S) (n : Nat) (c : Nat) (hT : TK S n) (hA : AT S n c) (hv : RNV S n) (d : Nat) : Mt lay0 (d + 4) m_mo_thing [.ref 904] S (Q_mo_thing S n c) := by
  refine Mt_R rfl rfl ?_
  have hF : FR md_mo_thing S S := FR.rf
  have w1 : 0 ≤ Xi S 904 65 ∧ Xi S 904 65 ≤ 1 := hH.c _ _
  have w2 : 0 ≤ Xi S 904 69 ∧ Xi S 904 69 ≤ 2600 := hH.c _ _
  have w3 : 0 ≤ Xi S 904 8 ∧ Xi S 904 8 ≤ 5010 := hH.c _ _
  have hn5 := hT.1
  have hat := hA
  have h8 : 0 ≤ Xi S 904 8 ∧ Xi S 904 8 ≤ 5010 := hH.c _ _
  have h69 : 0 ≤ Xi S 904 69 ∧ Xi S 904 69 ≤ 2600 := hH.c _ _
  have ha0 : Xi S 904 65 = 0 → Xi S 904 8 ≤ n := fun q => (hA q).1
  have ha3 : Xi S 904 65 = 0 → 2 * Xi S 904 69 ≤ Xi S 904 8 + 1 := fun q => (hA q).2.1
  clear hat
  refine l_aload_n rfl rfl ?_
  refine l_aload_n rfl rfl ?_
  refine l_gfi rfl rfl rfl rfl rfl ?_
  refine l_pfi rfl rfl rfl rfl ?_
  obtain ⟨U1, eU1⟩ : ∃ T : sS, T = uI S 904 101 (Int32.ofInt (Xi S 904 8)) := ⟨_, rfl⟩
  rw [← eU1]
  have hHU1 : HI U1 := by rw [eU1]; exact HI_w hH (show 0 ≤ (Xi S 904 8) by omega) (show (Xi S 904 8) ≤ 5010 by omega)
  have hFU1 : FR md_mo_thing S U1 := by rw [eU1]; exact FR.wI hF (mdf_i (r := (904, 905, 101, 102)) (List.mem_of_getElem? (i := 6) rfl) (inR_i (by omega) (by omega) (by omega) (by omega)))
  have w4 : Xi U1 904 101 = (Xi S 904 8) := by rw [eU1]; exact Xi_same (by unfold rg; omega)
  refine l_aload_n rfl rfl ?_
  refine l_sipush rfl rfl ?_
  have w5 : Xi U1 904 100 = Xi S 904 100 := (show Xi U1 904 100 = Xi S 904 100 from by rw [eU1]; exact Xi_ne (by omega))
  have w6 : 0 ≤ Xi S 904 100 ∧ Xi S 904 100 ≤ 2 := hH.c _ _
  have w7 : 0 ≤ Xi U1 904 101 ∧ Xi U1 904 101 ≤ 5010 := hHU1.c _ _
  have w8 : Xi U1 904 65 = Xi S 904 65 := (show Xi U1 904 65 = Xi S 904 65 from by rw [eU1]; exact Xi_ne (by omega))
  have w9 : 0 ≤ Xi S 904 65 ∧ Xi S 904 65 ≤ 1 := hH.c _ _
  have w10 : Xi U1 904 69 = Xi S 904 69 := (show Xi U1 904 69 = Xi S 904 69 from by rw [eU1]; exact Xi_ne (by omega))
  have w11 : 0 ≤ Xi S 904 69 ∧ Xi S 904 69 ≤ 2600 := hH.c _ _
  have w12 : Xi U1 904 8 = Xi S 904 8 := (show Xi U1 904 8 = Xi S 904 8 from by rw [eU1]; exact Xi_ne (by omega))
  have w13 : 0 ≤ Xi S 904 8 ∧ Xi S 904 8 ≤ 5010 := hH.c _ _
  have w14 : Xi U1 904 93 = Xi S 904 93 := (show Xi U1 904 93 = Xi S 904 93 from by rw [eU1]; exact Xi_ne (by omega))
  have w15 : 0 ≤ Xi S 904 93 ∧ Xi S 904 93 ≤ 1700 := hH.c _ _
  have w16 : Xi U1 904 99 = Xi S 904 99 := (show Xi U1 904 99 = Xi S 904 99 from by rw [eU1]; exact Xi_ne (by omega))
  have w17 : 0 ≤ Xi S 904 99 ∧ Xi S 904 99 ≤ 2600 := hH.c _ _
  refine l_callV rfl rfl rfl (t_mo_isNext hHU1 n c 154 ⟨by omega, by omega⟩ (by first | assumption | exact (TK_FR hFU1 rfl (by assumption : TK S _))) (by first | assumption | exact (AT_FR (FR_e eU1) rfl (by assumption : AT S _ _))) _) ?_
  rintro _ _ ⟨rfl, z20, rfl, w20, w18, w19⟩
  show Rl _ _ _ _ _ [iv z20] _ _
  have i12 : z20 = 1 → Xi S 904 65 = 0 ∧ Xi S 907 (Xi S 904 8).toNat = 154 := fun q => by have t := (by assumption : z20 = 1 → Xi U1 904 65 = 0 ∧ Xi U1 907 (Xi U1 904 8).toNat = 154) q; rw [show Xi U1 904 8 = Xi S 904 8 by omega, (hFU1.cx 907 rfl _).1] at t; exact ⟨by omega, t.2⟩
  refine l_if_eq rfl rfl (by unfold rg; omega) (fun w21 => ?_) (fun w22 => ?_)
  · refine l_aload_n rfl rfl ?_
    refine l_sipush rfl rfl ?_
    have w23 : Xi U1 904 100 = Xi S 904 100 := (show Xi U1 904 100 = Xi S 904 100 from by rw [eU1]; exact Xi_ne (by omega))
    have w24 : 0 ≤ Xi S 904 100 ∧ Xi S 904 100 ≤ 2 := hH.c _ _
    have w25 : 0 ≤ Xi U1 904 101 ∧ Xi U1 904 101 ≤ 5010 := hHU1.c _ _
    have w26 : Xi U1 904 65 = Xi S 904 65 := (show Xi U1 904 65 = Xi S 904 65 from by rw [eU1]; exact Xi_ne (by omega))
    have w27 : 0 ≤ Xi S 904 65 ∧ Xi S 904 65 ≤ 1 := hH.c _ _
    have w28 : Xi U1 904 69 = Xi S 904 69 := (show Xi U1 904 69 = Xi S 904 69 from by rw [eU1]; exact Xi_ne (by omega))
    have w29 : 0 ≤ Xi S 904 69 ∧ Xi S 904 69 ≤ 2600 := hH.c _ _
    have w30 : Xi U1 904 8 = Xi S 904 8 := (show Xi U1 904 8 = Xi S 904 8 from by rw [eU1]; exact Xi_ne (by omega))
    have w31 : 0 ≤ Xi S 904 8 ∧ Xi S 904 8 ≤ 5010 := hH.c _ _
    have w32 : Xi U1 904 93 = Xi S 904 93 := (show Xi U1 904 93 = Xi S 904 93 from by rw [eU1]; exact Xi_ne (by omega))
    have w33 : 0 ≤ Xi S 904 93 ∧ Xi S 904 93 ≤ 1700 := hH.c _ _
    have w34 : Xi U1 904 99 = Xi S 904 99 := (show Xi U1 904 99 = Xi S 904 99 from by rw [eU1]; exact Xi_ne (by omega))
    have w35 : 0 ≤ Xi S 904 99 ∧ Xi S 904 99 ≤ 2600 := hH.c _ _
    refine l_callV rfl rfl rfl (t_mo_isNext hHU1 n c 153 ⟨by omega, by omega⟩ (by first | assumption | exact (TK_FR hFU1 rfl (by assumption : TK S _))) (by first | assumption | exact (AT_FR (FR_e eU1) rfl (by assumption : AT S _ _))) _) ?_
    rintro _ _ ⟨rfl, z38, rfl, w38, w36, w37⟩
    show Rl _ _ _ _ _ [iv z38] _ _
    have i40 : z38 = 1 → Xi S 904 65 = 0 ∧ Xi S 907 (Xi S 904 8).toNat = 153 := fun q => by have t := (by assumption : z38 = 1 → Xi U1 904 65 = 0 ∧ Xi U1 907 (Xi U1 904 8).toNat = 153) q; rw [show Xi U1 904 8 = Xi S 904 8 by omega, (hFU1.cx 907 rfl _).1] at t; exact ⟨by omega, t.2⟩
    refine l_if_ne rfl rfl (by unfold rg; omega) (fun w39 => ?_) (fun w40 => ?_)
    · refine l_aload_n rfl rfl ?_
      refine l_iconst rfl ?_
      refine l_pfi rfl rfl rfl rfl ?_
      obtain ⟨U2, eU2⟩ : ∃ T : sS, T = uI U1 904 100 (Int32.ofInt 1) := ⟨_, rfl⟩
      rw [← eU2]
      have hHU2 : HI U2 := by rw [eU2]; exact HI_w hHU1 (show 0 ≤ 1 by omega) (show 1 ≤ 2 by omega)
      have hFU2 : FR md_mo_thing S U2 := by rw [eU2]; exact FR.wI hFU1 (mdf_i (r := (904, 905, 100, 101)) (List.mem_of_getElem? (i := 5) rfl) (inR_i (by omega) (by omega) (by omega) (by omega)))
      have w41 : Xi U2 904 100 = 1 := by rw [eU2]; exact Xi_same (by unfold rg; omega)
      refine l_aload_n rfl rfl ?_
      refine l_dup rfl rfl ?_
      refine l_gfi rfl rfl rfl rfl rfl ?_
      have w42 : (Xi U2 904 8) = (Xi S 904 8) := (show Xi U2 904 8 = Xi U1 904 8 from by rw [eU2]; exact Xi_ne (by omega)).trans ((show Xi U1 904 8 = Xi S 904 8 from by rw [eU1]; exact Xi_ne (by omega)))
      rw [w42]
      refine l_aload_n rfl rfl ?_
      refine l_gfr rfl rfl rfl rfl rfl (hHU2.r 904 4 907 rfl) ?_
      refine l_aload_n rfl rfl ?_
      refine l_gfi rfl rfl rfl rfl rfl ?_
      have w43 : (Xi U2 904 8) = (Xi S 904 8) := (show Xi U2 904 8 = Xi U1 904 8 from by rw [eU2]; exact Xi_ne (by omega)).trans ((show Xi U1 904 8 = Xi S 904 8 from by rw [eU1]; exact Xi_ne (by omega)))
      rw [w43]
      refine l_iaload (n := 5002) rfl rfl (by omega) (by omega) (by unfold rg; omega) ?_
      have w44 : 0 ≤ (Xi U2 907 (((Xi S 904 8)).toNat)) ∧ (Xi U2 907 (((Xi S 904 8)).toNat)) ≤ 154 := hHU2.c _ _
      have e90 : (Xi U2 907 (((Xi S 904 8)).toNat)) = Xi S 907 (Xi S 904 8).toNat := by first | rfl | exact (hFU2.cx 907 rfl _).1 | (rw [(hFU2.cx 907 rfl _).1, show Xi U2 904 8 = Xi S 904 8 by omega])
      refine l_bipush rfl rfl ?_
      refine l_icmp_ne rfl rfl (by unfold rg; omega) (by unfold rg; omega) (fun w45 => ?_) (fun w46 => ?_)
      · refine l_iconst rfl ?_
        refine l_iadd rfl ?_
        refine l_pfi rfl rfl rfl rfl ?_
        obtain ⟨U3, eU3⟩ : ∃ T : sS, T = uI U2 904 8 (Int32.ofInt ((Xi S 904 8) + 1)) := ⟨_, rfl⟩
        rw [← eU3]
        have hHU3 : HI U3 := by rw [eU3]; exact HI_w hHU2 (show 0 ≤ ((Xi S 904 8) + 1) by omega) (show ((Xi S 904 8) + 1) ≤ 5010 by omega)
        have hFU3 : FR md_mo_thing S U3 := by rw [eU3]; exact FR.wI hFU2 (mdf_i (r := (904, 905, 8, 9)) (List.mem_of_getElem? (i := 0) rfl) (inR_i (by omega) (by omega) (by omega) (by omega)))
        have w47 : Xi U3 904 8 = ((Xi S 904 8) + 1) := by rw [eU3]; exact Xi_same (by unfold rg; omega)
        have t102 : AT U3 n c ∧ Xi S 904 8 < Xi U3 904 8 ∧ Xi U3 904 8 ≤ n := by first | (have t := (at_mv (S := S) (P := U2) (TK_FR hF rfl (by assumption : TK S _)) (by first | assumption | exact (by assumption : AT S _ _)) (fun j => ((FR_e eU2).cx 907 rfl j).1.trans (((FR_e eU1).cx 907 rfl j).1)) (fun j => ((FR_e eU2).cx 908 rfl j).1.trans (((FR_e eU1).cx 908 rfl j).1)) ((show Xi U2 904 8 = Xi U1 904 8 from by rw [eU2]; exact Xi_ne (by omega)).trans ((show Xi U1 904 8 = Xi S 904 8 from by rw [eU1]; exact Xi_ne (by omega)))) ((show Xi U2 904 65 = Xi U1 904 65 from by rw [eU2]; exact Xi_ne (by omega)).trans ((show Xi U1 904 65 = Xi S 904 65 from by rw [eU1]; exact Xi_ne (by omega)))) ((show Xi U2 904 69 = Xi U1 904 69 from by rw [eU2]; exact Xi_ne (by omega)).trans ((show Xi U1 904 69 = Xi S 904 69 from by rw [eU1]; exact Xi_ne (by omega)))) ((show Xi U2 904 93 = Xi U1 904 93 from by rw [eU2]; exact Xi_ne (by omega)).trans ((show Xi U1 904 93 = Xi S 904 93 from by rw [eU1]; exact Xi_ne (by omega)))) eU3 (by omega) (by omega) (by omega) (by omega) (Or.inl rfl)); exact ⟨t.1, by omega, by omega⟩) | (have t := (at_mv2 (S := S) (P := U2) (TK_FR hF rfl (by assumption : TK S _)) (by first | assumption | exact (by assumption : AT S _ _)) (fun j => ((FR_e eU2).cx 907 rfl j).1.trans (((FR_e eU1).cx 907 rfl j).1)) (fun j => ((FR_e eU2).cx 908 rfl j).1.trans (((FR_e eU1).cx 908 rfl j).1)) ((show Xi U2 904 8 = Xi U1 904 8 from by rw [eU2]; exact Xi_ne (by omega)).trans ((show Xi U1 904 8 = Xi S 904 8 from by rw [eU1]; exact Xi_ne (by omega)))) ((show Xi U2 904 65 = Xi U1 904 65 from by rw [eU2]; exact Xi_ne (by omega)).trans ((show Xi U1 904 65 = Xi S 904 65 from by rw [eU1]; exact Xi_ne (by omega)))) ((show Xi U2 904 69 = Xi U1 904 69 from by rw [eU2]; exact Xi_ne (by omega)).trans ((show Xi U1 904 69 = Xi S 904 69 from by rw [eU1]; exact Xi_ne (by omega)))) ((show Xi U2 904 93 = Xi U1 904 93 from by rw [eU2]; exact Xi_ne (by omega)).trans ((show Xi U1 904 93 = Xi S 904 93 from by rw [eU1]; exact Xi_ne (by omega)))) eU3 (by omega) (by omega) (by omega) (by omega) (by omega)); exact ⟨t.1, by omega, by omega⟩)
        refine l_goto rfl rfl ?_
        refine l_return rfl rfl ?_
        have w48 : Xi U3 904 100 = Xi U2 904 100 := (show Xi U3 904 100 = Xi U2 904 100 from by rw [eU3]; exact Xi_ne (by omega))
        have w49 : 0 ≤ Xi U2 904 100 ∧ Xi U2 904 100 ≤ 2 := hHU2.c _ _
        have w50 : Xi U3 904 101 = Xi U1 904 101 := (show Xi U3 904 101 = Xi U2 904 101 from by rw [eU3]; exact Xi_ne (by omega)).trans ((show Xi U2 904 101 = Xi U1 904 101 from by rw [eU2]; exact Xi_ne (by omega)))
        have w51 : 0 ≤ Xi U1 904 101 ∧ Xi U1 904 101 ≤ 5010 := hHU1.c _ _
        have w52 : Xi U3 904 65 = Xi S 904 65 := (show Xi U3 904 65 = Xi U2 904 65 from by rw [eU3]; exact Xi_ne (by omega)).trans ( (show Xi U2 904 65 = Xi U1 904 65 from by rw [eU2]; exact Xi_ne (by omega)).trans ((show Xi U1 904 65 = Xi S 904 65 from by rw [eU1]; exact Xi_ne (by omega))))
        have w53 : 0 ≤ Xi S 904 65 ∧ Xi S 904 65 ≤ 1 := hH.c _ _
        have w54 : Xi U3 904 69 = Xi S 904 69 := (show Xi U3 904 69 = Xi U2 904 69 from by rw [eU3]; exact Xi_ne (by omega)).trans ( (show Xi U2 904 69 = Xi U1 904 69 from by rw [eU2]; exact Xi_ne (by omega)).trans ((show Xi U1 904 69 = Xi S 904 69 from by rw [eU1]; exact Xi_ne (by omega))))
        have w55 : 0 ≤ Xi S 904 69 ∧ Xi S 904 69 ≤ 2600 := hH.c _ _
        have w56 : 0 ≤ Xi U3 904 8 ∧ Xi U3 904 8 ≤ 5010 := hHU3.c _ _
        have w57 : Xi U3 904 93 = Xi S 904 93 := (show Xi U3 904 93 = Xi U2 904 93 from by rw [eU3]; exact Xi_ne (by omega)).trans ( (show Xi U2 904 93 = Xi U1 904 93 from by rw [eU2]; exact Xi_ne (by omega)).trans ((show Xi U1 904 93 = Xi S 904 93 from by rw [eU1]; exact Xi_ne (by omega))))
        have w58 : 0 ≤ Xi S 904 93 ∧ Xi S 904 93 ≤ 1700 := hH.c _ _
        have w59 : Xi U3 904 99 = Xi S 904 99 := (show Xi U3 904 99 = Xi U2 904 99 from by rw [eU3]; exact Xi_ne (by omega)).trans ( (show Xi U2 904 99 = Xi U1 904 99 from by rw [eU2]; exact Xi_ne (by omega)).trans ((show Xi U1 904 99 = Xi S 904 99 from by rw [eU1]; exact Xi_ne (by omega))))
        have w60 : 0 ≤ Xi S 904 99 ∧ Xi S 904 99 ≤ 2600 := hH.c _ _
        exact ⟨hHU3, hFU3, rfl, (by first | exact t30.1 | exact t102.1 | exact (by assumption : AT U3 _ _)), (by omega), (by first | assumption | exact (RNV_FR (FR_e eU3) rfl (RNV_FR (FR_e eU2) rfl (RNV_FR (FR_e eU1) rfl (by assumption : RNV S _))))), (by omega), (by omega), (by omega)⟩
      · refine l_iconst rfl ?_
        refine l_goto rfl rfl ?_
        refine l_iadd rfl ?_
        refine l_pfi rfl rfl rfl rfl ?_
        obtain ⟨U4, eU4⟩ : ∃ T : sS, T = uI U2 904 8 (Int32.ofInt ((Xi S 904 8) + 2)) := ⟨_, rfl⟩
        rw [← eU4]
        have hHU4 : HI U4 := by rw [eU4]; exact HI_w hHU2 (show 0 ≤ ((Xi S 904 8) + 2) by omega) (show ((Xi S 904 8) + 2) ≤ 5010 by omega)
        have hFU4 : FR md_mo_thing S U4 := by rw [eU4]; exact FR.wI hFU2 (mdf_i (r := (904, 905, 8, 9)) (List.mem_of_getElem? (i := 0) rfl) (inR_i (by omega) (by omega) (by omega) (by omega)))
        have w61 : Xi U4 904 8 = ((Xi S 904 8) + 2) := by rw [eU4]; exact Xi_same (by unfold rg; omega)
        have t102 : AT U4 n c ∧ Xi S 904 8 < Xi U4 904 8 ∧ Xi U4 904 8 ≤ n := by first | (have t := (at_mv (S := S) (P := U2) (TK_FR hF rfl (by assumption : TK S _)) (by first | assumption | exact (by assumption : AT S _ _)) (fun j => ((FR_e eU2).cx 907 rfl j).1.trans (((FR_e eU1).cx 907 rfl j).1)) (fun j => ((FR_e eU2).cx 908 rfl j).1.trans (((FR_e eU1).cx 908 rfl j).1)) ((show Xi U2 904 8 = Xi U1 904 8 from by rw [eU2]; exact Xi_ne (by omega)).trans ((show Xi U1 904 8 = Xi S 904 8 from by rw [eU1]; exact Xi_ne (by omega)))) ((show Xi U2 904 65 = Xi U1 904 65 from by rw [eU2]; exact Xi_ne (by omega)).trans ((show Xi U1 904 65 = Xi S 904 65 from by rw [eU1]; exact Xi_ne (by omega)))) ((show Xi U2 904 69 = Xi U1 904 69 from by rw [eU2]; exact Xi_ne (by omega)).trans ((show Xi U1 904 69 = Xi S 904 69 from by rw [eU1]; exact Xi_ne (by omega)))) ((show Xi U2 904 93 = Xi U1 904 93 from by rw [eU2]; exact Xi_ne (by omega)).trans ((show Xi U1 904 93 = Xi S 904 93 from by rw [eU1]; exact Xi_ne (by omega)))) eU4 (by omega) (by omega) (by omega) (by omega) (Or.inl rfl)); exact ⟨t.1, by omega, by omega⟩) | (have t := (at_mv2 (S := S) (P := U2) (TK_FR hF rfl (by assumption : TK S _)) (by first | assumption | exact (by assumption : AT S _ _)) (fun j => ((FR_e eU2).cx 907 rfl j).1.trans (((FR_e eU1).cx 907 rfl j).1)) (fun j => ((FR_e eU2).cx 908 rfl j).1.trans (((FR_e eU1).cx 908 rfl j).1)) ((show Xi U2 904 8 = Xi U1 904 8 from by rw [eU2]; exact Xi_ne (by omega)).trans ((show Xi U1 904 8 = Xi S 904 8 from by rw [eU1]; exact Xi_ne (by omega)))) ((show Xi U2 904 65 = Xi U1 904 65 from by rw [eU2]; exact Xi_ne (by omega)).trans ((show Xi U1 904 65 = Xi S 904 65 from by rw [eU1]; exact Xi_ne (by omega)))) ((show Xi U2 904 69 = Xi U1 904 69 from by rw [eU2]; exact Xi_ne (by omega)).trans ((show Xi U1 904 69 = Xi S 904 69 from by rw [eU1]; exact Xi_ne (by omega)))) ((show Xi U2 904 93 = Xi U1 904 93 from by rw [eU2]; exact Xi_ne (by omega)).trans ((show Xi U1 904 93 = Xi S 904 93 from by rw [eU1]; exact Xi_ne (by omega)))) eU4 (by omega) (by omega) (by omega) (by omega) (by omega)); exact ⟨t.1, by omega, by omega⟩)
        refine l_goto rfl rfl ?_
        refine l_return rfl rfl ?_
        have w62 : Xi U4 904 100 = Xi U2 904 100 := (show Xi U4 904 100 = Xi U2 904 100 from by rw [eU4]; exact Xi_ne (by omega))
        have w63 : 0 ≤ Xi U2 904 100 ∧ Xi U2 904 100 ≤ 2 := hHU2.c _ _
        have w64 : Xi U4 904 101 = Xi U1 904 101 := (show Xi U4 904 101 = Xi U2 904 101 from by rw [eU4]; exact Xi_ne (by omega)).trans ((show Xi U2 904 101 = Xi U1 904 101 from by rw [eU2]; exact Xi_ne (by omega)))
        have w65 : 0 ≤ Xi U1 904 101 ∧ Xi U1 904 101 ≤ 5010 := hHU1.c _ _
        have w66 : Xi U4 904 65 = Xi S 904 65 := (show Xi U4 904 65 = Xi U2 904 65 from by rw [eU4]; exact Xi_ne (by omega)).trans ( (show Xi U2 904 65 = Xi U1 904 65 from by rw [eU2]; exact Xi_ne (by omega)).trans ((show Xi U1 904 65 = Xi S 904 65 from by rw [eU1]; exact Xi_ne (by omega))))
        have w67 : 0 ≤ Xi S 904 65 ∧ Xi S 904 65 ≤ 1 := hH.c _ _
        have w68 : Xi U4 904 69 = Xi S 904 69 := (show Xi U4 904 69 = Xi U2 904 69 from by rw [eU4]; exact Xi_ne (by omega)).trans ( (show Xi U2 904 69 = Xi U1 904 69 from by rw [eU2]; exact Xi_ne (by omega)).trans ((show Xi U1 904 69 = Xi S 904 69 from by rw [eU1]; exact Xi_ne (by omega))))
        have w69 : 0 ≤ Xi S 904 69 ∧ Xi S 904 69 ≤ 2600 := hH.c _ _
        have w70 : 0 ≤ Xi U4 904 8 ∧ Xi U4 904 8 ≤ 5010 := hHU4.c _ _
        have w71 : Xi U4 904 93 = Xi S 904 93 := (show Xi U4 904 93 = Xi U2 904 93 from by rw [eU4]; exact Xi_ne (by omega)).trans ( (show Xi U2 904 93 = Xi U1 904 93 from by rw [eU2]; exact Xi_ne (by omega)).trans ((show Xi U1 904 93 = Xi S 904 93 from by rw [eU1]; exact Xi_ne (by omega))))
        have w72 : 0 ≤ Xi S 904 93 ∧ Xi S 904 93 ≤ 1700 := hH.c _ _
        have w73 : Xi U4 904 99 = Xi S 904 99 := (show Xi U4 904 99 = Xi U2 904 99 from by rw [eU4]; exact Xi_ne (by omega)).trans ( (show Xi U2 904 99 = Xi U1 904 99 from by rw [eU2]; exact Xi_ne (by omega)).trans ((show Xi U1 904 99 = Xi S 904 99 from by rw [eU1]; exact Xi_ne (by omega))))
        have w74 : 0 ≤ Xi S 904 99 ∧ Xi S 904 99 ≤ 2600 := hH.c _ _
        exact ⟨hHU4, hFU4, rfl, (by first | exact t30.1 | exact t102.1 | exact (by assumption : AT U4 _ _)), (by omega), (by first | assumption | exact (RNV_FR (FR_e eU4) rfl (RNV_FR (FR_e eU2) rfl (RNV_FR (FR_e eU1) rfl (by assumption : RNV S _))))), (by omega), (by omega), (by omega)⟩
    · refine l_aload_n rfl rfl ?_
      refine l_bipush rfl rfl ?_
      have w75 : Xi U1 904 100 = Xi S 904 100 := (show Xi U1 904 100 = Xi S 904 100 from by rw [eU1]; exact Xi_ne (by omega))
      have w76 : 0 ≤ Xi S 904 100 ∧ Xi S 904 100 ≤ 2 := hH.c _ _
      have w77 : 0 ≤ Xi U1 904 101 ∧ Xi U1 904 101 ≤ 5010 := hHU1.c _ _
      have w78 : Xi U1 904 65 = Xi S 904 65 := (show Xi U1 904 65 = Xi S 904 65 from by rw [eU1]; exact Xi_ne (by omega))
      have w79 : 0 ≤ Xi S 904 65 ∧ Xi S 904 65 ≤ 1 := hH.c _ _
      have w80 : Xi U1 904 69 = Xi S 904 69 := (show Xi U1 904 69 = Xi S 904 69 from by rw [eU1]; exact Xi_ne (by omega))
      have w81 : 0 ≤ Xi S 904 69 ∧ Xi S 904 69 ≤ 2600 := hH.c _ _
      have w82 : Xi U1 904 8 = Xi S 904 8 := (show Xi U1 904 8 = Xi S 904 8 from by rw [eU1]; exact Xi_ne (by omega))
      have w83 : 0 ≤ Xi S 904 8 ∧ Xi S 904 8 ≤ 5010 := hH.c _ _
      have w84 : Xi U1 904 93 = Xi S 904 93 := (show Xi U1 904 93 = Xi S 904 93 from by rw [eU1]; exact Xi_ne (by omega))
      have w85 : 0 ≤ Xi S 904 93 ∧ Xi S 904 93 ≤ 1700 := hH.c _ _
      have w86 : Xi U1 904 99 = Xi S 904 99 := (show Xi U1 904 99 = Xi S 904 99 from by rw [eU1]; exact Xi_ne (by omega))
      have w87 : 0 ≤ Xi S 904 99 ∧ Xi S 904 99 ≤ 2600 := hH.c _ _
      refine l_callV rfl rfl rfl (t_mo_isNext hHU1 n c 102 ⟨by omega, by omega⟩ (by first | assumption | exact (TK_FR hFU1 rfl (by assumption : TK S _))) (by first | assumption | exact (AT_FR (FR_e eU1) rfl (by assumption : AT S _ _))) _) ?_
      rintro _ _ ⟨rfl, z90, rfl, w90, w88, w89⟩
      show Rl _ _ _ _ _ [iv z90] _ _
      have i49 : z90 = 1 → Xi S 904 65 = 0 ∧ Xi S 907 (Xi S 904 8).toNat = 102 := fun q => by have t := (by assumption : z90 = 1 → Xi U1 904 65 = 0 ∧ Xi U1 907 (Xi U1 904 8).toNat = 102) q; rw [show Xi U1 904 8 = Xi S 904 8 by omega, (hFU1.cx 907 rfl _).1] at t; exact ⟨by omega, t.2⟩
      refine l_if_eq rfl rfl (by unfold rg; omega) (fun w91 => ?_) (fun w92 => ?_)
      · refine l_aload_n rfl rfl ?_
        refine l_iconst rfl ?_
        refine l_pfi rfl rfl rfl rfl ?_
        obtain ⟨U5, eU5⟩ : ∃ T : sS, T = uI U1 904 100 (Int32.ofInt 2) := ⟨_, rfl⟩
        rw [← eU5]
        have hHU5 : HI U5 := by rw [eU5]; exact HI_w hHU1 (show 0 ≤ 2 by omega) (show 2 ≤ 2 by omega)
        have hFU5 : FR md_mo_thing S U5 := by rw [eU5]; exact FR.wI hFU1 (mdf_i (r := (904, 905, 100, 101)) (List.mem_of_getElem? (i := 5) rfl) (inR_i (by omega) (by omega) (by omega) (by omega)))
        have w93 : Xi U5 904 100 = 2 := by rw [eU5]; exact Xi_same (by unfold rg; omega)
        refine l_aload_n rfl rfl ?_
        refine l_aload_n rfl rfl ?_
        have w94 : 0 ≤ Xi U5 904 100 ∧ Xi U5 904 100 ≤ 2 := hHU5.c _ _
        have w95 : Xi U5 904 101 = Xi U1 904 101 := (show Xi U5 904 101 = Xi U1 904 101 from by rw [eU5]; exact Xi_ne (by omega))
        have w96 : 0 ≤ Xi U1 904 101 ∧ Xi U1 904 101 ≤ 5010 := hHU1.c _ _
        have w97 : Xi U5 904 65 = Xi S 904 65 := (show Xi U5 904 65 = Xi U1 904 65 from by rw [eU5]; exact Xi_ne (by omega)).trans ((show Xi U1 904 65 = Xi S 904 65 from by rw [eU1]; exact Xi_ne (by omega)))
        have w98 : 0 ≤ Xi S 904 65 ∧ Xi S 904 65 ≤ 1 := hH.c _ _
        have w99 : Xi U5 904 69 = Xi S 904 69 := (show Xi U5 904 69 = Xi U1 904 69 from by rw [eU5]; exact Xi_ne (by omega)).trans ((show Xi U1 904 69 = Xi S 904 69 from by rw [eU1]; exact Xi_ne (by omega)))
        have w100 : 0 ≤ Xi S 904 69 ∧ Xi S 904 69 ≤ 2600 := hH.c _ _
        have w101 : Xi U5 904 8 = Xi S 904 8 := (show Xi U5 904 8 = Xi U1 904 8 from by rw [eU5]; exact Xi_ne (by omega)).trans ((show Xi U1 904 8 = Xi S 904 8 from by rw [eU1]; exact Xi_ne (by omega)))
        have w102 : 0 ≤ Xi S 904 8 ∧ Xi S 904 8 ≤ 5010 := hH.c _ _
        have w103 : Xi U5 904 93 = Xi S 904 93 := (show Xi U5 904 93 = Xi U1 904 93 from by rw [eU5]; exact Xi_ne (by omega)).trans ((show Xi U1 904 93 = Xi S 904 93 from by rw [eU1]; exact Xi_ne (by omega)))
        have w104 : 0 ≤ Xi S 904 93 ∧ Xi S 904 93 ≤ 1700 := hH.c _ _
        have w105 : Xi U5 904 99 = Xi S 904 99 := (show Xi U5 904 99 = Xi U1 904 99 from by rw [eU5]; exact Xi_ne (by omega)).trans ((show Xi U1 904 99 = Xi S 904 99 from by rw [eU1]; exact Xi_ne (by omega)))
        have w106 : 0 ≤ Xi S 904 99 ∧ Xi S 904 99 ≤ 2600 := hH.c _ _
        refine l_callV rfl rfl rfl (t_mo_name hHU5 n c (by first | assumption | exact (TK_FR hFU5 rfl (by assumption : TK S _))) (by first | assumption | exact (AT_FR (FR_e eU5) rfl (AT_FR (FR_e eU1) rfl (by assumption : AT S _ _)))) (by first | assumption | exact (RNV_FR (FR_e eU5) rfl (RNV_FR (FR_e eU1) rfl (by assumption : RNV S _)))) _) ?_
        rintro _ T6 ⟨hHT6, w113, z112, rfl, w112, w107, w108, w109, w110, w111⟩
        have hFT6 : FR md_mo_thing S T6 := FR.tr hFU5 w113 rfl
        show Rl _ _ _ _ _ [iv z112, .ref 904] _ _
        have q115 : Xi T6 904 65 = 0 → Xi T6 950 (z112).toNat ≤ n := fun q => by have t := (by assumption : RNV T6 n) (z112).toNat (by omega); omega
        refine l_pfi rfl rfl rfl rfl ?_
        obtain ⟨U7, eU7⟩ : ∃ T : sS, T = uI T6 904 99 (Int32.ofInt z112) := ⟨_, rfl⟩
        rw [← eU7]
        have hHU7 : HI U7 := by rw [eU7]; exact HI_w hHT6 (show 0 ≤ z112 by omega) (show z112 ≤ 2600 by omega)
        have hFU7 : FR md_mo_thing S U7 := by rw [eU7]; exact FR.wI hFT6 (mdf_i (r := (904, 905, 99, 100)) (List.mem_of_getElem? (i := 4) rfl) (inR_i (by omega) (by omega) (by omega) (by omega)))
        have w114 : Xi U7 904 99 = z112 := by rw [eU7]; exact Xi_same (by unfold rg; omega)
        have x118 : Xi U7 904 65 = Xi T6 904 65 := by rw [eU7, Xi_ne (by omega)]
        have q118 : Xi U7 904 65 = 0 → Xi U7 950 (Xi U7 904 99).toNat ≤ n := fun q => by rw [x118] at q; rw [eU7, Xi_ne (by omega), Xi_same (by unfold rg; omega)]; exact q115 q
        refine l_aload_n rfl rfl ?_
        refine l_aload_n rfl rfl ?_
        refine l_gfi rfl rfl rfl rfl rfl ?_
        have w115 : 0 ≤ (Xi U7 904 65) ∧ (Xi U7 904 65) ≤ 1 := hHU7.c _ _
        refine l_if_eq rfl rfl (by unfold rg; omega) (fun w116 => ?_) (fun w117 => ?_)
        · refine l_aload_n rfl rfl ?_
          refine l_gfr rfl rfl rfl rfl rfl (hHU7.r 904 67 950 rfl) ?_
          refine l_aload_n rfl rfl ?_
          refine l_gfi rfl rfl rfl rfl rfl ?_
          refine l_iaload (n := 2600) rfl rfl (by omega) (by omega) (by unfold rg; omega) ?_
          have w118 : 0 ≤ (Xi U7 950 (((Xi U7 904 99)).toNat)) ∧ (Xi U7 950 (((Xi U7 904 99)).toNat)) ≤ 5010 := hHU7.c _ _
          refine l_pfi rfl rfl rfl rfl ?_
          obtain ⟨U8, eU8⟩ : ∃ T : sS, T = uI U7 904 101 (Int32.ofInt (Xi U7 950 (((Xi U7 904 99)).toNat))) := ⟨_, rfl⟩
          rw [← eU8]
          have hHU8 : HI U8 := by rw [eU8]; exact HI_w hHU7 (show 0 ≤ (Xi U7 950 (((Xi U7 904 99)).toNat)) by omega) (show (Xi U7 950 (((Xi U7 904 99)).toNat)) ≤ 5010 by omega)
          have hFU8 : FR md_mo_thing S U8 := by rw [eU8]; exact FR.wI hFU7 (mdf_i (r := (904, 905, 101, 102)) (List.mem_of_getElem? (i := 6) rfl) (inR_i (by omega) (by omega) (by omega) (by omega)))
          have w119 : Xi U8 904 101 = (Xi U7 950 (((Xi U7 904 99)).toNat)) := by rw [eU8]; exact Xi_same (by unfold rg; omega)
          refine l_return rfl rfl ?_
          have w120 : Xi U8 904 100 = Xi U5 904 100 := (show Xi U8 904 100 = Xi U7 904 100 from by rw [eU8]; exact Xi_ne (by omega)).trans ( (show Xi U7 904 100 = Xi T6 904 100 from by rw [eU7]; exact Xi_ne (by omega)).trans ((show Xi T6 904 100 = Xi U5 904 100 from w113.x _ _ rfl)))
          have w121 : 0 ≤ Xi U5 904 100 ∧ Xi U5 904 100 ≤ 2 := hHU5.c _ _
          have w122 : 0 ≤ Xi U8 904 101 ∧ Xi U8 904 101 ≤ 5010 := hHU8.c _ _
          have w123 : Xi U8 904 65 = Xi T6 904 65 := (show Xi U8 904 65 = Xi U7 904 65 from by rw [eU8]; exact Xi_ne (by omega)).trans ((show Xi U7 904 65 = Xi T6 904 65 from by rw [eU7]; exact Xi_ne (by omega)))
          have w124 : 0 ≤ Xi T6 904 65 ∧ Xi T6 904 65 ≤ 1 := hHT6.c _ _
          have w125 : Xi U8 904 69 = Xi T6 904 69 := (show Xi U8 904 69 = Xi U7 904 69 from by rw [eU8]; exact Xi_ne (by omega)).trans ((show Xi U7 904 69 = Xi T6 904 69 from by rw [eU7]; exact Xi_ne (by omega)))
          have w126 : 0 ≤ Xi T6 904 69 ∧ Xi T6 904 69 ≤ 2600 := hHT6.c _ _
          have w127 : Xi U8 904 8 = Xi T6 904 8 := (show Xi U8 904 8 = Xi U7 904 8 from by rw [eU8]; exact Xi_ne (by omega)).trans ((show Xi U7 904 8 = Xi T6 904 8 from by rw [eU7]; exact Xi_ne (by omega)))
          have w128 : 0 ≤ Xi T6 904 8 ∧ Xi T6 904 8 ≤ 5010 := hHT6.c _ _
          have w129 : Xi U8 904 93 = Xi S 904 93 := (show Xi U8 904 93 = Xi U7 904 93 from by rw [eU8]; exact Xi_ne (by omega)).trans ( (show Xi U7 904 93 = Xi T6 904 93 from by rw [eU7]; exact Xi_ne (by omega)).trans ( (show Xi T6 904 93 = Xi U5 904 93 from w113.x _ _ rfl).trans ( (show Xi U5 904 93 = Xi U1 904 93 from by rw [eU5]; exact Xi_ne (by omega)).trans ((show Xi U1 904 93 = Xi S 904 93 from by rw [eU1]; exact Xi_ne (by omega))))))
          have w130 : 0 ≤ Xi S 904 93 ∧ Xi S 904 93 ≤ 1700 := hH.c _ _
          have w131 : Xi U8 904 99 = Xi U7 904 99 := (show Xi U8 904 99 = Xi U7 904 99 from by rw [eU8]; exact Xi_ne (by omega))
          have w132 : 0 ≤ Xi U7 904 99 ∧ Xi U7 904 99 ≤ 2600 := hHU7.c _ _
          exact ⟨hHU8, hFU8, rfl, (by first | exact t30.1 | exact t102.1 | exact (AT_FR (FR_e eU8) rfl (AT_FR (FR_e eU7) rfl (by assumption : AT T6 _ _)))), (by omega), (by first | assumption | exact (RNV_FR (FR_e eU8) rfl (RNV_FR (FR_e eU7) rfl (by assumption : RNV T6 _)))), (by omega), (by omega), (by omega)⟩
        · refine l_aload_n rfl rfl ?_
          refine l_gfi rfl rfl rfl rfl rfl ?_
          have w133 : 0 ≤ (Xi U7 904 8) ∧ (Xi U7 904 8) ≤ 5010 := hHU7.c _ _
          refine l_goto rfl rfl ?_
          refine l_pfi rfl rfl rfl rfl ?_
          obtain ⟨U9, eU9⟩ : ∃ T : sS, T = uI U7 904 101 (Int32.ofInt (Xi U7 904 8)) := ⟨_, rfl⟩
          rw [← eU9]
          have hHU9 : HI U9 := by rw [eU9]; exact HI_w hHU7 (show 0 ≤ (Xi U7 904 8) by omega) (show (Xi U7 904 8) ≤ 5010 by omega)
          have hFU9 : FR md_mo_thing S U9 := by rw [eU9]; exact FR.wI hFU7 (mdf_i (r := (904, 905, 101, 102)) (List.mem_of_getElem? (i := 6) rfl) (inR_i (by omega) (by omega) (by omega) (by omega)))
          have w134 : Xi U9 904 101 = (Xi U7 904 8) := by rw [eU9]; exact Xi_same (by unfold rg; omega)
          refine l_return rfl rfl ?_
          have w135 : Xi U9 904 100 = Xi U5 904 100 := (show Xi U9 904 100 = Xi U7 904 100 from by rw [eU9]; exact Xi_ne (by omega)).trans ( (show Xi U7 904 100 = Xi T6 904 100 from by rw [eU7]; exact Xi_ne (by omega)).trans ((show Xi T6 904 100 = Xi U5 904 100 from w113.x _ _ rfl)))
          have w136 : 0 ≤ Xi U5 904 100 ∧ Xi U5 904 100 ≤ 2 := hHU5.c _ _
          have w137 : 0 ≤ Xi U9 904 101 ∧ Xi U9 904 101 ≤ 5010 := hHU9.c _ _
          have w138 : Xi U9 904 65 = Xi T6 904 65 := (show Xi U9 904 65 = Xi U7 904 65 from by rw [eU9]; exact Xi_ne (by omega)).trans ((show Xi U7 904 65 = Xi T6 904 65 from by rw [eU7]; exact Xi_ne (by omega)))
          have w139 : 0 ≤ Xi T6 904 65 ∧ Xi T6 904 65 ≤ 1 := hHT6.c _ _
          have w140 : Xi U9 904 69 = Xi T6 904 69 := (show Xi U9 904 69 = Xi U7 904 69 from by rw [eU9]; exact Xi_ne (by omega)).trans ((show Xi U7 904 69 = Xi T6 904 69 from by rw [eU7]; exact Xi_ne (by omega)))
          have w141 : 0 ≤ Xi T6 904 69 ∧ Xi T6 904 69 ≤ 2600 := hHT6.c _ _
          have w142 : Xi U9 904 8 = Xi T6 904 8 := (show Xi U9 904 8 = Xi U7 904 8 from by rw [eU9]; exact Xi_ne (by omega)).trans ((show Xi U7 904 8 = Xi T6 904 8 from by rw [eU7]; exact Xi_ne (by omega)))
          have w143 : 0 ≤ Xi T6 904 8 ∧ Xi T6 904 8 ≤ 5010 := hHT6.c _ _
          have w144 : Xi U9 904 93 = Xi S 904 93 := (show Xi U9 904 93 = Xi U7 904 93 from by rw [eU9]; exact Xi_ne (by omega)).trans ( (show Xi U7 904 93 = Xi T6 904 93 from by rw [eU7]; exact Xi_ne (by omega)).trans ( (show Xi T6 904 93 = Xi U5 904 93 from w113.x _ _ rfl).trans ( (show Xi U5 904 93 = Xi U1 904 93 from by rw [eU5]; exact Xi_ne (by omega)).trans ((show Xi U1 904 93 = Xi S 904 93 from by rw [eU1]; exact Xi_ne (by omega))))))
          have w145 : 0 ≤ Xi S 904 93 ∧ Xi S 904 93 ≤ 1700 := hH.c _ _
          have w146 : Xi U9 904 99 = Xi U7 904 99 := (show Xi U9 904 99 = Xi U7 904 99 from by rw [eU9]; exact Xi_ne (by omega))
          have w147 : 0 ≤ Xi U7 904 99 ∧ Xi U7 904 99 ≤ 2600 := hHU7.c _ _
          exact ⟨hHU9, hFU9, rfl, (by first | exact t30.1 | exact t102.1 | exact (AT_FR (FR_e eU9) rfl (AT_FR (FR_e eU7) rfl (by assumption : AT T6 _ _)))), (by omega), (by first | assumption | exact (RNV_FR (FR_e eU9) rfl (RNV_FR (FR_e eU7) rfl (by assumption : RNV T6 _)))), (by omega), (by omega), (by omega)⟩
      · refine l_aload_n rfl rfl ?_
        refine l_gfr rfl rfl rfl rfl rfl (hHU1.r 904 4 907 rfl) ?_
        refine l_aload_n rfl rfl ?_
        refine l_gfi rfl rfl rfl rfl rfl ?_
        have w148 : (Xi U1 904 8) = (Xi S 904 8) := (show Xi U1 904 8 = Xi S 904 8 from by rw [eU1]; exact Xi_ne (by omega))
        rw [w148]
        refine l_iconst rfl ?_
        refine l_iadd rfl ?_
        refine l_iaload (n := 5002) rfl rfl (by omega) (by omega) (by unfold rg; omega) ?_
        have w149 : 0 ≤ (Xi U1 907 ((((Xi S 904 8) + 1)).toNat)) ∧ (Xi U1 907 ((((Xi S 904 8) + 1)).toNat)) ≤ 154 := hHU1.c _ _
        have e65 : (Xi U1 907 ((((Xi S 904 8) + 1)).toNat)) = Xi S 907 (Xi S 904 8 + 1).toNat := by first | rfl | exact (hFU1.cx 907 rfl _).1 | (rw [(hFU1.cx 907 rfl _).1, show Xi U1 904 8 = Xi S 904 8 by omega])
        refine l_sipush rfl rfl ?_
        refine l_icmp_ne rfl rfl (by unfold rg; omega) (by unfold rg; omega) (fun w150 => ?_) (fun w151 => ?_)
        · refine l_aload_n rfl rfl ?_
          refine l_iconst rfl ?_
          refine l_pfi rfl rfl rfl rfl ?_
          obtain ⟨U10, eU10⟩ : ∃ T : sS, T = uI U1 904 100 (Int32.ofInt 2) := ⟨_, rfl⟩
          rw [← eU10]
          have hHU10 : HI U10 := by rw [eU10]; exact HI_w hHU1 (show 0 ≤ 2 by omega) (show 2 ≤ 2 by omega)
          have hFU10 : FR md_mo_thing S U10 := by rw [eU10]; exact FR.wI hFU1 (mdf_i (r := (904, 905, 100, 101)) (List.mem_of_getElem? (i := 5) rfl) (inR_i (by omega) (by omega) (by omega) (by omega)))
          have w152 : Xi U10 904 100 = 2 := by rw [eU10]; exact Xi_same (by unfold rg; omega)
          refine l_aload_n rfl rfl ?_
          refine l_aload_n rfl rfl ?_
          have w153 : 0 ≤ Xi U10 904 100 ∧ Xi U10 904 100 ≤ 2 := hHU10.c _ _
          have w154 : Xi U10 904 101 = Xi U1 904 101 := (show Xi U10 904 101 = Xi U1 904 101 from by rw [eU10]; exact Xi_ne (by omega))
          have w155 : 0 ≤ Xi U1 904 101 ∧ Xi U1 904 101 ≤ 5010 := hHU1.c _ _
          have w156 : Xi U10 904 65 = Xi S 904 65 := (show Xi U10 904 65 = Xi U1 904 65 from by rw [eU10]; exact Xi_ne (by omega)).trans ((show Xi U1 904 65 = Xi S 904 65 from by rw [eU1]; exact Xi_ne (by omega)))
          have w157 : 0 ≤ Xi S 904 65 ∧ Xi S 904 65 ≤ 1 := hH.c _ _
          have w158 : Xi U10 904 69 = Xi S 904 69 := (show Xi U10 904 69 = Xi U1 904 69 from by rw [eU10]; exact Xi_ne (by omega)).trans ((show Xi U1 904 69 = Xi S 904 69 from by rw [eU1]; exact Xi_ne (by omega)))
          have w159 : 0 ≤ Xi S 904 69 ∧ Xi S 904 69 ≤ 2600 := hH.c _ _
          have w160 : Xi U10 904 8 = Xi S 904 8 := (show Xi U10 904 8 = Xi U1 904 8 from by rw [eU10]; exact Xi_ne (by omega)).trans ((show Xi U1 904 8 = Xi S 904 8 from by rw [eU1]; exact Xi_ne (by omega)))
          have w161 : 0 ≤ Xi S 904 8 ∧ Xi S 904 8 ≤ 5010 := hH.c _ _
          have w162 : Xi U10 904 93 = Xi S 904 93 := (show Xi U10 904 93 = Xi U1 904 93 from by rw [eU10]; exact Xi_ne (by omega)).trans ((show Xi U1 904 93 = Xi S 904 93 from by rw [eU1]; exact Xi_ne (by omega)))
          have w163 : 0 ≤ Xi S 904 93 ∧ Xi S 904 93 ≤ 1700 := hH.c _ _
          have w164 : Xi U10 904 99 = Xi S 904 99 := (show Xi U10 904 99 = Xi U1 904 99 from by rw [eU10]; exact Xi_ne (by omega)).trans ((show Xi U1 904 99 = Xi S 904 99 from by rw [eU1]; exact Xi_ne (by omega)))
          have w165 : 0 ≤ Xi S 904 99 ∧ Xi S 904 99 ≤ 2600 := hH.c _ _
          refine l_callV rfl rfl rfl (t_mo_name hHU10 n c (by first | assumption | exact (TK_FR hFU10 rfl (by assumption : TK S _))) (by first | assumption | exact (AT_FR (FR_e eU10) rfl (AT_FR (FR_e eU1) rfl (by assumption : AT S _ _)))) (by first | assumption | exact (RNV_FR (FR_e eU10) rfl (RNV_FR (FR_e eU1) rfl (by assumption : RNV S _)))) _) ?_
          rintro _ T11 ⟨hHT11, w172, z171, rfl, w171, w166, w167, w168, w169, w170⟩
          have hFT11 : FR md_mo_thing S T11 := FR.tr hFU10 w172 rfl
          show Rl _ _ _ _ _ [iv z171, .ref 904] _ _
          have q115 : Xi T11 904 65 = 0 → Xi T11 950 (z171).toNat ≤ n := fun q => by have t := (by assumption : RNV T11 n) (z171).toNat (by omega); omega
          refine l_pfi rfl rfl rfl rfl ?_
          obtain ⟨U12, eU12⟩ : ∃ T : sS, T = uI T11 904 99 (Int32.ofInt z171) := ⟨_, rfl⟩
          rw [← eU12]
          have hHU12 : HI U12 := by rw [eU12]; exact HI_w hHT11 (show 0 ≤ z171 by omega) (show z171 ≤ 2600 by omega)
          have hFU12 : FR md_mo_thing S U12 := by rw [eU12]; exact FR.wI hFT11 (mdf_i (r := (904, 905, 99, 100)) (List.mem_of_getElem? (i := 4) rfl) (inR_i (by omega) (by omega) (by omega) (by omega)))
          have w173 : Xi U12 904 99 = z171 := by rw [eU12]; exact Xi_same (by unfold rg; omega)
          have x118 : Xi U12 904 65 = Xi T11 904 65 := by rw [eU12, Xi_ne (by omega)]
          have q118 : Xi U12 904 65 = 0 → Xi U12 950 (Xi U12 904 99).toNat ≤ n := fun q => by rw [x118] at q; rw [eU12, Xi_ne (by omega), Xi_same (by unfold rg; omega)]; exact q115 q
          refine l_aload_n rfl rfl ?_
          refine l_aload_n rfl rfl ?_
          refine l_gfi rfl rfl rfl rfl rfl ?_
          have w174 : 0 ≤ (Xi U12 904 65) ∧ (Xi U12 904 65) ≤ 1 := hHU12.c _ _
          refine l_if_eq rfl rfl (by unfold rg; omega) (fun w175 => ?_) (fun w176 => ?_)
          · refine l_aload_n rfl rfl ?_
            refine l_gfr rfl rfl rfl rfl rfl (hHU12.r 904 67 950 rfl) ?_
            refine l_aload_n rfl rfl ?_
            refine l_gfi rfl rfl rfl rfl rfl ?_
            refine l_iaload (n := 2600) rfl rfl (by omega) (by omega) (by unfold rg; omega) ?_
            have w177 : 0 ≤ (Xi U12 950 (((Xi U12 904 99)).toNat)) ∧ (Xi U12 950 (((Xi U12 904 99)).toNat)) ≤ 5010 := hHU12.c _ _
            refine l_pfi rfl rfl rfl rfl ?_
            obtain ⟨U13, eU13⟩ : ∃ T : sS, T = uI U12 904 101 (Int32.ofInt (Xi U12 950 (((Xi U12 904 99)).toNat))) := ⟨_, rfl⟩
            rw [← eU13]
            have hHU13 : HI U13 := by rw [eU13]; exact HI_w hHU12 (show 0 ≤ (Xi U12 950 (((Xi U12 904 99)).toNat)) by omega) (show (Xi U12 950 (((Xi U12 904 99)).toNat)) ≤ 5010 by omega)
            have hFU13 : FR md_mo_thing S U13 := by rw [eU13]; exact FR.wI hFU12 (mdf_i (r := (904, 905, 101, 102)) (List.mem_of_getElem? (i := 6) rfl) (inR_i (by omega) (by omega) (by omega) (by omega)))
            have w178 : Xi U13 904 101 = (Xi U12 950 (((Xi U12 904 99)).toNat)) := by rw [eU13]; exact Xi_same (by unfold rg; omega)
            refine l_return rfl rfl ?_
            have w179 : Xi U13 904 100 = Xi U10 904 100 := (show Xi U13 904 100 = Xi U12 904 100 from by rw [eU13]; exact Xi_ne (by omega)).trans ( (show Xi U12 904 100 = Xi T11 904 100 from by rw [eU12]; exact Xi_ne (by omega)).trans ((show Xi T11 904 100 = Xi U10 904 100 from w172.x _ _ rfl)))
            have w180 : 0 ≤ Xi U10 904 100 ∧ Xi U10 904 100 ≤ 2 := hHU10.c _ _
            have w181 : 0 ≤ Xi U13 904 101 ∧ Xi U13 904 101 ≤ 5010 := hHU13.c _ _
            have w182 : Xi U13 904 65 = Xi T11 904 65 := (show Xi U13 904 65 = Xi U12 904 65 from by rw [eU13]; exact Xi_ne (by omega)).trans ((show Xi U12 904 65 = Xi T11 904 65 from by rw [eU12]; exact Xi_ne (by omega)))
            have w183 : 0 ≤ Xi T11 904 65 ∧ Xi T11 904 65 ≤ 1 := hHT11.c _ _
            have w184 : Xi U13 904 69 = Xi T11 904 69 := (show Xi U13 904 69 = Xi U12 904 69 from by rw [eU13]; exact Xi_ne (by omega)).trans ((show Xi U12 904 69 = Xi T11 904 69 from by rw [eU12]; exact Xi_ne (by omega)))
            have w185 : 0 ≤ Xi T11 904 69 ∧ Xi T11 904 69 ≤ 2600 := hHT11.c _ _
            have w186 : Xi U13 904 8 = Xi T11 904 8 := (show Xi U13 904 8 = Xi U12 904 8 from by rw [eU13]; exact Xi_ne (by omega)).trans ((show Xi U12 904 8 = Xi T11 904 8 from by rw [eU12]; exact Xi_ne (by omega)))
            have w187 : 0 ≤ Xi T11 904 8 ∧ Xi T11 904 8 ≤ 5010 := hHT11.c _ _
            have w188 : Xi U13 904 93 = Xi S 904 93 := (show Xi U13 904 93 = Xi U12 904 93 from by rw [eU13]; exact Xi_ne (by omega)).trans ( (show Xi U12 904 93 = Xi T11 904 93 from by rw [eU12]; exact Xi_ne (by omega)).trans ( (show Xi T11 904 93 = Xi U10 904 93 from w172.x _ _ rfl).trans ( (show Xi U10 904 93 = Xi U1 904 93 from by rw [eU10]; exact Xi_ne (by omega)).trans ((show Xi U1 904 93 = Xi S 904 93 from by rw [eU1]; exact Xi_ne (by omega))))))
            have w189 : 0 ≤ Xi S 904 93 ∧ Xi S 904 93 ≤ 1700 := hH.c _ _
            have w190 : Xi U13 904 99 = Xi U12 904 99 := (show Xi U13 904 99 = Xi U12 904 99 from by rw [eU13]; exact Xi_ne (by omega))
            have w191 : 0 ≤ Xi U12 904 99 ∧ Xi U12 904 99 ≤ 2600 := hHU12.c _ _
            exact ⟨hHU13, hFU13, rfl, (by first | exact t30.1 | exact t102.1 | exact (AT_FR (FR_e eU13) rfl (AT_FR (FR_e eU12) rfl (by assumption : AT T11 _ _)))), (by omega), (by first | assumption | exact (RNV_FR (FR_e eU13) rfl (RNV_FR (FR_e eU12) rfl (by assumption : RNV T11 _)))), (by omega), (by omega), (by omega)⟩
          · refine l_aload_n rfl rfl ?_
            refine l_gfi rfl rfl rfl rfl rfl ?_
            have w192 : 0 ≤ (Xi U12 904 8) ∧ (Xi U12 904 8) ≤ 5010 := hHU12.c _ _
            refine l_goto rfl rfl ?_
            refine l_pfi rfl rfl rfl rfl ?_
            obtain ⟨U14, eU14⟩ : ∃ T : sS, T = uI U12 904 101 (Int32.ofInt (Xi U12 904 8)) := ⟨_, rfl⟩
            rw [← eU14]
            have hHU14 : HI U14 := by rw [eU14]; exact HI_w hHU12 (show 0 ≤ (Xi U12 904 8) by omega) (show (Xi U12 904 8) ≤ 5010 by omega)
            have hFU14 : FR md_mo_thing S U14 := by rw [eU14]; exact FR.wI hFU12 (mdf_i (r := (904, 905, 101, 102)) (List.mem_of_getElem? (i := 6) rfl) (inR_i (by omega) (by omega) (by omega) (by omega)))
            have w193 : Xi U14 904 101 = (Xi U12 904 8) := by rw [eU14]; exact Xi_same (by unfold rg; omega)
            refine l_return rfl rfl ?_
            have w194 : Xi U14 904 100 = Xi U10 904 100 := (show Xi U14 904 100 = Xi U12 904 100 from by rw [eU14]; exact Xi_ne (by omega)).trans ( (show Xi U12 904 100 = Xi T11 904 100 from by rw [eU12]; exact Xi_ne (by omega)).trans ((show Xi T11 904 100 = Xi U10 904 100 from w172.x _ _ rfl)))
            have w195 : 0 ≤ Xi U10 904 100 ∧ Xi U10 904 100 ≤ 2 := hHU10.c _ _
            have w196 : 0 ≤ Xi U14 904 101 ∧ Xi U14 904 101 ≤ 5010 := hHU14.c _ _
            have w197 : Xi U14 904 65 = Xi T11 904 65 := (show Xi U14 904 65 = Xi U12 904 65 from by rw [eU14]; exact Xi_ne (by omega)).trans ((show Xi U12 904 65 = Xi T11 904 65 from by rw [eU12]; exact Xi_ne (by omega)))
            have w198 : 0 ≤ Xi T11 904 65 ∧ Xi T11 904 65 ≤ 1 := hHT11.c _ _
            have w199 : Xi U14 904 69 = Xi T11 904 69 := (show Xi U14 904 69 = Xi U12 904 69 from by rw [eU14]; exact Xi_ne (by omega)).trans ((show Xi U12 904 69 = Xi T11 904 69 from by rw [eU12]; exact Xi_ne (by omega)))
            have w200 : 0 ≤ Xi T11 904 69 ∧ Xi T11 904 69 ≤ 2600 := hHT11.c _ _
            have w201 : Xi U14 904 8 = Xi T11 904 8 := (show Xi U14 904 8 = Xi U12 904 8 from by rw [eU14]; exact Xi_ne (by omega)).trans ((show Xi U12 904 8 = Xi T11 904 8 from by rw [eU12]; exact Xi_ne (by omega)))
            have w202 : 0 ≤ Xi T11 904 8 ∧ Xi T11 904 8 ≤ 5010 := hHT11.c _ _
            have w203 : Xi U14 904 93 = Xi S 904 93 := (show Xi U14 904 93 = Xi U12 904 93 from by rw [eU14]; exact Xi_ne (by omega)).trans ( (show Xi U12 904 93 = Xi T11 904 93 from by rw [eU12]; exact Xi_ne (by omega)).trans ( (show Xi T11 904 93 = Xi U10 904 93 from w172.x _ _ rfl).trans ( (show Xi U10 904 93 = Xi U1 904 93 from by rw [eU10]; exact Xi_ne (by omega)).trans ((show Xi U1 904 93 = Xi S 904 93 from by rw [eU1]; exact Xi_ne (by omega))))))
            have w204 : 0 ≤ Xi S 904 93 ∧ Xi S 904 93 ≤ 1700 := hH.c _ _
            have w205 : Xi U14 904 99 = Xi U12 904 99 := (show Xi U14 904 99 = Xi U12 904 99 from by rw [eU14]; exact Xi_ne (by omega))
            have w206 : 0 ≤ Xi U12 904 99 ∧ Xi U12 904 99 ≤ 2600 := hHU12.c _ _
            exact ⟨hHU14, hFU14, rfl, (by first | exact t30.1 | exact t102.1 | exact (AT_FR (FR_e eU14) rfl (AT_FR (FR_e eU12) rfl (by assumption : AT T11 _ _)))), (by omega), (by first | assumption | exact (RNV_FR (FR_e eU14) rfl (RNV_FR (FR_e eU12) rfl (by assumption : RNV T11 _)))), (by omega), (by omega), (by omega)⟩
        · refine l_aload_n rfl rfl ?_
          refine l_iconst rfl ?_
          refine l_pfi rfl rfl rfl rfl ?_
          obtain ⟨U15, eU15⟩ : ∃ T : sS, T = uI U1 904 100 (Int32.ofInt 1) := ⟨_, rfl⟩
          rw [← eU15]
          have hHU15 : HI U15 := by rw [eU15]; exact HI_w hHU1 (show 0 ≤ 1 by omega) (show 1 ≤ 2 by omega)
          have hFU15 : FR md_mo_thing S U15 := by rw [eU15]; exact FR.wI hFU1 (mdf_i (r := (904, 905, 100, 101)) (List.mem_of_getElem? (i := 5) rfl) (inR_i (by omega) (by omega) (by omega) (by omega)))
          have w207 : Xi U15 904 100 = 1 := by rw [eU15]; exact Xi_same (by unfold rg; omega)
          refine l_aload_n rfl rfl ?_
          refine l_dup rfl rfl ?_
          refine l_gfi rfl rfl rfl rfl rfl ?_
          have w208 : (Xi U15 904 8) = (Xi S 904 8) := (show Xi U15 904 8 = Xi U1 904 8 from by rw [eU15]; exact Xi_ne (by omega)).trans ((show Xi U1 904 8 = Xi S 904 8 from by rw [eU1]; exact Xi_ne (by omega)))
          rw [w208]
          refine l_aload_n rfl rfl ?_
          refine l_gfr rfl rfl rfl rfl rfl (hHU15.r 904 4 907 rfl) ?_
          refine l_aload_n rfl rfl ?_
          refine l_gfi rfl rfl rfl rfl rfl ?_
          have w209 : (Xi U15 904 8) = (Xi S 904 8) := (show Xi U15 904 8 = Xi U1 904 8 from by rw [eU15]; exact Xi_ne (by omega)).trans ((show Xi U1 904 8 = Xi S 904 8 from by rw [eU1]; exact Xi_ne (by omega)))
          rw [w209]
          refine l_iaload (n := 5002) rfl rfl (by omega) (by omega) (by unfold rg; omega) ?_
          have w210 : 0 ≤ (Xi U15 907 (((Xi S 904 8)).toNat)) ∧ (Xi U15 907 (((Xi S 904 8)).toNat)) ≤ 154 := hHU15.c _ _
          have e90 : (Xi U15 907 (((Xi S 904 8)).toNat)) = Xi S 907 (Xi S 904 8).toNat := by first | rfl | exact (hFU15.cx 907 rfl _).1 | (rw [(hFU15.cx 907 rfl _).1, show Xi U15 904 8 = Xi S 904 8 by omega])
          refine l_bipush rfl rfl ?_
          refine l_icmp_ne rfl rfl (by unfold rg; omega) (by unfold rg; omega) (fun w211 => ?_) (fun w212 => ?_)
          · refine l_iconst rfl ?_
            refine l_iadd rfl ?_
            refine l_pfi rfl rfl rfl rfl ?_
            obtain ⟨U16, eU16⟩ : ∃ T : sS, T = uI U15 904 8 (Int32.ofInt ((Xi S 904 8) + 1)) := ⟨_, rfl⟩
            rw [← eU16]
            have hHU16 : HI U16 := by rw [eU16]; exact HI_w hHU15 (show 0 ≤ ((Xi S 904 8) + 1) by omega) (show ((Xi S 904 8) + 1) ≤ 5010 by omega)
            have hFU16 : FR md_mo_thing S U16 := by rw [eU16]; exact FR.wI hFU15 (mdf_i (r := (904, 905, 8, 9)) (List.mem_of_getElem? (i := 0) rfl) (inR_i (by omega) (by omega) (by omega) (by omega)))
            have w213 : Xi U16 904 8 = ((Xi S 904 8) + 1) := by rw [eU16]; exact Xi_same (by unfold rg; omega)
            have t102 : AT U16 n c ∧ Xi S 904 8 < Xi U16 904 8 ∧ Xi U16 904 8 ≤ n := by first | (have t := (at_mv (S := S) (P := U15) (TK_FR hF rfl (by assumption : TK S _)) (by first | assumption | exact (by assumption : AT S _ _)) (fun j => ((FR_e eU15).cx 907 rfl j).1.trans (((FR_e eU1).cx 907 rfl j).1)) (fun j => ((FR_e eU15).cx 908 rfl j).1.trans (((FR_e eU1).cx 908 rfl j).1)) ((show Xi U15 904 8 = Xi U1 904 8 from by rw [eU15]; exact Xi_ne (by omega)).trans ((show Xi U1 904 8 = Xi S 904 8 from by rw [eU1]; exact Xi_ne (by omega)))) ((show Xi U15 904 65 = Xi U1 904 65 from by rw [eU15]; exact Xi_ne (by omega)).trans ((show Xi U1 904 65 = Xi S 904 65 from by rw [eU1]; exact Xi_ne (by omega)))) ((show Xi U15 904 69 = Xi U1 904 69 from by rw [eU15]; exact Xi_ne (by omega)).trans ((show Xi U1 904 69 = Xi S 904 69 from by rw [eU1]; exact Xi_ne (by omega)))) ((show Xi U15 904 93 = Xi U1 904 93 from by rw [eU15]; exact Xi_ne (by omega)).trans ((show Xi U1 904 93 = Xi S 904 93 from by rw [eU1]; exact Xi_ne (by omega)))) eU16 (by omega) (by omega) (by omega) (by omega) (Or.inl rfl)); exact ⟨t.1, by omega, by omega⟩) | (have t := (at_mv2 (S := S) (P := U15) (TK_FR hF rfl (by assumption : TK S _)) (by first | assumption | exact (by assumption : AT S _ _)) (fun j => ((FR_e eU15).cx 907 rfl j).1.trans (((FR_e eU1).cx 907 rfl j).1)) (fun j => ((FR_e eU15).cx 908 rfl j).1.trans (((FR_e eU1).cx 908 rfl j).1)) ((show Xi U15 904 8 = Xi U1 904 8 from by rw [eU15]; exact Xi_ne (by omega)).trans ((show Xi U1 904 8 = Xi S 904 8 from by rw [eU1]; exact Xi_ne (by omega)))) ((show Xi U15 904 65 = Xi U1 904 65 from by rw [eU15]; exact Xi_ne (by omega)).trans ((show Xi U1 904 65 = Xi S 904 65 from by rw [eU1]; exact Xi_ne (by omega)))) ((show Xi U15 904 69 = Xi U1 904 69 from by rw [eU15]; exact Xi_ne (by omega)).trans ((show Xi U1 904 69 = Xi S 904 69 from by rw [eU1]; exact Xi_ne (by omega)))) ((show Xi U15 904 93 = Xi U1 904 93 from by rw [eU15]; exact Xi_ne (by omega)).trans ((show Xi U1 904 93 = Xi S 904 93 from by rw [eU1]; exact Xi_ne (by omega)))) eU16 (by omega) (by omega) (by omega) (by omega) (by omega)); exact ⟨t.1, by omega, by omega⟩)
            refine l_goto rfl rfl ?_
            refine l_return rfl rfl ?_
            have w214 : Xi U16 904 100 = Xi U15 904 100 := (show Xi U16 904 100 = Xi U15 904 100 from by rw [eU16]; exact Xi_ne (by omega))
            have w215 : 0 ≤ Xi U15 904 100 ∧ Xi U15 904 100 ≤ 2 := hHU15.c _ _
            have w216 : Xi U16 904 101 = Xi U1 904 101 := (show Xi U16 904 101 = Xi U15 904 101 from by rw [eU16]; exact Xi_ne (by omega)).trans ((show Xi U15 904 101 = Xi U1 904 101 from by rw [eU15]; exact Xi_ne (by omega)))
            have w217 : 0 ≤ Xi U1 904 101 ∧ Xi U1 904 101 ≤ 5010 := hHU1.c _ _
            have w218 : Xi U16 904 65 = Xi S 904 65 := (show Xi U16 904 65 = Xi U15 904 65 from by rw [eU16]; exact Xi_ne (by omega)).trans ( (show Xi U15 904 65 = Xi U1 904 65 from by rw [eU15]; exact Xi_ne (by omega)).trans ((show Xi U1 904 65 = Xi S 904 65 from by rw [eU1]; exact Xi_ne (by omega))))
            have w219 : 0 ≤ Xi S 904 65 ∧ Xi S 904 65 ≤ 1 := hH.c _ _
            have w220 : Xi U16 904 69 = Xi S 904 69 := (show Xi U16 904 69 = Xi U15 904 69 from by rw [eU16]; exact Xi_ne (by omega)).trans ( (show Xi U15 904 69 = Xi U1 904 69 from by rw [eU15]; exact Xi_ne (by omega)).trans ((show Xi U1 904 69 = Xi S 904 69 from by rw [eU1]; exact Xi_ne (by omega))))
            have w221 : 0 ≤ Xi S 904 69 ∧ Xi S 904 69 ≤ 2600 := hH.c _ _
            have w222 : 0 ≤ Xi U16 904 8 ∧ Xi U16 904 8 ≤ 5010 := hHU16.c _ _
            have w223 : Xi U16 904 93 = Xi S 904 93 := (show Xi U16 904 93 = Xi U15 904 93 from by rw [eU16]; exact Xi_ne (by omega)).trans ( (show Xi U15 904 93 = Xi U1 904 93 from by rw [eU15]; exact Xi_ne (by omega)).trans ((show Xi U1 904 93 = Xi S 904 93 from by rw [eU1]; exact Xi_ne (by omega))))
            have w224 : 0 ≤ Xi S 904 93 ∧ Xi S 904 93 ≤ 1700 := hH.c _ _
            have w225 : Xi U16 904 99 = Xi S 904 99 := (show Xi U16 904 99 = Xi U15 904 99 from by rw [eU16]; exact Xi_ne (by omega)).trans ( (show Xi U15 904 99 = Xi U1 904 99 from by rw [eU15]; exact Xi_ne (by omega)).trans ((show Xi U1 904 99 = Xi S 904 99 from by rw [eU1]; exact Xi_ne (by omega))))
            have w226 : 0 ≤ Xi S 904 99 ∧ Xi S 904 99 ≤ 2600 := hH.c _ _
            exact ⟨hHU16, hFU16, rfl, (by first | exact t30.1 | exact t102.1 | exact (by assumption : AT U16 _ _)), (by omega), (by first | assumption | exact (RNV_FR (FR_e eU16) rfl (RNV_FR (FR_e eU15) rfl (RNV_FR (FR_e eU1) rfl (by assumption : RNV S _))))), (by omega), (by omega), (by omega)⟩
          · refine l_iconst rfl ?_
            refine l_goto rfl rfl ?_
            refine l_iadd rfl ?_
            refine l_pfi rfl rfl rfl rfl ?_
            obtain ⟨U17, eU17⟩ : ∃ T : sS, T = uI U15 904 8 (Int32.ofInt ((Xi S 904 8) + 2)) := ⟨_, rfl⟩
            rw [← eU17]
            have hHU17 : HI U17 := by rw [eU17]; exact HI_w hHU15 (show 0 ≤ ((Xi S 904 8) + 2) by omega) (show ((Xi S 904 8) + 2) ≤ 5010 by omega)
            have hFU17 : FR md_mo_thing S U17 := by rw [eU17]; exact FR.wI hFU15 (mdf_i (r := (904, 905, 8, 9)) (List.mem_of_getElem? (i := 0) rfl) (inR_i (by omega) (by omega) (by omega) (by omega)))
            have w227 : Xi U17 904 8 = ((Xi S 904 8) + 2) := by rw [eU17]; exact Xi_same (by unfold rg; omega)
            have t102 : AT U17 n c ∧ Xi S 904 8 < Xi U17 904 8 ∧ Xi U17 904 8 ≤ n := by first | (have t := (at_mv (S := S) (P := U15) (TK_FR hF rfl (by assumption : TK S _)) (by first | assumption | exact (by assumption : AT S _ _)) (fun j => ((FR_e eU15).cx 907 rfl j).1.trans (((FR_e eU1).cx 907 rfl j).1)) (fun j => ((FR_e eU15).cx 908 rfl j).1.trans (((FR_e eU1).cx 908 rfl j).1)) ((show Xi U15 904 8 = Xi U1 904 8 from by rw [eU15]; exact Xi_ne (by omega)).trans ((show Xi U1 904 8 = Xi S 904 8 from by rw [eU1]; exact Xi_ne (by omega)))) ((show Xi U15 904 65 = Xi U1 904 65 from by rw [eU15]; exact Xi_ne (by omega)).trans ((show Xi U1 904 65 = Xi S 904 65 from by rw [eU1]; exact Xi_ne (by omega)))) ((show Xi U15 904 69 = Xi U1 904 69 from by rw [eU15]; exact Xi_ne (by omega)).trans ((show Xi U1 904 69 = Xi S 904 69 from by rw [eU1]; exact Xi_ne (by omega)))) ((show Xi U15 904 93 = Xi U1 904 93 from by rw [eU15]; exact Xi_ne (by omega)).trans ((show Xi U1 904 93 = Xi S 904 93 from by rw [eU1]; exact Xi_ne (by omega)))) eU17 (by omega) (by omega) (by omega) (by omega) (Or.inl rfl)); exact ⟨t.1, by omega, by omega⟩) | (have t := (at_mv2 (S := S) (P := U15) (TK_FR hF rfl (by assumption : TK S _)) (by first | assumption | exact (by assumption : AT S _ _)) (fun j => ((FR_e eU15).cx 907 rfl j).1.trans (((FR_e eU1).cx 907 rfl j).1)) (fun j => ((FR_e eU15).cx 908 rfl j).1.trans (((FR_e eU1).cx 908 rfl j).1)) ((show Xi U15 904 8 = Xi U1 904 8 from by rw [eU15]; exact Xi_ne (by omega)).trans ((show Xi U1 904 8 = Xi S 904 8 from by rw [eU1]; exact Xi_ne (by omega)))) ((show Xi U15 904 65 = Xi U1 904 65 from by rw [eU15]; exact Xi_ne (by omega)).trans ((show Xi U1 904 65 = Xi S 904 65 from by rw [eU1]; exact Xi_ne (by omega)))) ((show Xi U15 904 69 = Xi U1 904 69 from by rw [eU15]; exact Xi_ne (by omega)).trans ((show Xi U1 904 69 = Xi S 904 69 from by rw [eU1]; exact Xi_ne (by omega)))) ((show Xi U15 904 93 = Xi U1 904 93 from by rw [eU15]; exact Xi_ne (by omega)).trans ((show Xi U1 904 93 = Xi S 904 93 from by rw [eU1]; exact Xi_ne (by omega)))) eU17 (by omega) (by omega) (by omega) (by omega) (by omega)); exact ⟨t.1, by omega, by omega⟩)
            refine l_goto rfl rfl ?_
            refine l_return rfl rfl ?_
            have w228 : Xi U17 904 100 = Xi U15 904 100 := (show Xi U17 904 100 = Xi U15 904 100 from by rw [eU17]; exact Xi_ne (by omega))
            have w229 : 0 ≤ Xi U15 904 100 ∧ Xi U15 904 100 ≤ 2 := hHU15.c _ _
            have w230 : Xi U17 904 101 = Xi U1 904 101 := (show Xi U17 904 101 = Xi U15 904 101 from by rw [eU17]; exact Xi_ne (by omega)).trans ((show Xi U15 904 101 = Xi U1 904 101 from by rw [eU15]; exact Xi_ne (by omega)))
            have w231 : 0 ≤ Xi U1 904 101 ∧ Xi U1 904 101 ≤ 5010 := hHU1.c _ _
            have w232 : Xi U17 904 65 = Xi S 904 65 := (show Xi U17 904 65 = Xi U15 904 65 from by rw [eU17]; exact Xi_ne (by omega)).trans ( (show Xi U15 904 65 = Xi U1 904 65 from by rw [eU15]; exact Xi_ne (by omega)).trans ((show Xi U1 904 65 = Xi S 904 65 from by rw [eU1]; exact Xi_ne (by omega))))
            have w233 : 0 ≤ Xi S 904 65 ∧ Xi S 904 65 ≤ 1 := hH.c _ _
            have w234 : Xi U17 904 69 = Xi S 904 69 := (show Xi U17 904 69 = Xi U15 904 69 from by rw [eU17]; exact Xi_ne (by omega)).trans ( (show Xi U15 904 69 = Xi U1 904 69 from by rw [eU15]; exact Xi_ne (by omega)).trans ((show Xi U1 904 69 = Xi S 904 69 from by rw [eU1]; exact Xi_ne (by omega))))
            have w235 : 0 ≤ Xi S 904 69 ∧ Xi S 904 69 ≤ 2600 := hH.c _ _
            have w236 : 0 ≤ Xi U17 904 8 ∧ Xi U17 904 8 ≤ 5010 := hHU17.c _ _
            have w237 : Xi U17 904 93 = Xi S 904 93 := (show Xi U17 904 93 = Xi U15 904 93 from by rw [eU17]; exact Xi_ne (by omega)).trans ( (show Xi U15 904 93 = Xi U1 904 93 from by rw [eU15]; exact Xi_ne (by omega)).trans ((show Xi U1 904 93 = Xi S 904 93 from by rw [eU1]; exact Xi_ne (by omega))))
            have w238 : 0 ≤ Xi S 904 93 ∧ Xi S 904 93 ≤ 1700 := hH.c _ _
            have w239 : Xi U17 904 99 = Xi S 904 99 := (show Xi U17 904 99 = Xi U15 904 99 from by rw [eU17]; exact Xi_ne (by omega)).trans ( (show Xi U15 904 99 = Xi U1 904 99 from by rw [eU15]; exact Xi_ne (by omega)).trans ((show Xi U1 904 99 = Xi S 904 99 from by rw [eU1]; exact Xi_ne (by omega))))
            have w240 : 0 ≤ Xi S 904 99 ∧ Xi S 904 99 ≤ 2600 := hH.c _ _
            exact ⟨hHU17, hFU17, rfl, (by first | exact t30.1 | exact t102.1 | exact (by assumption : AT U17 _ _)), (by omega), (by first | assumption | exact (RNV_FR (FR_e eU17) rfl (RNV_FR (FR_e eU15) rfl (RNV_FR (FR_e eU1) rfl (by assumption : RNV S _))))), (by omega), (by omega), (by omega)⟩
  · refine l_aload_n rfl rfl ?_
    refine l_iconst rfl ?_
    refine l_pfi rfl rfl rfl rfl ?_
    obtain ⟨U18, eU18⟩ : ∃ T : sS, T = uI U1 904 100 (Int32.ofInt 0) := ⟨_, rfl⟩
    rw [← eU18]
    have hHU18 : HI U18 := by rw [eU18]; exact HI_w hHU1 (show 0 ≤ 0 by omega) (show 0 ≤ 2 by omega)
    have hFU18 : FR md_mo_thing S U18 := by rw [eU18]; exact FR.wI hFU1 (mdf_i (r := (904, 905, 100, 101)) (List.mem_of_getElem? (i := 5) rfl) (inR_i (by omega) (by omega) (by omega) (by omega)))
    have w241 : Xi U18 904 100 = 0 := by rw [eU18]; exact Xi_same (by unfold rg; omega)
    refine l_aload_n rfl rfl ?_
    refine l_dup rfl rfl ?_
    refine l_gfi rfl rfl rfl rfl rfl ?_
    have w242 : (Xi U18 904 8) = (Xi S 904 8) := (show Xi U18 904 8 = Xi U1 904 8 from by rw [eU18]; exact Xi_ne (by omega)).trans ((show Xi U1 904 8 = Xi S 904 8 from by rw [eU1]; exact Xi_ne (by omega)))
    rw [w242]
    refine l_iconst rfl ?_
    refine l_iadd rfl ?_
    refine l_pfi rfl rfl rfl rfl ?_
    obtain ⟨U19, eU19⟩ : ∃ T : sS, T = uI U18 904 8 (Int32.ofInt ((Xi S 904 8) + 1)) := ⟨_, rfl⟩
    rw [← eU19]
    have hHU19 : HI U19 := by rw [eU19]; exact HI_w hHU18 (show 0 ≤ ((Xi S 904 8) + 1) by omega) (show ((Xi S 904 8) + 1) ≤ 5010 by omega)
    have hFU19 : FR md_mo_thing S U19 := by rw [eU19]; exact FR.wI hFU18 (mdf_i (r := (904, 905, 8, 9)) (List.mem_of_getElem? (i := 0) rfl) (inR_i (by omega) (by omega) (by omega) (by omega)))
    have w243 : Xi U19 904 8 = ((Xi S 904 8) + 1) := by rw [eU19]; exact Xi_same (by unfold rg; omega)
    have t30 : AT U19 n c ∧ _ := (at_mv (S := S) (P := U18) (TK_FR hF rfl (by assumption : TK S _)) (by first | assumption | exact (by assumption : AT S _ _)) (fun j => ((FR_e eU18).cx 907 rfl j).1.trans (((FR_e eU1).cx 907 rfl j).1)) (fun j => ((FR_e eU18).cx 908 rfl j).1.trans (((FR_e eU1).cx 908 rfl j).1)) ((show Xi U18 904 8 = Xi U1 904 8 from by rw [eU18]; exact Xi_ne (by omega)).trans ((show Xi U1 904 8 = Xi S 904 8 from by rw [eU1]; exact Xi_ne (by omega)))) ((show Xi U18 904 65 = Xi U1 904 65 from by rw [eU18]; exact Xi_ne (by omega)).trans ((show Xi U1 904 65 = Xi S 904 65 from by rw [eU1]; exact Xi_ne (by omega)))) ((show Xi U18 904 69 = Xi U1 904 69 from by rw [eU18]; exact Xi_ne (by omega)).trans ((show Xi U1 904 69 = Xi S 904 69 from by rw [eU1]; exact Xi_ne (by omega)))) ((show Xi U18 904 93 = Xi U1 904 93 from by rw [eU18]; exact Xi_ne (by omega)).trans ((show Xi U1 904 93 = Xi S 904 93 from by rw [eU1]; exact Xi_ne (by omega)))) eU19 (by omega) (by omega) (by omega) (by omega) (Or.inl rfl))
    refine l_goto rfl rfl ?_
    refine l_return rfl rfl ?_
    have w244 : Xi U19 904 100 = Xi U18 904 100 := (show Xi U19 904 100 = Xi U18 904 100 from by rw [eU19]; exact Xi_ne (by omega))
    have w245 : 0 ≤ Xi U18 904 100 ∧ Xi U18 904 100 ≤ 2 := hHU18.c _ _
    have w246 : Xi U19 904 101 = Xi U1 904 101 := (show Xi U19 904 101 = Xi U18 904 101 from by rw [eU19]; exact Xi_ne (by omega)).trans ((show Xi U18 904 101 = Xi U1 904 101 from by rw [eU18]; exact Xi_ne (by omega)))
    have w247 : 0 ≤ Xi U1 904 101 ∧ Xi U1 904 101 ≤ 5010 := hHU1.c _ _
    have w248 : Xi U19 904 65 = Xi S 904 65 := (show Xi U19 904 65 = Xi U18 904 65 from by rw [eU19]; exact Xi_ne (by omega)).trans ( (show Xi U18 904 65 = Xi U1 904 65 from by rw [eU18]; exact Xi_ne (by omega)).trans ((show Xi U1 904 65 = Xi S 904 65 from by rw [eU1]; exact Xi_ne (by omega))))
    have w249 : 0 ≤ Xi S 904 65 ∧ Xi S 904 65 ≤ 1 := hH.c _ _
    have w250 : Xi U19 904 69 = Xi S 904 69 := (show Xi U19 904 69 = Xi U18 904 69 from by rw [eU19]; exact Xi_ne (by omega)).trans ( (show Xi U18 904 69 = Xi U1 904 69 from by rw [eU18]; exact Xi_ne (by omega)).trans ((show Xi U1 904 69 = Xi S 904 69 from by rw [eU1]; exact Xi_ne (by omega))))
    have w251 : 0 ≤ Xi S 904 69 ∧ Xi S 904 69 ≤ 2600 := hH.c _ _
    have w252 : 0 ≤ Xi U19 904 8 ∧ Xi U19 904 8 ≤ 5010 := hHU19.c _ _
    have w253 : Xi U19 904 93 = Xi S 904 93 := (show Xi U19 904 93 = Xi U18 904 93 from by rw [eU19]; exact Xi_ne (by omega)).trans ( (show Xi U18 904 93 = Xi U1 904 93 from by rw [eU18]; exact Xi_ne (by omega)).trans ((show Xi U1 904 93 = Xi S 904 93 from by rw [eU1]; exact Xi_ne (by omega))))
    have w254 : 0 ≤ Xi S 904 93 ∧ Xi S 904 93 ≤ 1700 := hH.c _ _
    have w255 : Xi U19 904 99 = Xi S 904 99 := (show Xi U19 904 99 = Xi U18 904 99 from by rw [eU19]; exact Xi_ne (by omega)).trans ( (show Xi U18 904 99 = Xi U1 904 99 from by rw [eU18]; exact Xi_ne (by omega)).trans ((show Xi U1 904 99 = Xi S 904 99 from by rw [eU1]; exact Xi_ne (by omega))))
    have w256 : 0 ≤ Xi S 904 99 ∧ Xi S 904 99 ≤ 2600 := hH.c _ _
    exact ⟨hHU19, hFU19, rfl, (by first | exact t30.1 | exact t102.1 | exact (by assumption : AT U19 _ _)), (by omega), (by first | assumption | exact (RNV_FR (FR_e eU19) rfl (RNV_FR (FR_e eU18) rfl (RNV_FR (FR_e eU1) rfl (by assumption : RNV S _))))), (by omega), (by omega), (by omega)⟩
def md_mo_property : List rec := [(904, 905, 8, 9), (904, 905, 65, 66), (904, 905, 66, 67), (904, 905, 69, 70), (950, 951, 0, 100000), (951, 952, 0, 100000), (956, 957, 0, 100000)]
abbrev Q_mo_property (S : sS) (n : Nat) (c : Nat) : pst := fun r S1 => HI S1 ∧ FR md_mo_property S S1 ∧ (r = none ∧ (AT S1 n c) ∧ (Xi S 904 8 ≤ Xi S1 904 8 ∧ (Xi S1 904 8 ≤ n ∨ Xi S1 904 8 = Xi S 904 8)) ∧ (RNV S1 n) ∧ (Xi S1 904 65 = 0 → Xi S 904 65 = 0) ∧ (Xi S 904 69 ≤ Xi S1 904 69) ∧ (KT S1 S (Xi S 904 93)) ∧ (Xi S1 904 65 = 0 → Xi S1 956 (Xi S 904 93).toNat < Xi S1 904 69))
set_option maxRecDepth 100000 in
theorem t_mo_property {S : sS} (hH : HI S) (n : Nat) (c : Nat) (hT : TK S n) (hA : AT S n c) (hv : RNV S n) (tc : Xi S 904 93 ≤ 1699) (d : Nat) : Mt lay0 (d + 3) m_mo_property [.ref 904] S (Q_mo_property S n c) := by
  refine Mt_R rfl rfl ?_
  have hF : FR md_mo_property S S := FR.rf
  have w1 : 0 ≤ Xi S 904 65 ∧ Xi S 904 65 ≤ 1 := hH.c _ _
  have w2 : 0 ≤ Xi S 904 69 ∧ Xi S 904 69 ≤ 2600 := hH.c _ _
  have w3 : 0 ≤ Xi S 904 8 ∧ Xi S 904 8 ≤ 5010 := hH.c _ _
  have w4 : 0 ≤ Xi S 904 93 ∧ Xi S 904 93 ≤ 1700 := hH.c _ _
  have hn5 := hT.1
  have hat := hA
  have h8 : 0 ≤ Xi S 904 8 ∧ Xi S 904 8 ≤ 5010 := hH.c _ _
  have h69 : 0 ≤ Xi S 904 69 ∧ Xi S 904 69 ≤ 2600 := hH.c _ _
  have ha0 : Xi S 904 65 = 0 → Xi S 904 8 ≤ n := fun q => (hA q).1
  have ha3 : Xi S 904 65 = 0 → 2 * Xi S 904 69 ≤ Xi S 904 8 + 1 := fun q => (hA q).2.1
  clear hat
  refine l_aload_n rfl rfl ?_
  refine l_bipush rfl rfl ?_
  have w5 : 0 ≤ Xi S 904 65 ∧ Xi S 904 65 ≤ 1 := hH.c _ _
  have w6 : 0 ≤ Xi S 904 69 ∧ Xi S 904 69 ≤ 2600 := hH.c _ _
  have w7 : 0 ≤ Xi S 904 8 ∧ Xi S 904 8 ≤ 5010 := hH.c _ _
  have w8 : 0 ≤ Xi S 904 93 ∧ Xi S 904 93 ≤ 1700 := hH.c _ _
  refine l_callV rfl rfl rfl (t_mo_take__2 hH n c 102 ⟨by omega, by omega⟩ (by first | assumption | exact (TK_FR hF rfl (by assumption : TK S _))) (by first | assumption | exact (by assumption : AT S _ _)) (by first | assumption | omega) _) ?_
  rintro _ T1 ⟨hHT1, w14, rfl, w9, w10, w11, w12⟩
  have hFT1 : FR md_mo_property S T1 := FR.tr hF w14 rfl
  show Rl _ _ _ _ _ [] _ _
  refine l_aload_n rfl rfl ?_
  refine l_gfr rfl rfl rfl rfl rfl (hHT1.r 904 86 956 rfl) ?_
  refine l_aload_n rfl rfl ?_
  refine l_gfi rfl rfl rfl rfl rfl ?_
  have w15 : (Xi T1 904 93) = (Xi S 904 93) := (show Xi T1 904 93 = Xi S 904 93 from w14.x _ _ rfl)
  rw [w15]
  refine l_aload_n rfl rfl ?_
  have w16 : 0 ≤ Xi T1 904 65 ∧ Xi T1 904 65 ≤ 1 := hHT1.c _ _
  have w17 : Xi T1 904 69 = Xi S 904 69 := (show Xi T1 904 69 = Xi S 904 69 from w14.x _ _ rfl)
  have w18 : 0 ≤ Xi S 904 69 ∧ Xi S 904 69 ≤ 2600 := hH.c _ _
  have w19 : 0 ≤ Xi T1 904 8 ∧ Xi T1 904 8 ≤ 5010 := hHT1.c _ _
  have w20 : Xi T1 904 93 = Xi S 904 93 := (show Xi T1 904 93 = Xi S 904 93 from w14.x _ _ rfl)
  have w21 : 0 ≤ Xi S 904 93 ∧ Xi S 904 93 ≤ 1700 := hH.c _ _
  refine l_callV rfl rfl rfl (t_mo_run hHT1 n c (by first | assumption | exact (TK_FR hFT1 rfl (by assumption : TK S _))) (by first | assumption | exact (by assumption : AT T1 _ _)) (by first | assumption | exact (RNV_FR w14 rfl (by assumption : RNV S _))) _) ?_
  rintro _ T2 ⟨hHT2, w28, z27, rfl, w27, w22, w23, w24, w25, w26⟩
  have hFT2 : FR md_mo_property S T2 := FR.tr hFT1 w28 rfl
  show Rl _ _ _ _ _ [iv z27, iv (Xi S 904 93), .ref 956] _ _
  refine l_iastore (n := 1700) rfl rfl (by omega) (by omega) (by unfold rg; omega) ?_
  obtain ⟨U3, eU3⟩ : ∃ T : sS, T = uI T2 956 (((Xi S 904 93)).toNat) (Int32.ofInt z27) := ⟨_, rfl⟩
  rw [← eU3]
  have hHU3 : HI U3 := by rw [eU3]; exact HI_w hHT2 (show 0 ≤ z27 by omega) (show z27 ≤ 2600 by omega)
  have hFU3 : FR md_mo_property S U3 := by rw [eU3]; exact FR.wI hFT2 (mdf_i (r := (956, 957, 0, 100000)) (List.mem_of_getElem? (i := 6) rfl) (inR_i (by omega) (by omega) (by omega) (by omega)))
  have w29 : Xi U3 956 (((Xi S 904 93)).toNat) = z27 := by rw [eU3]; exact Xi_same (by unfold rg; omega)
  refine l_aload_n rfl rfl ?_
  refine l_bipush rfl rfl ?_
  have w30 : Xi U3 904 65 = Xi T2 904 65 := (show Xi U3 904 65 = Xi T2 904 65 from by rw [eU3]; exact Xi_ne (by omega))
  have w31 : 0 ≤ Xi T2 904 65 ∧ Xi T2 904 65 ≤ 1 := hHT2.c _ _
  have w32 : Xi U3 904 69 = Xi T2 904 69 := (show Xi U3 904 69 = Xi T2 904 69 from by rw [eU3]; exact Xi_ne (by omega))
  have w33 : 0 ≤ Xi T2 904 69 ∧ Xi T2 904 69 ≤ 2600 := hHT2.c _ _
  have w34 : Xi U3 904 8 = Xi T2 904 8 := (show Xi U3 904 8 = Xi T2 904 8 from by rw [eU3]; exact Xi_ne (by omega))
  have w35 : 0 ≤ Xi T2 904 8 ∧ Xi T2 904 8 ≤ 5010 := hHT2.c _ _
  have w36 : Xi U3 904 93 = Xi S 904 93 := (show Xi U3 904 93 = Xi T2 904 93 from by rw [eU3]; exact Xi_ne (by omega)).trans ( (show Xi T2 904 93 = Xi T1 904 93 from w28.x _ _ rfl).trans ((show Xi T1 904 93 = Xi S 904 93 from w14.x _ _ rfl)))
  have w37 : 0 ≤ Xi S 904 93 ∧ Xi S 904 93 ≤ 1700 := hH.c _ _
  refine l_callV rfl rfl rfl (t_mo_take__2 hHU3 n c 107 ⟨by omega, by omega⟩ (by first | assumption | exact (TK_FR hFU3 rfl (by assumption : TK S _))) (by first | assumption | exact (AT_FR (FR_e eU3) rfl (by assumption : AT T2 _ _))) (by first | assumption | omega) _) ?_
  rintro _ T4 ⟨hHT4, w43, rfl, w38, w39, w40, w41⟩
  have hFT4 : FR md_mo_property S T4 := FR.tr hFU3 w43 rfl
  show Rl _ _ _ _ _ [] _ _
  refine l_return rfl rfl ?_
  have w44 : Xi T4 956 (Xi S 904 93).toNat = Xi U3 956 (Xi S 904 93).toNat := (show Xi T4 956 (Xi S 904 93).toNat = Xi U3 956 (Xi S 904 93).toNat from (w43.cx 956 rfl _).1)
  have w45 : 0 ≤ Xi T4 904 65 ∧ Xi T4 904 65 ≤ 1 := hHT4.c _ _
  have w46 : Xi T4 904 69 = Xi T2 904 69 := (show Xi T4 904 69 = Xi U3 904 69 from w43.x _ _ rfl).trans ((show Xi U3 904 69 = Xi T2 904 69 from by rw [eU3]; exact Xi_ne (by omega)))
  have w47 : 0 ≤ Xi T2 904 69 ∧ Xi T2 904 69 ≤ 2600 := hHT2.c _ _
  have w48 : 0 ≤ Xi T4 904 8 ∧ Xi T4 904 8 ≤ 5010 := hHT4.c _ _
  have w49 : Xi T4 904 93 = Xi S 904 93 := (show Xi T4 904 93 = Xi U3 904 93 from w43.x _ _ rfl).trans ( (show Xi U3 904 93 = Xi T2 904 93 from by rw [eU3]; exact Xi_ne (by omega)).trans ( (show Xi T2 904 93 = Xi T1 904 93 from w28.x _ _ rfl).trans ((show Xi T1 904 93 = Xi S 904 93 from w14.x _ _ rfl))))
  have w50 : 0 ≤ Xi S 904 93 ∧ Xi S 904 93 ≤ 1700 := hH.c _ _
  exact ⟨hHT4, hFT4, rfl, (by first | assumption | exact (by assumption : AT T4 _ _)), (by omega), (by first | assumption | exact (RNV_FR w43 rfl (RNV_FR (FR_e eU3) rfl (by assumption : RNV T2 _)))), (by omega), (by omega), ((KT_FR w43 rfl (KT.w (KT_FR w28 rfl (KT_FR w14 rfl KT.rf)) eU3 (by omega)))), (by omega)⟩
def md_mo_thingOfTest : List rec := [(904, 905, 8, 9), (904, 905, 65, 66), (904, 905, 66, 67), (904, 905, 69, 70), (904, 905, 99, 100), (904, 905, 100, 101), (904, 905, 101, 102), (950, 951, 0, 100000), (951, 952, 0, 100000), (954, 955, 0, 100000), (955, 956, 0, 100000)]
abbrev Q_mo_thingOfTest (S : sS) (n : Nat) (c : Nat) : pst := fun r S1 => HI S1 ∧ FR md_mo_thingOfTest S S1 ∧ (r = none ∧ (AT S1 n c) ∧ (Xi S 904 8 ≤ Xi S1 904 8 ∧ (Xi S1 904 8 ≤ n ∨ Xi S1 904 8 = Xi S 904 8)) ∧ (RNV S1 n) ∧ (Xi S1 904 65 = 0 → Xi S 904 65 = 0) ∧ (Xi S 904 69 ≤ Xi S1 904 69) ∧ (KT S1 S (Xi S 904 93)) ∧ (Xi S1 904 65 = 0 → THV (Xi S1 904 69) n (Xi S1 954 (Xi S 904 93).toNat) (Xi S1 955 (Xi S 904 93).toNat)))
set_option maxRecDepth 100000 in
theorem t_mo_thingOfTest {S : sS} (hH : HI S) (n : Nat) (c : Nat) (hT : TK S n) (hA : AT S n c) (hv : RNV S n) (tc : Xi S 904 93 ≤ 1699) (d : Nat) : Mt lay0 (d + 5) m_mo_thingOfTest [.ref 904] S (Q_mo_thingOfTest S n c) := by
  refine Mt_R rfl rfl ?_
  have hF : FR md_mo_thingOfTest S S := FR.rf
  have w1 : 0 ≤ Xi S 904 65 ∧ Xi S 904 65 ≤ 1 := hH.c _ _
  have w2 : 0 ≤ Xi S 904 69 ∧ Xi S 904 69 ≤ 2600 := hH.c _ _
  have w3 : 0 ≤ Xi S 904 8 ∧ Xi S 904 8 ≤ 5010 := hH.c _ _
  have w4 : 0 ≤ Xi S 904 93 ∧ Xi S 904 93 ≤ 1700 := hH.c _ _
  have hn5 := hT.1
  have hat := hA
  have h8 : 0 ≤ Xi S 904 8 ∧ Xi S 904 8 ≤ 5010 := hH.c _ _
  have h69 : 0 ≤ Xi S 904 69 ∧ Xi S 904 69 ≤ 2600 := hH.c _ _
  have ha0 : Xi S 904 65 = 0 → Xi S 904 8 ≤ n := fun q => (hA q).1
  have ha3 : Xi S 904 65 = 0 → 2 * Xi S 904 69 ≤ Xi S 904 8 + 1 := fun q => (hA q).2.1
  clear hat
  refine l_aload_n rfl rfl ?_
  have w5 : 0 ≤ Xi S 904 100 ∧ Xi S 904 100 ≤ 2 := hH.c _ _
  have w6 : 0 ≤ Xi S 904 101 ∧ Xi S 904 101 ≤ 5010 := hH.c _ _
  have w7 : 0 ≤ Xi S 904 65 ∧ Xi S 904 65 ≤ 1 := hH.c _ _
  have w8 : 0 ≤ Xi S 904 69 ∧ Xi S 904 69 ≤ 2600 := hH.c _ _
  have w9 : 0 ≤ Xi S 904 8 ∧ Xi S 904 8 ≤ 5010 := hH.c _ _
  have w10 : 0 ≤ Xi S 904 93 ∧ Xi S 904 93 ≤ 1700 := hH.c _ _
  have w11 : 0 ≤ Xi S 904 99 ∧ Xi S 904 99 ≤ 2600 := hH.c _ _
  refine l_callV rfl rfl rfl (t_mo_thing hH n c (by first | assumption | exact (TK_FR hF rfl (by assumption : TK S _))) (by first | assumption | exact (by assumption : AT S _ _)) (by first | assumption | exact (by assumption : RNV S _)) _) ?_
  rintro _ T1 ⟨hHT1, w19, rfl, w12, w13, w14, w15, w16, w17⟩
  have hFT1 : FR md_mo_thingOfTest S T1 := FR.tr hF w19 rfl
  show Rl _ _ _ _ _ [] _ _
  refine l_aload_n rfl rfl ?_
  refine l_gfr rfl rfl rfl rfl rfl (hHT1.r 904 84 954 rfl) ?_
  refine l_aload_n rfl rfl ?_
  refine l_gfi rfl rfl rfl rfl rfl ?_
  have w20 : (Xi T1 904 93) = (Xi S 904 93) := (show Xi T1 904 93 = Xi S 904 93 from w19.x _ _ rfl)
  rw [w20]
  refine l_aload_n rfl rfl ?_
  refine l_gfi rfl rfl rfl rfl rfl ?_
  have w21 : 0 ≤ (Xi T1 904 100) ∧ (Xi T1 904 100) ≤ 2 := hHT1.c _ _
  refine l_sipush rfl rfl ?_
  refine l_imul rfl ?_
  refine l_aload_n rfl rfl ?_
  refine l_gfi rfl rfl rfl rfl rfl ?_
  have w22 : 0 ≤ (Xi T1 904 101) ∧ (Xi T1 904 101) ≤ 5010 := hHT1.c _ _
  refine l_iadd rfl ?_
  refine l_iastore (n := 1700) rfl rfl (by omega) (by omega) (by unfold rg; omega) ?_
  obtain ⟨U2, eU2⟩ : ∃ T : sS, T = uI T1 954 (((Xi S 904 93)).toNat) (Int32.ofInt (((Xi T1 904 100) * 10000) + (Xi T1 904 101))) := ⟨_, rfl⟩
  rw [← eU2]
  have hHU2 : HI U2 := by rw [eU2]; exact HI_w hHT1 (show 0 ≤ (((Xi T1 904 100) * 10000) + (Xi T1 904 101)) by omega) (show (((Xi T1 904 100) * 10000) + (Xi T1 904 101)) ≤ 25010 by omega)
  have hFU2 : FR md_mo_thingOfTest S U2 := by rw [eU2]; exact FR.wI hFT1 (mdf_i (r := (954, 955, 0, 100000)) (List.mem_of_getElem? (i := 9) rfl) (inR_i (by omega) (by omega) (by omega) (by omega)))
  have w23 : Xi U2 954 (((Xi S 904 93)).toNat) = (((Xi T1 904 100) * 10000) + (Xi T1 904 101)) := by rw [eU2]; exact Xi_same (by unfold rg; omega)
  refine l_aload_n rfl rfl ?_
  refine l_gfr rfl rfl rfl rfl rfl (hHU2.r 904 85 955 rfl) ?_
  refine l_aload_n rfl rfl ?_
  refine l_gfi rfl rfl rfl rfl rfl ?_
  have w24 : (Xi U2 904 93) = (Xi S 904 93) := (show Xi U2 904 93 = Xi T1 904 93 from by rw [eU2]; exact Xi_ne (by omega)).trans ((show Xi T1 904 93 = Xi S 904 93 from w19.x _ _ rfl))
  rw [w24]
  refine l_aload_n rfl rfl ?_
  refine l_gfi rfl rfl rfl rfl rfl ?_
  have w25 : 0 ≤ (Xi U2 904 99) ∧ (Xi U2 904 99) ≤ 2600 := hHU2.c _ _
  have e35 : (Xi U2 904 99) = Xi T1 904 99 := by rw [eU2]; exact Xi_ne (by omega)
  refine l_iastore (n := 1700) rfl rfl (by omega) (by omega) (by unfold rg; omega) ?_
  obtain ⟨U3, eU3⟩ : ∃ T : sS, T = uI U2 955 (((Xi S 904 93)).toNat) (Int32.ofInt (Xi U2 904 99)) := ⟨_, rfl⟩
  rw [← eU3]
  have hHU3 : HI U3 := by rw [eU3]; exact HI_w hHU2 (show 0 ≤ (Xi U2 904 99) by omega) (show (Xi U2 904 99) ≤ 2600 by omega)
  have hFU3 : FR md_mo_thingOfTest S U3 := by rw [eU3]; exact FR.wI hFU2 (mdf_i (r := (955, 956, 0, 100000)) (List.mem_of_getElem? (i := 10) rfl) (inR_i (by omega) (by omega) (by omega) (by omega)))
  have w26 : Xi U3 955 (((Xi S 904 93)).toNat) = (Xi U2 904 99) := by rw [eU3]; exact Xi_same (by unfold rg; omega)
  refine l_return rfl rfl ?_
  have w27 : Xi U3 954 (Xi S 904 93).toNat = Xi U2 954 (Xi S 904 93).toNat := (show Xi U3 954 (Xi S 904 93).toNat = Xi U2 954 (Xi S 904 93).toNat from by rw [eU3]; exact Xi_ne (by omega))
  have w28 : Xi U3 904 100 = Xi T1 904 100 := (show Xi U3 904 100 = Xi U2 904 100 from by rw [eU3]; exact Xi_ne (by omega)).trans ((show Xi U2 904 100 = Xi T1 904 100 from by rw [eU2]; exact Xi_ne (by omega)))
  have w29 : 0 ≤ Xi T1 904 100 ∧ Xi T1 904 100 ≤ 2 := hHT1.c _ _
  have w30 : Xi U3 904 101 = Xi T1 904 101 := (show Xi U3 904 101 = Xi U2 904 101 from by rw [eU3]; exact Xi_ne (by omega)).trans ((show Xi U2 904 101 = Xi T1 904 101 from by rw [eU2]; exact Xi_ne (by omega)))
  have w31 : 0 ≤ Xi T1 904 101 ∧ Xi T1 904 101 ≤ 5010 := hHT1.c _ _
  have w32 : Xi U3 904 65 = Xi T1 904 65 := (show Xi U3 904 65 = Xi U2 904 65 from by rw [eU3]; exact Xi_ne (by omega)).trans ((show Xi U2 904 65 = Xi T1 904 65 from by rw [eU2]; exact Xi_ne (by omega)))
  have w33 : 0 ≤ Xi T1 904 65 ∧ Xi T1 904 65 ≤ 1 := hHT1.c _ _
  have w34 : Xi U3 904 69 = Xi T1 904 69 := (show Xi U3 904 69 = Xi U2 904 69 from by rw [eU3]; exact Xi_ne (by omega)).trans ((show Xi U2 904 69 = Xi T1 904 69 from by rw [eU2]; exact Xi_ne (by omega)))
  have w35 : 0 ≤ Xi T1 904 69 ∧ Xi T1 904 69 ≤ 2600 := hHT1.c _ _
  have w36 : Xi U3 904 8 = Xi T1 904 8 := (show Xi U3 904 8 = Xi U2 904 8 from by rw [eU3]; exact Xi_ne (by omega)).trans ((show Xi U2 904 8 = Xi T1 904 8 from by rw [eU2]; exact Xi_ne (by omega)))
  have w37 : 0 ≤ Xi T1 904 8 ∧ Xi T1 904 8 ≤ 5010 := hHT1.c _ _
  have w38 : Xi U3 904 93 = Xi S 904 93 := (show Xi U3 904 93 = Xi U2 904 93 from by rw [eU3]; exact Xi_ne (by omega)).trans ( (show Xi U2 904 93 = Xi T1 904 93 from by rw [eU2]; exact Xi_ne (by omega)).trans ((show Xi T1 904 93 = Xi S 904 93 from w19.x _ _ rfl)))
  have w39 : 0 ≤ Xi S 904 93 ∧ Xi S 904 93 ≤ 1700 := hH.c _ _
  have w40 : Xi U3 904 99 = Xi T1 904 99 := (show Xi U3 904 99 = Xi U2 904 99 from by rw [eU3]; exact Xi_ne (by omega)).trans ((show Xi U2 904 99 = Xi T1 904 99 from by rw [eU2]; exact Xi_ne (by omega)))
  have w41 : 0 ≤ Xi T1 904 99 ∧ Xi T1 904 99 ≤ 2600 := hHT1.c _ _
  exact ⟨hHU3, hFU3, rfl, (by first | assumption | exact (AT_FR (FR_e eU3) rfl (AT_FR (FR_e eU2) rfl (by assumption : AT T1 _ _)))), (by omega), (by first | assumption | exact (RNV_FR (FR_e eU3) rfl (RNV_FR (FR_e eU2) rfl (by assumption : RNV T1 _)))), (by omega), (by omega), ((KT.w (KT.w (KT_FR w19 rfl KT.rf) eU2 (by omega)) eU3 (by omega))), (fun q => thv_i (s := Xi U3 904 100) (t := Xi U3 904 101) (r := Xi U3 904 99) (by omega) (by omega) (by omega) (by omega) (by omega) (by omega) (by omega))⟩
abbrev Q_mo_beginsOf__2 (S : sS) (n : Nat) (t : Int) : pst := fun r S1 => S = S1 ∧ (∃ z : Int, r = some (iv z) ∧ (0 ≤ z ∧ z ≤ 1) ∧ (z = 1 → Xi S 907 t.toNat = 102))
set_option maxRecDepth 100000 in
theorem t_mo_beginsOf__2 {S : sS} (hH : HI S) (n : Nat) (t : Int) (ht : 0 ≤ t ∧ t ≤ 5001) (hT : TK S n) (ht : t ≤ n) (d : Nat) : Mt lay0 (d + 1) m_mo_beginsOf [.ref 904, iv t] S (Q_mo_beginsOf__2 S n t) := by
  refine Mt_R rfl rfl ?_
  have hn5 := hT.1
  have C17 : ∀ (n17 : Nat) (v2 : Int), (1 ≤ v2 ∧ v2 ≤ 5001) → (t < v2) → (v2 ≤ n) → (Xi S 907 t.toNat = 102) → n17 = (5002 - v2).toNat → Rl lay0 (d + 0) m_mo_beginsOf 17 [(0, .ref 904), (1, iv t), (2, iv v2)] [] S (Q_mo_beginsOf__2 S n t) := by
    intro n17
    induction n17 using Nat.strongRecOn with
    | ind n17 ih17 =>
      intro v2 w1 w2 w3 w4 hm17
      refine l_aload_n rfl rfl ?_
      refine l_gfr rfl rfl rfl rfl rfl (hH.r 904 4 907 rfl) ?_
      refine l_iload_n rfl rfl ?_
      refine l_iaload (n := 5002) rfl rfl (by omega) (by omega) (by unfold rg; omega) ?_
      have w5 : 0 ≤ (Xi S 907 ((v2).toNat)) ∧ (Xi S 907 ((v2).toNat)) ≤ 154 := hH.c _ _
      have u22 : (Xi S 907 ((v2).toNat)) = 3 → v2 < n := fun q => tk_lt hT (by omega) (by omega) (by omega)
      refine l_iconst rfl ?_
      refine l_icmp_ne rfl rfl (by unfold rg; omega) (by unfold rg; omega) (fun w6 => ?_) (fun w7 => ?_)
      · refine l_iload_n rfl rfl ?_
        refine l_iload_n rfl rfl ?_
        refine l_iconst rfl ?_
        refine l_iadd rfl ?_
        refine l_icmp_le rfl rfl (by unfold rg; omega) (by unfold rg; omega) (fun w8 => ?_) (fun w9 => ?_)
        · refine l_iconst rfl ?_
          refine l_ireturn rfl rfl ?_
          exact ⟨rfl, _, rfl, ⟨by omega, by omega⟩, (by omega)⟩
        · refine l_aload_n rfl rfl ?_
          refine l_gfr rfl rfl rfl rfl rfl (hH.r 904 4 907 rfl) ?_
          refine l_iload_n rfl rfl ?_
          refine l_iaload (n := 5002) rfl rfl (by omega) (by omega) (by unfold rg; omega) ?_
          refine l_bipush rfl rfl ?_
          refine l_icmp_ne rfl rfl (by unfold rg; omega) (by unfold rg; omega) (fun w10 => ?_) (fun w11 => ?_)
          · refine l_iconst rfl ?_
            refine l_ireturn rfl rfl ?_
            exact ⟨rfl, _, rfl, ⟨by omega, by omega⟩, (by omega)⟩
          · refine l_iconst rfl ?_
            refine l_goto rfl rfl ?_
            refine l_ireturn rfl rfl ?_
            exact ⟨rfl, _, rfl, ⟨by omega, by omega⟩, (by omega)⟩
      · refine l_iinc rfl rfl rfl rfl ?_
        refine l_goto rfl rfl ?_
        exact Rl_weak (ih17 _ (by omega) ((v2 + 1)) (by omega) (by omega) (by omega) (by omega) rfl) (And.intro rfl (And.intro rfl (And.intro rfl (True.intro))))
  refine l_iload_n rfl rfl ?_
  refine l_iconst rfl ?_
  refine l_iadd rfl ?_
  refine l_istore_n rfl rfl rfl ?_
  refine l_aload_n rfl rfl ?_
  refine l_gfr rfl rfl rfl rfl rfl (hH.r 904 4 907 rfl) ?_
  refine l_iload_n rfl rfl ?_
  refine l_iaload (n := 5002) rfl rfl (by omega) (by omega) (by unfold rg; omega) ?_
  have w12 : 0 ≤ (Xi S 907 ((t).toNat)) ∧ (Xi S 907 ((t).toNat)) ≤ 154 := hH.c _ _
  have u9 : (Xi S 907 ((t).toNat)) = 102 → t < n := fun q => tk_lt hT (by omega) ht (by omega)
  refine l_bipush rfl rfl ?_
  refine l_icmp_eq rfl rfl (by unfold rg; omega) (by unfold rg; omega) (fun w13 => ?_) (fun w14 => ?_)
  · exact Rl_weak (C17 _ ((t + 1)) (by omega) (by omega) (by omega) (by omega) rfl) (And.intro rfl (And.intro rfl (And.intro rfl (True.intro))))
  · refine l_iconst rfl ?_
    refine l_ireturn rfl rfl ?_
    exact ⟨rfl, _, rfl, ⟨by omega, by omega⟩, (by omega)⟩
abbrev Q_mo_oddOf (S : sS) (n : Nat) (first : Int) : pst := fun r S1 => S = S1 ∧ (∃ z : Int, r = some (iv z) ∧ (-1 ≤ z ∧ z ≤ 5001) ∧ (z ≠ -1 → z ≤ n))
set_option maxRecDepth 100000 in
theorem t_mo_oddOf {S : sS} (hH : HI S) (n : Nat) (first : Int) (hfirst : 0 ≤ first ∧ first ≤ 5001) (hT : TK S n) (ht : first ≤ n) (d : Nat) : Mt lay0 (d + 1) m_mo_oddOf [.ref 904, iv first] S (Q_mo_oddOf S n first) := by
  refine Mt_R rfl rfl ?_
  have hn5 := hT.1
  have C14 : ∀ (n14 : Nat) (v2 : Int), (0 ≤ v2 ∧ v2 ≤ 5001) → (first ≤ v2) → (v2 ≤ n) → n14 = (5002 - v2).toNat → Rl lay0 (d + 0) m_mo_oddOf 14 [(0, .ref 904), (2, iv v2)] [] S (Q_mo_oddOf S n first) := by
    intro n14
    induction n14 using Nat.strongRecOn with
    | ind n14 ih14 =>
      intro v2 w1 w2 w3 hm14
      have C51 : ∀  (v2 : Int), (0 ≤ v2 ∧ v2 ≤ 5001) → (first ≤ v2) → (v2 ≤ n) → Rl lay0 (d + 0) m_mo_oddOf 51 [(0, .ref 904), (2, iv v2)] [] S (Q_mo_oddOf S n first) := by
        intro v2 w4 w5 w6
        refine l_aload_n rfl rfl ?_
        refine l_gfr rfl rfl rfl rfl rfl (hH.r 904 4 907 rfl) ?_
        refine l_iload_n rfl rfl ?_
        refine l_iaload (n := 5002) rfl rfl (by omega) (by omega) (by unfold rg; omega) ?_
        have w7 : 0 ≤ (Xi S 907 ((v2).toNat)) ∧ (Xi S 907 ((v2).toNat)) ≤ 154 := hH.c _ _
        refine l_iconst rfl ?_
        refine l_icmp_ne rfl rfl (by unfold rg; omega) (by unfold rg; omega) (fun w8 => ?_) (fun w9 => ?_)
        · refine l_iconst rfl ?_
          refine l_ireturn rfl rfl ?_
          exact ⟨rfl, _, rfl, ⟨by omega, by omega⟩, (by first | assumption | omega)⟩
        · refine l_iload_n rfl rfl ?_
          refine l_goto rfl rfl ?_
          refine l_ireturn rfl rfl ?_
          exact ⟨rfl, _, rfl, ⟨by omega, by omega⟩, (by first | assumption | omega)⟩
      refine l_aload_n rfl rfl ?_
      refine l_gfr rfl rfl rfl rfl rfl (hH.r 904 4 907 rfl) ?_
      refine l_iload_n rfl rfl ?_
      refine l_iaload (n := 5002) rfl rfl (by omega) (by omega) (by unfold rg; omega) ?_
      have w10 : 0 ≤ (Xi S 907 ((v2).toNat)) ∧ (Xi S 907 ((v2).toNat)) ≤ 154 := hH.c _ _
      refine l_bipush rfl rfl ?_
      refine l_icmp_eq rfl rfl (by unfold rg; omega) (by unfold rg; omega) (fun w11 => ?_) (fun w12 => ?_)
      · exact Rl_weak (C51 (v2) (by omega) (by omega) (by omega)) (And.intro rfl (And.intro rfl (True.intro)))
      · refine l_aload_n rfl rfl ?_
        refine l_gfr rfl rfl rfl rfl rfl (hH.r 904 4 907 rfl) ?_
        refine l_iload_n rfl rfl ?_
        refine l_iaload (n := 5002) rfl rfl (by omega) (by omega) (by unfold rg; omega) ?_
        have u30 : (Xi S 907 ((v2).toNat)) ≠ 1 → v2 < n := fun q => tk_lt hT (by omega) (by omega) q
        refine l_iconst rfl ?_
        refine l_icmp_eq rfl rfl (by unfold rg; omega) (by unfold rg; omega) (fun w13 => ?_) (fun w14 => ?_)
        · exact Rl_weak (C51 (v2) (by omega) (by omega) (by omega)) (And.intro rfl (And.intro rfl (True.intro)))
        · refine l_aload_n rfl rfl ?_
          refine l_gfr rfl rfl rfl rfl rfl (hH.r 904 4 907 rfl) ?_
          refine l_iload_n rfl rfl ?_
          refine l_iaload (n := 5002) rfl rfl (by omega) (by omega) (by unfold rg; omega) ?_
          refine l_iconst rfl ?_
          refine l_icmp_eq rfl rfl (by unfold rg; omega) (by unfold rg; omega) (fun w15 => ?_) (fun w16 => ?_)
          · exact Rl_weak (C51 (v2) (by omega) (by omega) (by omega)) (And.intro rfl (And.intro rfl (True.intro)))
          · refine l_iinc rfl rfl rfl rfl ?_
            refine l_goto rfl rfl ?_
            exact Rl_weak (ih14 _ (by omega) ((v2 + 1)) (by omega) (by omega) (by omega) rfl) (And.intro rfl (And.intro rfl (True.intro)))
  refine l_iload_n rfl rfl ?_
  refine l_istore_n rfl rfl rfl ?_
  refine l_aload_n rfl rfl ?_
  refine l_gfr rfl rfl rfl rfl rfl (hH.r 904 4 907 rfl) ?_
  refine l_iload_n rfl rfl ?_
  refine l_iaload (n := 5002) rfl rfl (by omega) (by omega) (by unfold rg; omega) ?_
  have w17 : 0 ≤ (Xi S 907 ((first).toNat)) ∧ (Xi S 907 ((first).toNat)) ≤ 154 := hH.c _ _
  refine l_iconst rfl ?_
  refine l_icmp_ne rfl rfl (by unfold rg; omega) (by unfold rg; omega) (fun w18 => ?_) (fun w19 => ?_)
  · exact Rl_weak (C14 _ (first) (by omega) (by omega) (by omega) rfl) (And.intro rfl (And.intro rfl (True.intro)))
  · refine l_iconst rfl ?_
    refine l_ireturn rfl rfl ?_
    exact ⟨rfl, _, rfl, ⟨by omega, by omega⟩, (by first | assumption | omega)⟩
/-! SAFETY of the reference: cutting into tokens -/
theorem w1b : ∀ b : Fin 32, 0 ≤ lorF (lshlF 0 5) (b.val : Int) ∧ lorF (lshlF 0 5) (b.val : Int) < 32 := by decide +kernel
theorem w2b : ∀ a b : Fin 32, 0 ≤ lorF (lshlF (a.val : Int) 5) (b.val : Int) ∧ lorF (lshlF (a.val : Int) 5) (b.val : Int) < 1024 := by decide +kernel
theorem w1i {x : Int} (h : 0 ≤ x ∧ x < 32) : 0 ≤ lorF (lshlF 0 5) x ∧ lorF (lshlF 0 5) x < 32 := by
  have t := w1b ⟨x.toNat, by omega⟩
  rw [show ((x.toNat : Nat) : Int) = x by omega] at t
  exact t
theorem w2i {a x : Int} (ha : 0 ≤ a ∧ a < 32) (h : 0 ≤ x ∧ x < 32) : 0 ≤ lorF (lshlF a 5) x ∧ lorF (lshlF a 5) x < 1024 := by
  have t := w2b ⟨a.toNat, by omega⟩ ⟨x.toNat, by omega⟩
  rw [show ((x.toNat : Nat) : Int) = x by omega, show ((a.toNat : Nat) : Int) = a by omega] at t
  exact t
theorem ltr1 {c : Int} (h : ltr c = 1) : 97 ≤ sml c ∧ sml c ≤ 122 := by
  unfold ltr at h
  split at h
  · assumption
  · exact absurd h (by decide)
/-- key words of three letters and more are large -/
def KWM (S : sS) : Prop := ∀ k : Int, 100 ≤ k → k ≤ 154 → K3 k → 1024 ≤ Xj S 911 (k - 100).toNat
/-- the tokens before m; p lies behind the last of them -/
def CT (S : sS) (m p : Int) : Prop := (∀ i : Nat, (i : Int) < m → Xi S 907 i ≠ 1 ∧ (Xi S 907 i = 5 → Xi S 908 i + 1 + Xi S 909 i ≤ 5000)) ∧ (∀ i : Nat, (i : Int) + 1 < m → Xi S 908 i < Xi S 908 (i + 1) ∧ (K3 (Xi S 907 i) → Xi S 908 i + 3 ≤ Xi S 908 (i + 1))) ∧ (∀ i : Nat, (i : Int) + 1 = m → Xi S 908 i < p ∧ (K3 (Xi S 907 i) → Xi S 908 i + 3 ≤ p))
theorem CT.le {S : sS} {m p p2 : Int} (h : CT S m p) (e : p ≤ p2) : CT S m p2 := ⟨h.1, h.2.1, fun i hi => by
  obtain ⟨a, b⟩ := h.2.2 i hi
  exact ⟨by omega, fun q => by have := b q; omega⟩⟩
theorem CT.mv {S T : sS} {m p : Int} (h : CT S m p) (x : ∀ k : Nat, 907 ≤ k → k ≤ 909 → ∀ i : Nat, (i : Int) < m → Xi T k i = Xi S k i) : CT T m p := by
  refine ⟨fun i hi => ?_, fun i hi => ?_, fun i hi => ?_⟩
  · rw [x 907 (by omega) (by omega) i hi, x 908 (by omega) (by omega) i hi, x 909 (by omega) (by omega) i hi]; exact h.1 i hi
  · rw [x 907 (by omega) (by omega) i (by omega), x 908 (by omega) (by omega) i (by omega), x 908 (by omega) (by omega) (i + 1) (by omega)]; exact h.2.1 i hi
  · rw [x 907 (by omega) (by omega) i (by omega), x 908 (by omega) (by omega) i (by omega)]; exact h.2.2 i hi
theorem CT.w {S U : sS} {m p : Int} {k j : Nat} {v : Int32} (h : CT S m p) (e : U = uI S k j v) (hj : m ≤ j) : CT U m p := h.mv (fun k2 _ _ i hi => by rw [e, Xi_ne (by omega)])
theorem CT.add {S : sS} {m p q : Int} (h : CT S m p) (h0 : 0 ≤ m) (hp : Xi S 908 m.toNat = p) (h1 : Xi S 907 m.toNat ≠ 1) (h5 : Xi S 907 m.toNat = 5 → p + 1 + Xi S 909 m.toNat ≤ 5000) (hq : p < q) (hk : K3 (Xi S 907 m.toNat) → p + 3 ≤ q) : CT S (m + 1) q := by
  refine ⟨fun i hi => ?_, fun i hi => ?_, fun i hi => ?_⟩
  · rcases (by omega : (i : Int) < m ∨ i = m.toNat) with c | c
    · exact h.1 i c
    · rw [c]; exact ⟨h1, fun z => by have := h5 z; omega⟩
  · rcases (by omega : (i : Int) + 1 < m ∨ (i : Int) + 1 = m) with c | c
    · exact h.2.1 i c
    · rw [show i + 1 = m.toNat by omega, hp]; exact h.2.2 i c
  · rw [show i = m.toNat by omega, hp]; exact ⟨hq, hk⟩
theorem CT.rf {S : sS} {p : Int} : CT S 0 p := ⟨fun i hi => absurd hi (by omega), fun i hi => absurd hi (by omega), fun i hi => absurd hi (by omega)⟩
/-- texts lie within the story -/
def TXK (S : sS) (n : Nat) : Prop := ∀ i : Nat, i < n → Xi S 907 i = 5 → Xi S 908 i + 1 + Xi S 909 i ≤ 5000
theorem ct_tk {S U1 U2 : sS} {m p : Int} {a b : Int} {j : Nat} (h : CT S m p) (h0 : 0 ≤ m) (hm : m ≤ 5000) (e1 : U1 = uI S 907 j (Int32.ofInt a)) (e2 : U2 = uI U1 908 j (Int32.ofInt b)) (hj : j = m.toNat) (ha : a = 1) (hb : b = p) (hp : 0 ≤ p ∧ p ≤ 5000) : TK U2 m.toNat ∧ TXK U2 m.toNat := by
  have c : CT U2 m p := (h.w e1 (by omega)).w e2 (by omega)
  have x7 : Xi U2 907 m.toNat = 1 := by rw [e2, Xi_ne (by omega), e1, hj, ha]; exact Xi_same ⟨by omega, by omega⟩
  have x8 : Xi U2 908 m.toNat = p := by rw [e2, hj, hb]; exact Xi_same ⟨by omega, by omega⟩
  refine ⟨⟨by omega, x7, fun i hi => (c.1 i (by omega)).1, fun i hi => ?_⟩, fun i hi => (c.1 i (by omega)).2⟩
  rcases (by omega : (i : Int) + 1 < m ∨ (i : Int) + 1 = m) with q | q
  · exact c.2.1 i q
  · rw [show i + 1 = m.toNat by omega, x8]; exact c.2.2 i q
theorem TXK_FR {l : List rec} {S T : sS} {n : Nat} (h : FR l S T) (e : kdis l [(907, 910)] = true) (hT : TXK S n) : TXK T n := by
  have k := h.smk e
  unfold TXK
  simp only [k.x 907 rfl, k.x 908 rfl, k.x 909 rfl]
  exact hT
abbrev Q_mo_blanks (S : sS) (from_ : Int) : pst := fun r S1 => S = S1 ∧ (∃ z : Int, r = some (iv z) ∧ (0 ≤ z ∧ z ≤ 5001) ∧ (from_ ≤ z) ∧ (from_ ≤ Xi S 904 3 → z ≤ Xi S 904 3))
set_option maxRecDepth 100000 in
theorem t_mo_blanks {S : sS} (hH : HI S) (from_ : Int) (hfrom_ : 0 ≤ from_ ∧ from_ ≤ 5001) (d : Nat) : Mt lay0 (d + 1) m_mo_blanks [.ref 904, iv from_] S (Q_mo_blanks S from_) := by
  refine Mt_R rfl rfl ?_
  have w1 : 0 ≤ Xi S 904 3 ∧ Xi S 904 3 ≤ 5000 := hH.c _ _
  have hst : 0 ≤ Xi S 904 3 ∧ Xi S 904 3 ≤ 5000 := hH.c _ _
  have C4 : ∀ (n4 : Nat) (v2 : Int) (v3 : Int), (0 ≤ v2 ∧ v2 ≤ 5001) → (0 ≤ v3 ∧ v3 ≤ 1) → (from_ ≤ v2) → (from_ ≤ Xi S 904 3 → v2 ≤ Xi S 904 3) → n4 = (2 * (5002 - v2) + v3).toNat → Rl lay0 (d + 0) m_mo_blanks 4 [(0, .ref 904), (2, iv v2), (3, iv v3)] [] S (Q_mo_blanks S from_) := by
    intro n4
    induction n4 using Nat.strongRecOn with
    | ind n4 ih4 =>
      intro v2 v3 w2 w3 w4 w5 hm4
      have C10 : ∀ (n10 : Nat) (v2 : Int) (v3 : Int), (0 ≤ v2 ∧ v2 ≤ 5001) → (0 ≤ v3 ∧ v3 ≤ 0) → (from_ ≤ v2) → (from_ ≤ Xi S 904 3 → v2 ≤ Xi S 904 3) → ((2 * (5002 - v2) + 1).toNat ≤ n4) → n10 = (5002 - v2).toNat → Rl lay0 (d + 0) m_mo_blanks 10 [(0, .ref 904), (2, iv v2), (3, iv v3)] [] S (Q_mo_blanks S from_) := by
        intro n10
        induction n10 using Nat.strongRecOn with
        | ind n10 ih10 =>
          intro v2 v3 w6 w7 w8 w9 w10 hm10
          have C68 : ∀  (v2 : Int) (v3 : Int), (0 ≤ v2 ∧ v2 ≤ 5001) → (0 ≤ v3 ∧ v3 ≤ 0) → (from_ ≤ v2) → (from_ ≤ Xi S 904 3 → v2 ≤ Xi S 904 3) → ((2 * (5002 - v2) + 1).toNat ≤ n4) → Rl lay0 (d + 0) m_mo_blanks 68 [(0, .ref 904), (2, iv v2), (3, iv v3)] [] S (Q_mo_blanks S from_) := by
            intro v2 v3 w11 w12 w13 w14 w15
            have C90 : ∀ (n90 : Nat) (v2 : Int) (v4 : Int), (0 ≤ v2 ∧ v2 ≤ 4999) → (0 ≤ v4 ∧ v4 ≤ 5000) → (from_ ≤ v2) → (v2 ≤ v4) → (v4 ≤ Xi S 904 3) → (v2 < Xi S 904 3) → ((2 * (5002 - v2) + 1).toNat ≤ n4) → n90 = (5002 - v4).toNat → Rl lay0 (d + 0) m_mo_blanks 90 [(0, .ref 904), (2, iv v2), (4, iv v4)] [] S (Q_mo_blanks S from_) := by
              intro n90
              induction n90 using Nat.strongRecOn with
              | ind n90 ih90 =>
                intro v2 v4 w16 w17 w18 w19 w20 w21 w22 hm90
                have C117 : ∀  (v2 : Int) (v4 : Int), (0 ≤ v2 ∧ v2 ≤ 4999) → (0 ≤ v4 ∧ v4 ≤ 5000) → (from_ ≤ v2) → (v2 ≤ v4) → (v4 ≤ Xi S 904 3) → (v2 < Xi S 904 3) → ((2 * (5002 - v2) + 1).toNat ≤ n4) → Rl lay0 (d + 0) m_mo_blanks 117 [(0, .ref 904), (2, iv v2), (4, iv v4)] [] S (Q_mo_blanks S from_) := by
                  intro v2 v4 w23 w24 w25 w26 w27 w28 w29
                  refine l_iload rfl rfl ?_
                  refine l_aload_n rfl rfl ?_
                  refine l_gfi rfl rfl rfl rfl rfl ?_
                  refine l_icmp_ge rfl rfl (by unfold rg; omega) (by unfold rg; omega) (fun w30 => ?_) (fun w31 => ?_)
                  · refine l_iconst rfl ?_
                    refine l_istore_n rfl rfl rfl ?_
                    refine l_iload_n rfl rfl ?_
                    refine l_if_eq rfl rfl (by unfold rg; omega) (fun w32 => ?_) (fun w33 => absurd w33 (by omega))
                    · refine l_iload_n rfl rfl ?_
                      refine l_istore_n rfl rfl rfl ?_
                      refine l_goto rfl rfl ?_
                      exact Rl_weak (ih4 _ (by omega) (v2) (0) (by omega) (by omega) (by omega) (by omega) rfl) (And.intro rfl (And.intro rfl (And.intro rfl (True.intro))))
                  · refine l_iconst rfl ?_
                    refine l_goto rfl rfl ?_
                    refine l_istore_n rfl rfl rfl ?_
                    refine l_iload_n rfl rfl ?_
                    refine l_if_eq rfl rfl (by unfold rg; omega) (fun w34 => absurd w34 (by omega)) (fun w35 => ?_)
                    · refine l_iload rfl rfl ?_
                      refine l_iconst rfl ?_
                      refine l_iadd rfl ?_
                      refine l_goto rfl rfl ?_
                      refine l_istore_n rfl rfl rfl ?_
                      refine l_goto rfl rfl ?_
                      exact Rl_weak (ih4 _ (by omega) ((v4 + 1)) (1) (by omega) (by omega) (by omega) (by omega) rfl) (And.intro rfl (And.intro rfl (And.intro rfl (True.intro))))
                refine l_iload rfl rfl ?_
                refine l_aload_n rfl rfl ?_
                refine l_gfi rfl rfl rfl rfl rfl ?_
                refine l_icmp_ge rfl rfl (by unfold rg; omega) (by unfold rg; omega) (fun w36 => ?_) (fun w37 => ?_)
                · exact Rl_weak (C117 (v2) (v4) (by omega) (by omega) (by omega) (by omega) (by omega) (by omega) (by omega)) (And.intro rfl (And.intro rfl (And.intro rfl (True.intro))))
                · refine l_aload_n rfl rfl ?_
                  refine l_gfr rfl rfl rfl rfl rfl (hH.r 904 2 906 rfl) ?_
                  refine l_iload rfl rfl ?_
                  refine l_baload (n := 5000) rfl rfl rfl (by decide) (by omega) (by omega) (by unfold rg; omega) ?_
                  have w38 : -128 ≤ (Xi S 906 ((v4).toNat)) ∧ (Xi S 906 ((v4).toNat)) ≤ 127 := hH.c _ _
                  refine l_bipush rfl rfl ?_
                  refine l_icmp_eq rfl rfl (by unfold rg; omega) (by unfold rg; omega) (fun w39 => ?_) (fun w40 => ?_)
                  · exact Rl_weak (C117 (v2) (v4) (by omega) (by omega) (by omega) (by omega) (by omega) (by omega) (by omega)) (And.intro rfl (And.intro rfl (And.intro rfl (True.intro))))
                  · refine l_iinc rfl rfl rfl rfl ?_
                    refine l_goto rfl rfl ?_
                    exact Rl_weak (ih90 _ (by omega) (v2) ((v4 + 1)) (by omega) (by omega) (by omega) (by omega) (by omega) (by omega) (by omega) rfl) (And.intro rfl (And.intro rfl (And.intro rfl (True.intro))))
            refine l_iload_n rfl rfl ?_
            refine l_aload_n rfl rfl ?_
            refine l_gfi rfl rfl rfl rfl rfl ?_
            refine l_icmp_ge rfl rfl (by unfold rg; omega) (by unfold rg; omega) (fun w41 => ?_) (fun w42 => ?_)
            · exact Rl_weak (ih4 _ (by omega) (v2) (v3) (by omega) (by omega) (by omega) (by omega) rfl) (And.intro rfl (And.intro rfl (And.intro rfl (True.intro))))
            · refine l_aload_n rfl rfl ?_
              refine l_gfr rfl rfl rfl rfl rfl (hH.r 904 2 906 rfl) ?_
              refine l_iload_n rfl rfl ?_
              refine l_baload (n := 5000) rfl rfl rfl (by decide) (by omega) (by omega) (by unfold rg; omega) ?_
              have w43 : -128 ≤ (Xi S 906 ((v2).toNat)) ∧ (Xi S 906 ((v2).toNat)) ≤ 127 := hH.c _ _
              refine l_bipush rfl rfl ?_
              refine l_icmp_ne rfl rfl (by unfold rg; omega) (by unfold rg; omega) (fun w44 => ?_) (fun w45 => ?_)
              · exact Rl_weak (ih4 _ (by omega) (v2) (v3) (by omega) (by omega) (by omega) (by omega) rfl) (And.intro rfl (And.intro rfl (And.intro rfl (True.intro))))
              · refine l_iload_n rfl rfl ?_
                refine l_istore rfl rfl rfl ?_
                exact Rl_weak (C90 _ (v2) (v2) (by omega) (by omega) (by omega) (by omega) (by omega) (by omega) (by omega) rfl) (And.intro rfl (And.intro rfl (And.intro rfl (True.intro))))
          refine l_iload_n rfl rfl ?_
          refine l_aload_n rfl rfl ?_
          refine l_gfi rfl rfl rfl rfl rfl ?_
          refine l_icmp_ge rfl rfl (by unfold rg; omega) (by unfold rg; omega) (fun w46 => ?_) (fun w47 => ?_)
          · exact Rl_weak (C68 (v2) (v3) (by omega) (by omega) (by omega) (by omega) (by omega)) (And.intro rfl (And.intro rfl (And.intro rfl (True.intro))))
          · refine l_aload_n rfl rfl ?_
            refine l_gfr rfl rfl rfl rfl rfl (hH.r 904 2 906 rfl) ?_
            refine l_iload_n rfl rfl ?_
            refine l_baload (n := 5000) rfl rfl rfl (by decide) (by omega) (by omega) (by unfold rg; omega) ?_
            have w48 : -128 ≤ (Xi S 906 ((v2).toNat)) ∧ (Xi S 906 ((v2).toNat)) ≤ 127 := hH.c _ _
            refine l_bipush rfl rfl ?_
            refine l_icmp_eq rfl rfl (by unfold rg; omega) (by unfold rg; omega) (fun w49 => ?_) (fun w50 => ?_)
            · refine l_iinc rfl rfl rfl rfl ?_
              refine l_goto rfl rfl ?_
              exact Rl_weak (ih10 _ (by omega) ((v2 + 1)) (v3) (by omega) (by omega) (by omega) (by omega) (by omega) rfl) (And.intro rfl (And.intro rfl (And.intro rfl (True.intro))))
            · refine l_aload_n rfl rfl ?_
              refine l_gfr rfl rfl rfl rfl rfl (hH.r 904 2 906 rfl) ?_
              refine l_iload_n rfl rfl ?_
              refine l_baload (n := 5000) rfl rfl rfl (by decide) (by omega) (by omega) (by unfold rg; omega) ?_
              refine l_bipush rfl rfl ?_
              refine l_icmp_eq rfl rfl (by unfold rg; omega) (by unfold rg; omega) (fun w51 => ?_) (fun w52 => ?_)
              · refine l_iinc rfl rfl rfl rfl ?_
                refine l_goto rfl rfl ?_
                exact Rl_weak (ih10 _ (by omega) ((v2 + 1)) (v3) (by omega) (by omega) (by omega) (by omega) (by omega) rfl) (And.intro rfl (And.intro rfl (And.intro rfl (True.intro))))
              · refine l_aload_n rfl rfl ?_
                refine l_gfr rfl rfl rfl rfl rfl (hH.r 904 2 906 rfl) ?_
                refine l_iload_n rfl rfl ?_
                refine l_baload (n := 5000) rfl rfl rfl (by decide) (by omega) (by omega) (by unfold rg; omega) ?_
                refine l_bipush rfl rfl ?_
                refine l_icmp_eq rfl rfl (by unfold rg; omega) (by unfold rg; omega) (fun w53 => ?_) (fun w54 => ?_)
                · refine l_iinc rfl rfl rfl rfl ?_
                  refine l_goto rfl rfl ?_
                  exact Rl_weak (ih10 _ (by omega) ((v2 + 1)) (v3) (by omega) (by omega) (by omega) (by omega) (by omega) rfl) (And.intro rfl (And.intro rfl (And.intro rfl (True.intro))))
                · refine l_aload_n rfl rfl ?_
                  refine l_gfr rfl rfl rfl rfl rfl (hH.r 904 2 906 rfl) ?_
                  refine l_iload_n rfl rfl ?_
                  refine l_baload (n := 5000) rfl rfl rfl (by decide) (by omega) (by omega) (by unfold rg; omega) ?_
                  refine l_bipush rfl rfl ?_
                  refine l_icmp_ne rfl rfl (by unfold rg; omega) (by unfold rg; omega) (fun w55 => ?_) (fun w56 => ?_)
                  · exact Rl_weak (C68 (v2) (v3) (by omega) (by omega) (by omega) (by omega) (by omega)) (And.intro rfl (And.intro rfl (And.intro rfl (True.intro))))
                  · refine l_iinc rfl rfl rfl rfl ?_
                    refine l_goto rfl rfl ?_
                    exact Rl_weak (ih10 _ (by omega) ((v2 + 1)) (v3) (by omega) (by omega) (by omega) (by omega) (by omega) rfl) (And.intro rfl (And.intro rfl (And.intro rfl (True.intro))))
      refine l_iload_n rfl rfl ?_
      refine l_if_eq rfl rfl (by unfold rg; omega) (fun w57 => ?_) (fun w58 => ?_)
      · refine l_iload_n rfl rfl ?_
        refine l_ireturn rfl rfl ?_
        exact ⟨rfl, _, rfl, ⟨by omega, by omega⟩, (by first | assumption | omega), (by first | assumption | omega)⟩
      · refine l_iconst rfl ?_
        refine l_istore_n rfl rfl rfl ?_
        exact Rl_weak (C10 _ (v2) (0) (by omega) (by omega) (by omega) (by omega) (by omega) rfl) (And.intro rfl (And.intro rfl (And.intro rfl (True.intro))))
  refine l_iload_n rfl rfl ?_
  refine l_istore_n rfl rfl rfl ?_
  refine l_iconst rfl ?_
  refine l_istore_n rfl rfl rfl ?_
  exact Rl_weak (C4 _ (from_) (1) (by omega) (by omega) (by omega) (by omega) rfl) (And.intro rfl (And.intro rfl (And.intro rfl (True.intro))))
abbrev Q_mo_keyOf__2 (S : sS) (w : Int) : pst := fun r S1 => S = S1 ∧ (∃ z : Int, r = some (iv z) ∧ (0 ≤ z ∧ z ≤ 154) ∧ (z ≠ 3 → 100 ≤ z ∧ w = Xj S 911 (z - 100).toNat))
set_option maxRecDepth 100000 in
theorem t_mo_keyOf__2 {S : sS} (hH : HI S) (w : Int) (hw : rgL w) (d : Nat) : Mt lay0 (d + 1) m_mo_keyOf [.ref 904, jw w] S (Q_mo_keyOf__2 S w) := by
  refine Mt_R rfl rfl ?_
  have hw2 : -9223372036854775808 ≤ w ∧ w < 9223372036854775808 := hw
  have C2 : ∀ (n2 : Nat) (v3 : Int), (0 ≤ v3 ∧ v3 ≤ 55) → n2 = (56 - v3).toNat → Rl lay0 (d + 0) m_mo_keyOf 2 [(0, .ref 904), (1, jw w), (3, iv v3)] [] S (Q_mo_keyOf__2 S w) := by
    intro n2
    induction n2 using Nat.strongRecOn with
    | ind n2 ih2 =>
      intro v3 w1 hm2
      refine l_iload_n rfl rfl ?_
      refine l_bipush rfl rfl ?_
      refine l_icmp_ge rfl rfl (by unfold rg; omega) (by unfold rg; omega) (fun w2 => ?_) (fun w3 => ?_)
      · refine l_iconst rfl ?_
        refine l_ireturn rfl rfl ?_
        exact ⟨rfl, _, rfl, ⟨by omega, by omega⟩, (by first | (exact fun q => absurd rfl q) | (exact fun _ => ⟨by omega, by rw [show (100 + v3 - 100 : Int) = v3 by omega]; omega⟩))⟩
      · refine l_aload_n rfl rfl ?_
        refine l_gfr rfl rfl rfl rfl rfl (hH.r 904 9 911 rfl) ?_
        refine l_iload_n rfl rfl ?_
        refine l_laload (n := 55) rfl rfl (by omega) (by omega) (by unfold rg; omega) ?_
        have w4 : -9223372036854775808 ≤ (Xj S 911 ((v3).toNat)) ∧ (Xj S 911 ((v3).toNat)) < 9223372036854775808 := Xj_rg
        refine l_lload_n rfl rfl ?_
        refine l_lcmp rfl (by unfold rgL; omega) (by unfold rgL; omega) (fun c5 w5 w5a w5b w5c => ?_)
        refine l_if_ne rfl rfl (by unfold rg; omega) (fun w6 => ?_) (fun w7 => ?_)
        · refine l_iinc rfl rfl rfl rfl ?_
          refine l_goto rfl rfl ?_
          exact Rl_weak (ih2 _ (by omega) ((v3 + 1)) (by omega) rfl) (And.intro rfl (And.intro rfl (And.intro rfl (True.intro))))
        · refine l_bipush rfl rfl ?_
          refine l_iload_n rfl rfl ?_
          refine l_iadd rfl ?_
          refine l_ireturn rfl rfl ?_
          exact ⟨rfl, _, rfl, ⟨by omega, by omega⟩, (by first | (exact fun q => absurd rfl q) | (exact fun _ => ⟨by omega, by rw [show (100 + v3 - 100 : Int) = v3 by omega]; omega⟩))⟩
  refine l_iconst rfl ?_
  refine l_istore_n rfl rfl rfl ?_
  exact Rl_weak (C2 _ (0) (by omega) rfl) (And.intro rfl (And.intro rfl (And.intro rfl (True.intro))))
abbrev Q_mo_wordOf__2 (S : sS) (t : Nat) (from_ : Int) (n : Int) : pst := fun r S1 => S = S1 ∧ (∃ z : Int, r = some (jw z) ∧ (n ≤ 2 → 0 ≤ z ∧ z < 1024))
set_option maxRecDepth 100000 in
theorem t_mo_wordOf__2 {S : sS} (hH : HI S) (t : Nat) (from_ : Int) (n : Int) (ht : bp t) (hfrom_ : 0 ≤ from_ ∧ from_ ≤ 5000) (hn : 0 ≤ n ∧ n ≤ 5000) (hn : from_ + n ≤ 5000) (hl : ∀ i : Nat, from_ ≤ (i : Int) → (i : Int) < from_ + n → ltr (Xi S t i) = 1) (d : Nat) : Mt lay0 (d + 3) m_mo_wordOf [.ref t, iv from_, iv n] S (Q_mo_wordOf__2 S t from_ n) := by
  refine Mt_R rfl rfl ?_
  have C5 : ∀ (n5 : Nat) (v3 : Int) (v5 : Int), (0 ≤ v5 ∧ v5 ≤ 5000) → (v5 = 0 → v3 = 0) → (v5 = 1 → 0 ≤ v3 ∧ v3 < 32) → (v5 = 2 → 0 ≤ v3 ∧ v3 < 1024) → (v5 ≤ n) → n5 = (5001 - v5).toNat → Rl lay0 (d + 2) m_mo_wordOf 5 [(0, .ref t), (1, iv from_), (2, iv n), (3, jw v3), (5, iv v5)] [] S (Q_mo_wordOf__2 S t from_ n) := by
    intro n5
    induction n5 using Nat.strongRecOn with
    | ind n5 ih5 =>
      intro v3 v5 w1 w2 w3 w4 w5 hm5
      refine l_iload rfl rfl ?_
      refine l_iload_n rfl rfl ?_
      refine l_icmp_ge rfl rfl (by unfold rg; omega) (by unfold rg; omega) (fun w6 => ?_) (fun w7 => ?_)
      · refine l_lload_n rfl rfl ?_
        refine l_lreturn rfl rfl ?_
        exact ⟨rfl, _, rfl, (by omega)⟩
      · refine l_lload_n rfl rfl ?_
        refine l_iconst rfl ?_
        refine l_lshlF rfl ?_
        have w8 : rgL (lshlF v3 5) := lshlF_rg
        refine l_aload_n rfl rfl ?_
        refine l_iload_n rfl rfl ?_
        refine l_iload rfl rfl ?_
        refine l_iadd rfl ?_
        refine l_baload (n := 5000) rfl (bp_sv (by assumption)) (lay_bp (by assumption)) (by decide) (by omega) (by omega) (by unfold rg; omega) ?_
        have w9 : -128 ≤ (Xi S t (((from_ + v5)).toNat)) ∧ (Xi S t (((from_ + v5)).toNat)) ≤ 127 := bpc hH (by assumption)
        refine l_callS rfl rfl (by decide) rfl (t_mo_small hH (Xi S t (((from_ + v5)).toNat)) ⟨by omega, by omega⟩ _) ?_
        rintro _ _ ⟨rfl, z12, rfl, w12, w10, w11⟩
        show Rl _ _ _ _ _ [iv z12, jw (lshlF v3 5)] _ _
        have y20 : 97 ≤ z12 ∧ z12 ≤ 122 := by rw [(by assumption : z12 = sml _)]; exact ltr1 (hl (from_ + v5).toNat (by omega) (by omega))
        refine l_bipush rfl rfl ?_
        refine l_isub rfl ?_
        refine l_i2l rfl (by unfold rg; omega) ?_
        refine l_lorF rfl ?_
        have w13 : rgL (lorF (lshlF v3 5) (z12 - 96)) := lorF_rg
        have o27 : v5 = 0 → 0 ≤ (lorF (lshlF v3 5) (z12 - 96)) ∧ (lorF (lshlF v3 5) (z12 - 96)) < 32 := fun q => by rw [show v3 = 0 by omega]; exact w1i (by omega)
        have p27 : v5 = 1 → 0 ≤ (lorF (lshlF v3 5) (z12 - 96)) ∧ (lorF (lshlF v3 5) (z12 - 96)) < 1024 := fun q => w2i (by omega) (by omega)
        refine l_lstore_n rfl rfl rfl rfl ?_
        refine l_iinc rfl rfl rfl rfl ?_
        refine l_goto rfl rfl ?_
        exact Rl_weak (ih5 _ (by omega) ((lorF (lshlF v3 5) (z12 - 96))) ((v5 + 1)) (by omega) (by omega) (by omega) (by omega) (by omega) rfl) (And.intro rfl (And.intro rfl (And.intro rfl (And.intro rfl (And.intro rfl (True.intro))))))
  refine l_lconst (z := 0) rfl rfl ?_
  refine l_lstore_n rfl rfl rfl rfl ?_
  refine l_iconst rfl ?_
  refine l_istore rfl rfl rfl ?_
  exact Rl_weak (C5 _ (0) (0) (by omega) (by omega) (by omega) (by omega) (by omega) rfl) (And.intro rfl (And.intro rfl (And.intro rfl (And.intro rfl (And.intro rfl (True.intro))))))
