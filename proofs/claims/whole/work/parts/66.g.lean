/-! SAFETY: what holds of several cells together -/
/-- a TEXT's token: how long it is, and that it lies on the tape -/
def TOK (S : sS) : Prop := ∀ i : Nat, (i : Int) < Xi S 876 7 → Xi S 877 i = 102 → 0 ≤ Xj S 879 i ∧ Xj S 879 i ≤ 120 ∧ Xi S 878 i + Xj S 879 i + 2 ≤ Xi S 876 5
theorem Xj_same {S : sS} {k j : Nat} {z : Int} (h : rgL z) : Xj (uJ S k j (Int64.ofInt z)) k j = z := by
  have e : (uJ S k j (Int64.ofInt z)).2.1 k j = Int64.ofInt z := by simp only [uJ, va_up, vp_updL, if_true]
  unfold Xj
  rw [e]
  exact toJ h
theorem Xj_ne {S : sS} {k j k1 j1 : Nat} {v : Int64} (h : ¬ (k1 = k ∧ j1 = j)) : Xj (uJ S k j v) k1 j1 = Xj S k1 j1 := by
  unfold Xj uJ
  by_cases hk : k1 = k
  · subst hk
    have hj : j1 ≠ j := fun z => h ⟨rfl, z⟩
    simp [va_up, vp_updL, hj]
  · simp [va_up, hk]
theorem Xi_J {S : sS} {k j a b : Nat} {v : Int64} : Xi (uJ S k j v) a b = Xi S a b := rfl
theorem Xj_I {S : sS} {k j a b : Nat} {v : Int32} : Xj (uI S k j v) a b = Xj S a b := rfl
theorem FR.xj {l : List rec} {S S1 : sS} (h : FR l S S1) (k j : Nat) (e : mdf l k j = false) : Xj S1 k j = Xj S k j := by
  unfold Xj; rw [(h k j e).2.1]
theorem tok_note {S U1 U2 U3 U4 : sS} {ty pl v : Int} (hT : TOK S) (h0 : 0 ≤ Xi S 876 7) (h1 : Xi S 876 7 < 5130) (e1 : U1 = uI S 877 (Xi S 876 7).toNat (Int32.ofInt ty)) (e2 : U2 = uI U1 878 (Xi S 876 7).toNat (Int32.ofInt pl)) (e3 : U3 = uJ U2 879 (Xi S 876 7).toNat (Int64.ofInt v)) (e4 : U4 = uI U3 876 7 (Int32.ofInt (Xi S 876 7 + 1)))
    (hty : 0 ≤ ty ∧ ty ≤ 108) (hpl : 0 ≤ pl ∧ pl ≤ 5000) (hv : ty = 102 → 0 ≤ v ∧ v ≤ 120 ∧ pl + v + 2 ≤ Xi S 876 5) : TOK U4 := by
  subst e1 e2 e3 e4
  intro i hi ht
  have er : Xi (uI (uJ (uI (uI S 877 (Xi S 876 7).toNat (Int32.ofInt ty)) 878 (Xi S 876 7).toNat (Int32.ofInt pl)) 879 (Xi S 876 7).toNat (Int64.ofInt v)) 876 7 (Int32.ofInt (Xi S 876 7 + 1))) 876 7 = Xi S 876 7 + 1 := Xi_same (by unfold rg; omega)
  rw [er] at hi
  rw [Xi_ne (by omega), Xi_J, Xi_ne (by omega)] at ht
  rw [Xj_I, Xi_ne (k1 := 878) (by omega), Xi_J, Xi_ne (k1 := 876) (by omega), Xi_J, Xi_ne (k1 := 876) (by omega), Xi_ne (k1 := 876) (by omega)]
  by_cases hn : i = (Xi S 876 7).toNat
  · rw [hn] at ht ⊢
    rw [Xi_same (by unfold rg; omega)] at ht
    obtain ⟨a, b, c⟩ := hv ht
    rw [Xj_same (by unfold rgL; omega), Xi_same (by unfold rg; omega)]
    exact ⟨a, b, c⟩
  · rw [Xi_ne (by omega)] at ht
    rw [Xj_ne (by omega), Xj_I, Xj_I, Xi_ne (by omega), Xi_ne (by omega)]
    exact hT i (by omega) ht
theorem TOK_rows {S S1 : sS} (hT : TOK S) (h7 : Xi S1 876 7 ≤ Xi S 876 7) (h5 : Xi S1 876 5 = Xi S 876 5) (ea : ∀ j, Xi S1 877 j = Xi S 877 j) (eb : ∀ j, Xi S1 878 j = Xi S 878 j) (ec : ∀ j, Xj S1 879 j = Xj S 879 j) : TOK S1 := by
  intro i hi ht
  rw [ea] at ht
  rw [eb, ec, h5]
  exact hT i (by omega) ht
theorem tok0 {S : sS} (h : Xi S 876 7 = 0) : TOK S := fun i hi => by omega
theorem TOK_w6 {S U : sS} {v : Int32} (e : U = uI S 876 6 v) (h : TOK S) : TOK U := by
  subst e
  intro i hi ht
  rw [Xi_ne (by omega)] at hi ht
  rw [Xj_I, Xi_ne (by omega), Xi_ne (by omega)]
  exact h i hi ht
/-- say is followed by a TEXT, of the tokens before a -/
def SAY (S : sS) (a : Int) : Prop := ∀ r : Nat, (r : Int) < a → Xi S 877 r = 43 → Xi S 877 (r + 1) = 102 ∧ (r : Int) + 1 < a
theorem SAY_fr {S S1 : sS} {a : Int} (h : ∀ j, Xi S1 877 j = Xi S 877 j) (hs : SAY S a) : SAY S1 a := fun r hr ht => by
  rw [h] at ht
  rw [h]
  exact hs r hr ht
theorem SAY_1 {S : sS} {a : Int} (hs : SAY S a) (h0 : 0 ≤ a) (hn : Xi S 877 a.toNat ≠ 43) : SAY S (a + 1) := fun r hr ht => by
  rcases (by omega : (r : Int) < a ∨ r = a.toNat) with h | h
  · obtain ⟨x, y⟩ := hs r h ht
    exact ⟨x, by omega⟩
  · rw [h] at ht
    exact absurd ht hn
theorem SAY_run {S : sS} {a b : Int} (hs : SAY S a) (h0 : a ≤ b) (hf : ∀ r : Nat, a ≤ r → (r : Int) < b → Xi S 877 r = 100) : SAY S b := fun r hr ht => by
  by_cases h : (r : Int) < a
  · obtain ⟨x, y⟩ := hs r h ht
    exact ⟨x, by omega⟩
  · have := hf r (by omega) hr
    omega
theorem SAY_w {S U : sS} {a x : Int} {j : Nat} (e : U = uI S 890 j (Int32.ofInt x)) (hs : SAY S a) : SAY U a := SAY_fr (fun i => by rw [e]; exact Xi_ne (by omega)) hs
theorem run_step {S : sS} {a v : Int} (hq : ∀ r : Nat, a ≤ r → (r : Int) < v → Xi S 877 r = 100) (h0 : 0 ≤ v) (he : Xi S 877 v.toNat = 100) : ∀ r : Nat, a ≤ r → (r : Int) < v + 1 → Xi S 877 r = 100 := fun r h1 h2 => by
  rcases (by omega : (r : Int) < v ∨ r = v.toNat) with h | h
  · exact hq r h1 h
  · rw [h]; exact he
theorem say_two {S U : sS} (hs : SAY S (Xi S 890 1)) (h0 : 0 ≤ Xi S 890 1) (h1 : ∀ j, Xi U 877 j = Xi S 877 j) (b : Xi U 877 (Xi S 890 1 + 1).toNat = 102) (c : Xi U 890 1 = Xi S 890 1 + 2) : SAY U (Xi U 890 1) := fun r hr ht => by
  rw [c] at hr ⊢
  rcases (by omega : (r : Int) < Xi S 890 1 ∨ (r : Int) = Xi S 890 1 ∨ (r : Int) = Xi S 890 1 + 1) with h | h | h
  · rw [h1] at ht
    obtain ⟨x, y⟩ := hs r h ht
    rw [h1]
    exact ⟨x, by omega⟩
  · have e : r + 1 = (Xi S 890 1 + 1).toNat := by omega
    rw [e]
    exact ⟨b, by omega⟩
  · have e : r = (Xi S 890 1 + 1).toNat := by omega
    rw [e, b] at ht
    omega
theorem m877 {l : List rec} {S S1 : sS} (h : FR l S S1) (e : l.all (fun r => Nat.ble r.2.1 877 || Nat.ble 878 r.1) = true) : ∀ j, Xi S1 877 j = Xi S 877 j := fun j => h.x 877 j (by
  unfold mdf
  rw [List.any_eq_false]
  intro r hr
  have z := List.all_eq_true.mp e r hr
  rw [Bool.or_eq_true] at z
  intro q
  unfold inR at q
  simp only [Bool.and_eq_true] at q
  rcases z with z | z
  · have := Nat.le_of_ble_eq_true z; have := Nat.le_of_ble_eq_true q.2.1; omega
  · have := Nat.le_of_ble_eq_true z; have := Nat.le_of_ble_eq_true q.1; omega)
theorem SAY_runw {S U : sS} {a x : Int} (e : U = uI S 890 1 (Int32.ofInt x)) (hx : Xi U 890 1 = x) (hs : SAY S a) (h0 : a ≤ x) (hf : ∀ r : Nat, a ≤ r → (r : Int) < x → Xi S 877 r = 100) : SAY U (Xi U 890 1) := by
  rw [hx]
  exact SAY_w e (SAY_run hs h0 hf)
theorem SAY_artw {S U : sS} {a x : Int} (e : U = uI S 890 1 (Int32.ofInt x)) (hx : Xi U 890 1 = x) (hs : SAY S a) (h0 : 0 ≤ a) (hf : x = a ∨ (x = a + 1 ∧ Xi S 877 a.toNat ≤ 3)) : SAY U (Xi U 890 1) := by
  rw [hx]
  rcases hf with h | ⟨h, h2⟩
  · rw [h] at e ⊢; exact SAY_w e hs
  · rw [h] at e ⊢; exact SAY_w e (SAY_1 hs h0 (by omega))
theorem SAY_1w {S U : sS} {a x : Int} (e : U = uI S 890 1 (Int32.ofInt x)) (hx : Xi U 890 1 = x) (hs : SAY S a) (h0 : 0 ≤ a) (hxa : x = a + 1) (hn : Xi S 877 a.toNat ≠ 43) : SAY U (Xi U 890 1) := by
  rw [hx, hxa]
  rw [hxa] at e
  exact SAY_w e (SAY_1 hs h0 hn)
/-- the RUN of stands at a -/
def PROP (S : sS) (a : Int) : Prop := 0 ≤ a ∧ Xi S 877 a.toNat = 2 ∧ ∃ e : Int, a + 1 < e ∧ e < Xi S 876 7 ∧ Xi S 877 e.toNat = 7 ∧ ∀ r : Nat, a + 1 ≤ r → (r : Int) < e → Xi S 877 r = 100
theorem prop_end {S : sS} {a z : Int} (h : PROP S a) (hz : a + 1 ≤ z) (hf : ∀ r : Nat, a + 1 ≤ r → (r : Int) < z → Xi S 877 r = 100) (hg : z < Xi S 876 7 → 0 ≤ z → Xi S 877 z.toNat ≠ 100) : 0 ≤ a ∧ Xi S 877 a.toNat = 2 ∧ a + 1 < z ∧ z < Xi S 876 7 ∧ Xi S 877 z.toNat = 7 := by
  obtain ⟨h0, h2, e, h3, h4, h5, h6⟩ := h
  have h7 : ¬ e < z := fun q => by
    have := hf e.toNat (by omega) (by omega)
    omega
  have h8 : ¬ z < e := fun q => by
    have := h6 z.toNat (by omega) (by omega)
    exact hg (by omega) (by omega) this
  have h9 : z = e := by omega
  rw [h9]
  exact ⟨h0, h2, h3, h4, h5⟩
theorem SAY_prop {S U : sS} {a z x : Int} (e : U = uI S 890 1 (Int32.ofInt x)) (hx : Xi U 890 1 = x) (hs : SAY S a) (hp : 0 ≤ a ∧ Xi S 877 a.toNat = 2 ∧ a + 1 < z ∧ z < Xi S 876 7 ∧ Xi S 877 z.toNat = 7) (hf : ∀ r : Nat, a + 1 ≤ r → (r : Int) < z → Xi S 877 r = 100) (hxz : x = z + 1) : SAY U (Xi U 890 1) := by
  obtain ⟨h0, h1, h2, h3, h4⟩ := hp
  have s1 := SAY_1 hs h0 (by omega)
  have s2 := SAY_run s1 (by omega) hf
  have s3 := SAY_1 s2 (by omega) (by omega)
  rw [hx, hxz]
  rw [hxz] at e
  exact SAY_w e s3
theorem PROP_of {S : sS} {a z : Int} (h6 : ∀ r : Nat, a + 1 ≤ r → (r : Int) < z → Xi S 877 r = 100) (h0 : 0 ≤ a) (h2 : Xi S 877 a.toNat = 2) (h3 : a + 1 < z) (h4 : z < Xi S 876 7) (h5 : Xi S 877 z.toNat = 7) : PROP S a := ⟨h0, h2, z, h3, h4, h5, h6⟩
theorem PROP_fr {S S1 : sS} {a : Int} (h : ∀ j, Xi S1 877 j = Xi S 877 j) (h7 : Xi S1 876 7 = Xi S 876 7) (hp : PROP S a) : PROP S1 a := by
  obtain ⟨h0, h2, e, h3, h4, h5, h6⟩ := hp
  exact ⟨h0, by rw [h]; exact h2, e, h3, by rw [h7]; exact h4, by rw [h]; exact h5, fun r a b => by rw [h]; exact h6 r a b⟩
theorem SAY_sort {S U : sS} {j : Nat} {x : Int} (e : U = uI S 890 j (Int32.ofInt x)) (h : SAY S (Xi S 890 1)) (hj : 1 ≠ j) : SAY U (Xi U 890 1) := by
  have e1 : Xi U 890 1 = Xi S 890 1 := by rw [e]; exact Xi_ne (by omega)
  rw [e1]
  exact SAY_w e h
theorem SAY_0 {S : sS} : SAY S 0 := fun r hr => by omega
theorem SAY_v0 {V : sS} (h : Xi V 890 1 = 0) : SAY V (Xi V 890 1) := by rw [h]; exact SAY_0
theorem SAY_v1 {S V : sS} (hv : Xi V 890 1 = 1) (h : ∀ j, Xi V 877 j = Xi S 877 j) (k0 : Xi S 877 (0 : Int).toNat ≠ 43) : SAY V (Xi V 890 1) := by
  rw [hv]
  have := SAY_1 (S := V) SAY_0 (by omega) (by rw [h]; exact k0)
  exact this
theorem SAY_v2 {S V : sS} (hv : Xi V 890 1 = 2) (h : ∀ j, Xi V 877 j = Xi S 877 j) (k0 : Xi S 877 (0 : Int).toNat ≠ 43) (k1 : Xi S 877 (1 : Int).toNat ≠ 43) : SAY V (Xi V 890 1) := by
  rw [hv]
  have := SAY_1 (SAY_1 (S := V) SAY_0 (by omega) (by rw [h]; exact k0)) (by omega) (by rw [h]; exact k1)
  exact this
theorem SAY_1x {T U V : sS} {s x : Int} {j : Nat} (e1 : U = uI T 890 j (Int32.ofInt s)) (e2 : V = uI U 890 1 (Int32.ofInt x)) (hx : Xi V 890 1 = x) (hs : SAY T (Xi T 890 1)) (h0 : 0 ≤ Xi T 890 1) (hxa : x = Xi T 890 1 + 1) (k1 : Xi T 877 (Xi T 890 1).toNat ≠ 43) : SAY V (Xi V 890 1) := by
  rw [hx, hxa]
  rw [hxa] at e2
  exact SAY_w e2 (SAY_w e1 (SAY_1 hs h0 k1))
theorem SAY_2x {T U V : sS} {s x : Int} {j : Nat} (e1 : U = uI T 890 j (Int32.ofInt s)) (e2 : V = uI U 890 1 (Int32.ofInt x)) (hx : Xi V 890 1 = x) (hs : SAY T (Xi T 890 1)) (h0 : 0 ≤ Xi T 890 1) (hxa : x = Xi T 890 1 + 2) (k1 : Xi T 877 (Xi T 890 1).toNat ≠ 43) (k2 : Xi T 877 (Xi T 890 1 + 1).toNat ≠ 43) : SAY V (Xi V 890 1) := by
  rw [hx, hxa]
  rw [hxa] at e2
  have := SAY_1 (SAY_1 hs h0 k1) (by omega) k2
  rw [show Xi T 890 1 + 1 + 1 = Xi T 890 1 + 2 by omega] at this
  exact SAY_w e2 (SAY_w e1 this)
theorem say_two2 {S T U : sS} (hs : SAY S (Xi S 890 1)) (h0 : 0 ≤ Xi S 890 1) (hT : ∀ j, Xi T 877 j = Xi S 877 j) (hU : ∀ j, Xi U 877 j = Xi T 877 j) (t1 : Xi T 890 1 = Xi S 890 1 + 1) (b : Xi T 877 (Xi T 890 1).toNat = 102) (c : Xi U 890 1 = Xi T 890 1 + 1) : SAY U (Xi U 890 1) :=
  say_two hs h0 (fun j => (hU j).trans (hT j)) (by rw [hU, ← t1]; exact b) (by omega)
def lsG (pc : Nat) (df x : Int) (P : Nat → Prop) : List (Int × Int) → Prop
  | [] => ∃ t, jm pc df = some t ∧ P t
  | (a, o) :: r => (x = a → ∃ t, jm pc o = some t ∧ P t) ∧ (x ≠ a → lsG pc df x P r)
theorem lsG_at {pc : Nat} {df x : Int} {P : Nat → Prop} : ∀ {l : List (Int × Int)}, lsG pc df x P l → ∃ t, jm pc (Op.lookupswitch.offset l df x) = some t ∧ P t := by
  intro l
  induction l with
  | nil => intro h; exact h
  | cons p r ih =>
    obtain ⟨a, o⟩ := p
    intro h
    by_cases e : x = a
    · obtain ⟨t, h1, h2⟩ := h.1 e
      refine ⟨t, ?_, h2⟩
      rw [Op.lookupswitch.offset_cons, if_pos e.symm]
      exact h1
    · obtain ⟨t, h1, h2⟩ := ih (h.2 e)
      refine ⟨t, ?_, h2⟩
      rw [Op.lookupswitch.offset_cons, if_neg (fun q => e q.symm)]
      exact h1
theorem l_lsw {lay : Nat → Nat × Nat} {d pc : Nat} {q : mT} {L : List (Nat × Value)} {st : List Value} {S : sS} {Q : pst} {x df : Int} {ps : Array (Int × Int)} (hc : lk q.2.2.2.2.2 pc = some (.lookupswitch df ps)) (hs : (ps.toList.zip (ps.toList.drop 1)).all (fun (a, next) => a.1 < next.1) = true) (hx : rg x) (h : lsG pc df x (fun t => Rl lay d q t L st S Q) ps.toList) : Rl lay d q pc L (iv x :: st) S Q := by
  obtain ⟨t, h1, h2⟩ := lsG_at h
  refine Rl_s hc rfl (fun lv ha => ⟨lv, ?_, ha⟩) h2
  show (bif (ps.toList.zip (ps.toList.drop 1)).all (fun (a, next) => a.1 < next.1) then (match jm pc (Op.lookupswitch.offset ps.toList df (Int32.ofInt x).toInt) with
        | some t => some (t, lv, st, S)
        | none => none) else none) = _
  rw [hs, toI hx, h1]
  rfl
theorem x877 {T U : sS} {j : Nat} {v : Int32} (e : U = uI T 890 j v) : ∀ i, Xi U 877 i = Xi T 877 i := fun i => by rw [e]; exact Xi_ne (by omega)
theorem SAY_v1s {S U V : sS} {s : Int} (e1 : U = uI S 890 1 (Int32.ofInt 1)) (e2 : V = uI U 890 2 (Int32.ofInt s)) (k0 : Xi U 877 (0 : Int).toNat ≠ 43) : Xi V 890 1 = 1 ∧ SAY V (Xi V 890 1) := by
  have a : Xi V 890 1 = 1 := by rw [e2, Xi_ne (by omega), e1]; exact Xi_same (by unfold rg; omega)
  exact ⟨a, SAY_v1 a (x877 e2) k0⟩
theorem tk102 {S U : sS} (h : ∀ j, Xi U 877 j = Xi S 877 j) (ha : Xi U 890 1 = 1) (b : Xi U 877 (Xi U 890 1).toNat = 102) : Xi S 877 (1 : Int).toNat = 102 := by rw [ha, h] at b; exact b
theorem tk103 {S P U : sS} (h : ∀ j, Xi U 877 j = Xi S 877 j) (h2 : ∀ j, Xi P 877 j = Xi S 877 j) (c : Xi U 890 1 = Xi P 890 1 + 1) (b : Xi P 877 (Xi P 890 1).toNat = 103) : Xi U 877 (Xi U 890 1 - 1).toNat = 103 := by
  rw [c, show Xi P 890 1 + 1 - 1 = Xi P 890 1 by omega, h, ← h2]; exact b


